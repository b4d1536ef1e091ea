/-! ===== BEGIN printed: names, fields, word lists, decode rows ===== -/
def RX0 : String := "Dimfacts$Fact"
def TX0 : u_T := fun k => match k with
  | 0 => ("Dimfacts$Fact", "key", "I", true)
  | 1 => ("Dimfacts$Fact", "filing", "I", true)
  | 2 => ("Dimfacts$Fact", "value", "I", true)
  | 3 => ("Dimfacts$Fact", "doubt", "I", true)
  | _ => ("Dimfacts$Fact", "next", "LDimfacts$Fact;", false)
def tyX0 : Nat → FieldType := fun k => match k with
  | 0 => .int
  | 1 => .int
  | 2 => .int
  | 3 => .int
  | _ => .object "Dimfacts$Fact"
abbrev wsX00 : List Cond := u_ws RX0 TX0 5
theorem nmX0 : ∀ a, a < 5 → ∀ b, b < 5 → a ≠ b → (TX0 a).2.1 ≠ (TX0 b).2.1 := by decide +kernel
theorem tyX0_ok : ∀ k, k < 5 → parseFieldDescriptor (TX0 k).2.2.1 = some (tyX0 k) := by decide +kernel
abbrev cX0_init : ByteArray := prog_2_method_1_code
def yX0_init : MethodName := ⟨RX0, "<init>", "(IIII)V"⟩
abbrev cX0_replaces : ByteArray := prog_2_method_2_code
def yX0_replaces : MethodName := ⟨RX0, "replaces", "(LDimfacts$Fact;)Z"⟩
abbrev cX0_disagreesWith : ByteArray := prog_2_method_3_code
def yX0_disagreesWith : MethodName := ⟨RX0, "disagreesWith", "(LDimfacts$Fact;)Z"⟩
def RX1 : String := "Dimfacts$FactStore"
def TX1 : u_T := fun k => match k with
  | _ => ("", "", "", false)
def tyX1 : Nat → FieldType := fun k => match k with
  | _ => .int
abbrev wsX10 : List Cond := u_ws RX1 TX1 0
theorem nmX1 : ∀ a, a < 0 → ∀ b, b < 0 → a ≠ b → (TX1 a).2.1 ≠ (TX1 b).2.1 := by decide +kernel
theorem tyX1_ok : ∀ k, k < 0 → parseFieldDescriptor (TX1 k).2.2.1 = some (tyX1 k) := by decide +kernel
abbrev cX1_init : ByteArray := prog_3_method_1_code
def yX1_init : MethodName := ⟨RX1, "<init>", "()V"⟩
def RX2 : String := "Dimfacts$KeyedFacts"
def TX2 : u_T := fun k => match k with
  | _ => ("Dimfacts$KeyedFacts", "firsts", "[LDimfacts$Fact;", true)
def tyX2 : Nat → FieldType := fun k => match k with
  | _ => .array (.object "Dimfacts$Fact")
abbrev wsX20 : List Cond := u_ws RX2 TX2 1
theorem nmX2 : ∀ a, a < 1 → ∀ b, b < 1 → a ≠ b → (TX2 a).2.1 ≠ (TX2 b).2.1 := by decide +kernel
theorem tyX2_ok : ∀ k, k < 1 → parseFieldDescriptor (TX2 k).2.2.1 = some (tyX2 k) := by decide +kernel
abbrev cX2_init : ByteArray := prog_4_method_1_code
def yX2_init : MethodName := ⟨RX2, "<init>", "()V"⟩
abbrev cX2_keep : ByteArray := prog_4_method_2_code
def yX2_keep : MethodName := ⟨RX2, "keep", "(LDimfacts$Fact;)V"⟩
abbrev cX2_holding : ByteArray := prog_4_method_3_code
def yX2_holding : MethodName := ⟨RX2, "holding", "(II)LDimfacts$Fact;"⟩
def RX3 : String := "Dimfacts$ListedFacts"
def TX3 : u_T := fun k => match k with
  | 0 => ("Dimfacts$ListedFacts", "facts", "[LDimfacts$Fact;", true)
  | _ => ("Dimfacts$ListedFacts", "count", "I", false)
def tyX3 : Nat → FieldType := fun k => match k with
  | 0 => .array (.object "Dimfacts$Fact")
  | _ => .int
abbrev wsX30 : List Cond := u_ws RX3 TX3 2
theorem nmX3 : ∀ a, a < 2 → ∀ b, b < 2 → a ≠ b → (TX3 a).2.1 ≠ (TX3 b).2.1 := by decide +kernel
theorem tyX3_ok : ∀ k, k < 2 → parseFieldDescriptor (TX3 k).2.2.1 = some (tyX3 k) := by decide +kernel
abbrev cX3_init : ByteArray := prog_5_method_1_code
def yX3_init : MethodName := ⟨RX3, "<init>", "()V"⟩
abbrev cX3_isFull : ByteArray := prog_5_method_2_code
def yX3_isFull : MethodName := ⟨RX3, "isFull", "()Z"⟩
abbrev cX3_keep : ByteArray := prog_5_method_3_code
def yX3_keep : MethodName := ⟨RX3, "keep", "(LDimfacts$Fact;)V"⟩
abbrev cX3_holding : ByteArray := prog_5_method_4_code
def yX3_holding : MethodName := ⟨RX3, "holding", "(II)LDimfacts$Fact;"⟩
abbrev cX3_countAgainst : ByteArray := prog_5_method_5_code
def yX3_countAgainst : MethodName := ⟨RX3, "countAgainst", "(LDimfacts$Fact;I)I"⟩
def RX4 : String := "Dimfacts"
def TX4 : u_T := fun k => match k with
  | 0 => ("Dimfacts", "parents", "[I", true)
  | 1 => ("Dimfacts", "weights", "[I", true)
  | 2 => ("Dimfacts", "conceptCount", "I", false)
  | 3 => ("Dimfacts", "stocks", "[I", true)
  | 4 => ("Dimfacts", "flows", "[I", true)
  | 5 => ("Dimfacts", "ruleCount", "I", false)
  | 6 => ("Dimfacts", "latest", "I", false)
  | 7 => ("Dimfacts", "listed", "LDimfacts$ListedFacts;", true)
  | 8 => ("Dimfacts", "keyed", "LDimfacts$KeyedFacts;", true)
  | 9 => ("Dimfacts", "reached", "[I", true)
  | _ => ("Dimfacts", "signs", "[I", true)
def tyX4 : Nat → FieldType := fun k => match k with
  | 0 => .array .int
  | 1 => .array .int
  | 2 => .int
  | 3 => .array .int
  | 4 => .array .int
  | 5 => .int
  | 6 => .int
  | 7 => .object "Dimfacts$ListedFacts"
  | 8 => .object "Dimfacts$KeyedFacts"
  | 9 => .array .int
  | _ => .array .int
abbrev wsX40 : List Cond := u_ws RX4 TX4 11
theorem nmX4 : ∀ a, a < 11 → ∀ b, b < 11 → a ≠ b → (TX4 a).2.1 ≠ (TX4 b).2.1 := by decide +kernel
theorem tyX4_ok : ∀ k, k < 11 → parseFieldDescriptor (TX4 k).2.2.1 = some (tyX4 k) := by decide +kernel
abbrev cX4_init : ByteArray := prog_1_method_1_code
def yX4_init : MethodName := ⟨RX4, "<init>", "()V"⟩
abbrev cX4_addConcept : ByteArray := prog_1_method_2_code
def yX4_addConcept : MethodName := ⟨RX4, "addConcept", "()I"⟩
abbrev cX4_hang : ByteArray := prog_1_method_3_code
def yX4_hang : MethodName := ⟨RX4, "hang", "(IIZ)I"⟩
abbrev cX4_unhang : ByteArray := prog_1_method_4_code
def yX4_unhang : MethodName := ⟨RX4, "unhang", "(I)I"⟩
abbrev cX4_addRoll : ByteArray := prog_1_method_5_code
def yX4_addRoll : MethodName := ⟨RX4, "addRoll", "(II)I"⟩
abbrev cX4_file : ByteArray := prog_1_method_6_code
def yX4_file : MethodName := ⟨RX4, "file", "()I"⟩
abbrev cX4_tell : ByteArray := prog_1_method_7_code
def yX4_tell : MethodName := ⟨RX4, "tell", "(IIIII)I"⟩
abbrev cX4_disagreements : ByteArray := prog_1_method_8_code
def yX4_disagreements : MethodName := ⟨RX4, "disagreements", "(I)I"⟩
abbrev cX4_restated : ByteArray := prog_1_method_9_code
def yX4_restated : MethodName := ⟨RX4, "restated", "(I)I"⟩
abbrev cX4_value : ByteArray := prog_1_method_10_code
def yX4_value : MethodName := ⟨RX4, "value", "(IIII)I"⟩
abbrev cX4_doubt : ByteArray := prog_1_method_11_code
def yX4_doubt : MethodName := ⟨RX4, "doubt", "(IIII)I"⟩
abbrev cX4_sum : ByteArray := prog_1_method_12_code
def yX4_sum : MethodName := ⟨RX4, "sum", "(IIII)I"⟩
abbrev cX4_derived : ByteArray := prog_1_method_13_code
def yX4_derived : MethodName := ⟨RX4, "derived", "(IIII)I"⟩
abbrev cX4_isSumOff : ByteArray := prog_1_method_14_code
def yX4_isSumOff : MethodName := ⟨RX4, "isSumOff", "(IIII)Z"⟩
abbrev cX4_areMembersOff : ByteArray := prog_1_method_15_code
def yX4_areMembersOff : MethodName := ⟨RX4, "areMembersOff", "(III)Z"⟩
abbrev cX4_isRollOff : ByteArray := prog_1_method_16_code
def yX4_isRollOff : MethodName := ⟨RX4, "isRollOff", "(IIII)Z"⟩
abbrev cX4_faults : ByteArray := prog_1_method_17_code
def yX4_faults : MethodName := ⟨RX4, "faults", "(I)I"⟩
abbrev cX4_faultsByList : ByteArray := prog_1_method_18_code
def yX4_faultsByList : MethodName := ⟨RX4, "faultsByList", "(I)I"⟩
abbrev cX4_checkConcept : ByteArray := prog_1_method_19_code
def yX4_checkConcept : MethodName := ⟨RX4, "checkConcept", "(I)V"⟩
abbrev cX4_checkPeriodAndMember : ByteArray := prog_1_method_20_code
def yX4_checkPeriodAndMember : MethodName := ⟨RX4, "checkPeriodAndMember", "(II)V"⟩
abbrev cX4_checkKey : ByteArray := prog_1_method_21_code
def yX4_checkKey : MethodName := ⟨RX4, "checkKey", "(III)V"⟩
abbrev cX4_checkFiling : ByteArray := prog_1_method_22_code
def yX4_checkFiling : MethodName := ⟨RX4, "checkFiling", "(I)V"⟩
abbrev cX4_heldFact : ByteArray := prog_1_method_23_code
def yX4_heldFact : MethodName := ⟨RX4, "heldFact", "(IIII)LDimfacts$Fact;"⟩
abbrev cX4_keyOf : ByteArray := prog_1_method_24_code
def yX4_keyOf : MethodName := ⟨RX4, "keyOf", "(III)I"⟩
abbrev cX4_isRestated : ByteArray := prog_1_method_25_code
def yX4_isRestated : MethodName := ⟨RX4, "isRestated", "(II)Z"⟩
abbrev cX4_isAtOrUnder : ByteArray := prog_1_method_26_code
def yX4_isAtOrUnder : MethodName := ⟨RX4, "isAtOrUnder", "(II)Z"⟩
abbrev cX4_reachParts : ByteArray := prog_1_method_27_code
def yX4_reachParts : MethodName := ⟨RX4, "reachParts", "(II)I"⟩
abbrev cX4_partHolding : ByteArray := prog_1_method_28_code
def yX4_partHolding : MethodName := ⟨RX4, "partHolding", "(LDimfacts$FactStore;IIII)LDimfacts$Fact;"⟩
abbrev cX4_sumFails : ByteArray := prog_1_method_29_code
def yX4_sumFails : MethodName := ⟨RX4, "sumFails", "(LDimfacts$FactStore;IIII)Z"⟩
abbrev cX4_membersFail : ByteArray := prog_1_method_30_code
def yX4_membersFail : MethodName := ⟨RX4, "membersFail", "(LDimfacts$FactStore;III)Z"⟩
abbrev cX4_rollFails : ByteArray := prog_1_method_31_code
def yX4_rollFails : MethodName := ⟨RX4, "rollFails", "(LDimfacts$FactStore;IIII)Z"⟩
abbrev cX4_faultsAt : ByteArray := prog_1_method_32_code
def yX4_faultsAt : MethodName := ⟨RX4, "faultsAt", "(LDimfacts$FactStore;II)I"⟩
abbrev cX4_isApart : ByteArray := prog_1_method_33_code
def yX4_isApart : MethodName := ⟨RX4, "isApart", "(III)Z"⟩
def RX5 : String := "DimfactsModel"
def TX5 : u_T := fun k => match k with
  | _ => ("", "", "", false)
def tyX5 : Nat → FieldType := fun k => match k with
  | _ => .int
abbrev wsX50 : List Cond := u_ws RX5 TX5 0
theorem nmX5 : ∀ a, a < 0 → ∀ b, b < 0 → a ≠ b → (TX5 a).2.1 ≠ (TX5 b).2.1 := by decide +kernel
theorem tyX5_ok : ∀ k, k < 0 → parseFieldDescriptor (TX5 k).2.2.1 = some (tyX5 k) := by decide +kernel
def RJx145de : String := "java/io/Serializable"
def TJx145de : u_T := fun k => match k with
  | _ => ("", "", "", false)
def tyJx145de : Nat → FieldType := fun k => match k with
  | _ => .int
abbrev wsJx145de0 : List Cond := u_ws RJx145de TJx145de 0
theorem nmJx145de : ∀ a, a < 0 → ∀ b, b < 0 → a ≠ b → (TJx145de a).2.1 ≠ (TJx145de b).2.1 := by decide +kernel
theorem tyJx145de_ok : ∀ k, k < 0 → parseFieldDescriptor (TJx145de k).2.2.1 = some (tyJx145de k) := by decide +kernel
def RJ9 : String := "java/lang/Math"
def TJ9 : u_T := fun k => match k with
  | _ => ("", "", "", false)
def tyJ9 : Nat → FieldType := fun k => match k with
  | _ => .int
abbrev wsJ90 : List Cond := u_ws RJ9 TJ9 0
theorem nmJ9 : ∀ a, a < 0 → ∀ b, b < 0 → a ≠ b → (TJ9 a).2.1 ≠ (TJ9 b).2.1 := by decide +kernel
theorem tyJ9_ok : ∀ k, k < 0 → parseFieldDescriptor (TJ9 k).2.2.1 = some (tyJ9 k) := by decide +kernel
abbrev cJ9_abs_0f7a4 : ByteArray := prog_13_method_59_code
def yJ9_abs_0f7a4 : MethodName := ⟨RJ9, "abs", "(I)I"⟩
def RJ0 : String := "java/lang/String"
def TJ0 : u_T := fun k => match k with
  | _ => ("", "", "", false)
def tyJ0 : Nat → FieldType := fun k => match k with
  | _ => .int
abbrev wsJ00 : List Cond := u_ws RJ0 TJ0 0
theorem nmJ0 : ∀ a, a < 0 → ∀ b, b < 0 → a ≠ b → (TJ0 a).2.1 ≠ (TJ0 b).2.1 := by decide +kernel
theorem tyJ0_ok : ∀ k, k < 0 → parseFieldDescriptor (TJ0 k).2.2.1 = some (tyJ0 k) := by decide +kernel
def RL : String := "DimfactsLaw"
abbrev cL_draw : ByteArray := method_2_code
def yL_draw : MethodName := ⟨RL, "draw", "([III)I"⟩
abbrev cL_under : ByteArray := method_3_code
def yL_under : MethodName := ⟨RL, "under", "([II)I"⟩
abbrev cL_weight : ByteArray := method_4_code
def yL_weight : MethodName := ⟨RL, "weight", "([II)I"⟩
abbrev cL_held : ByteArray := method_5_code
def yL_held : MethodName := ⟨RL, "held", "(LDimfacts;ZIIII)I"⟩
abbrev cL_derived : ByteArray := method_6_code
def yL_derived : MethodName := ⟨RL, "derived", "(LDimfacts;IIII)I"⟩
abbrev cL_hangs : ByteArray := method_7_code
def yL_hangs : MethodName := ⟨RL, "hangs", "(LDimfacts;IIZ)I"⟩
abbrev cL_rolls : ByteArray := method_8_code
def yL_rolls : MethodName := ⟨RL, "rolls", "(LDimfacts;II)I"⟩
abbrev cL_files : ByteArray := method_9_code
def yL_files : MethodName := ⟨RL, "files", "(LDimfacts;)I"⟩
abbrev cL_isFar : ByteArray := method_10_code
def yL_isFar : MethodName := ⟨RL, "isFar", "(III)Z"⟩
abbrev cL_isKey : ByteArray := method_11_code
def yL_isKey : MethodName := ⟨RL, "isKey", "(LDimfacts;[I[IIIII)Z"⟩
abbrev cL_areMembers : ByteArray := method_12_code
def yL_areMembers : MethodName := ⟨RL, "areMembers", "(LDimfacts;III)Z"⟩
abbrev cL_isRoll : ByteArray := method_13_code
def yL_isRoll : MethodName := ⟨RL, "isRoll", "(LDimfacts;[IIIII)Z"⟩
abbrev cL_areFaults : ByteArray := method_14_code
def yL_areFaults : MethodName := ⟨RL, "areFaults", "(LDimfacts;[II)Z"⟩
abbrev cL_hangsUnder : ByteArray := method_15_code
def yL_hangsUnder : MethodName := ⟨RL, "hangsUnder", "([III)Z"⟩
abbrev cL_tells : ByteArray := method_16_code
def yL_tells : MethodName := ⟨RL, "tells", "(LDimfacts;II[I)Z"⟩
abbrev cL_step : ByteArray := method_17_code
def yL_step : MethodName := ⟨RL, "step", "(LDimfacts;III[I[I[I)Z"⟩
abbrev cL_checker : ByteArray := method_18_code
def yL_checker : MethodName := ⟨RL, "checker", "([II)Z"⟩
abbrev cL_law : ByteArray := code
def yL_law : MethodName := ⟨RL, "law", "([I)Z"⟩
def wsX0_init : List Cond := .code yX0_init cX0_init 5 none :: ([.methodLink RX0 1 objectInit, .instanceMethod objectInit, .code objectInit ⟨#[0xb1]⟩ 1 none, .fieldLink RX0 7 "Dimfacts$Fact" "key" "I", .fieldLink RX0 13 "Dimfacts$Fact" "filing" "I", .fieldLink RX0 16 "Dimfacts$Fact" "value" "I", .fieldLink RX0 19 "Dimfacts$Fact" "doubt" "I"] ++ wsX00)
def wsX0_replaces : List Cond := .code yX0_replaces cX0_replaces 2 (some .boolean) :: ([.fieldLink RX0 13 "Dimfacts$Fact" "filing" "I", .fieldLink RX0 19 "Dimfacts$Fact" "doubt" "I"] ++ wsX00)
def wsX4_isApart : List Cond := .code yX4_isApart cX4_isApart 3 (some .boolean) :: ([.methodLink RX4 203 Lib.Math.abs.name, .static Lib.Math.abs.name, .initialized "java/lang/Math", .code Lib.Math.abs.name Lib.Math.abs.code 1 (some .int)])
def wsX0_disagreesWith : List Cond := .code yX0_disagreesWith cX0_disagreesWith 2 (some .boolean) :: ([.fieldLink RX0 13 "Dimfacts$Fact" "filing" "I", .fieldLink RX0 7 "Dimfacts$Fact" "key" "I", .fieldLink RX0 16 "Dimfacts$Fact" "value" "I", .fieldLink RX0 19 "Dimfacts$Fact" "doubt" "I", .static yX4_isApart, .initialized RX4, .code yX4_isApart cX4_isApart 3 (some .boolean), .methodLink RX4 203 Lib.Math.abs.name, .static Lib.Math.abs.name, .initialized "java/lang/Math", .code Lib.Math.abs.name Lib.Math.abs.code 1 (some .int)] ++ wsX00)
def wsX1_init : List Cond := .code yX1_init cX1_init 1 none :: ([.methodLink RX1 1 objectInit, .instanceMethod objectInit, .code objectInit ⟨#[0xb1]⟩ 1 none])
def wsX2_init : List Cond := .code yX2_init cX2_init 1 none :: ([.classLink RX2 9 RX0, .fieldLink RX2 11 "Dimfacts$KeyedFacts" "firsts" "[LDimfacts$Fact;", .instanceMethod yX1_init, .initialized RX1, .code yX1_init cX1_init 1 none, .methodLink RX1 1 objectInit, .instanceMethod objectInit, .code objectInit ⟨#[0xb1]⟩ 1 none] ++ wsX20)
def wsX2_keep : List Cond := .code yX2_keep cX2_keep 3 none :: ([.fieldLink RX2 11 "Dimfacts$KeyedFacts" "firsts" "[LDimfacts$Fact;", .fieldLink RX2 17 "Dimfacts$Fact" "key" "I", .fieldLink RX2 25 "Dimfacts$Fact" "next" "LDimfacts$Fact;", .methodLink RX2 21 yX0_replaces, .instanceMethod yX0_replaces, .selects RX0 yX0_replaces yX0_replaces, .initialized RX0, .code yX0_replaces cX0_replaces 2 (some .boolean), .fieldLink RX0 13 "Dimfacts$Fact" "filing" "I", .fieldLink RX0 19 "Dimfacts$Fact" "doubt" "I"] ++ wsX20 ++ wsX00)
def wsX2_holding : List Cond := .code yX2_holding cX2_holding 4 (some (.object "Dimfacts$Fact")) :: ([.fieldLink RX2 11 "Dimfacts$KeyedFacts" "firsts" "[LDimfacts$Fact;", .fieldLink RX2 29 "Dimfacts$Fact" "filing" "I", .fieldLink RX2 25 "Dimfacts$Fact" "next" "LDimfacts$Fact;"] ++ wsX20 ++ wsX00)
def wsX3_init : List Cond := .code yX3_init cX3_init 1 none :: ([.classLink RX3 9 RX0, .fieldLink RX3 11 "Dimfacts$ListedFacts" "facts" "[LDimfacts$Fact;", .instanceMethod yX1_init, .initialized RX1, .code yX1_init cX1_init 1 none, .methodLink RX1 1 objectInit, .instanceMethod objectInit, .code objectInit ⟨#[0xb1]⟩ 1 none] ++ wsX30)
def wsX3_isFull : List Cond := .code yX3_isFull cX3_isFull 1 (some .boolean) :: ([.fieldLink RX3 17 "Dimfacts$ListedFacts" "count" "I"] ++ wsX30)
def wsX3_keep : List Cond := .code yX3_keep cX3_keep 2 none :: ([.fieldLink RX3 17 "Dimfacts$ListedFacts" "count" "I", .fieldLink RX3 11 "Dimfacts$ListedFacts" "facts" "[LDimfacts$Fact;"] ++ wsX30)
def wsX3_holding : List Cond := .code yX3_holding cX3_holding 6 (some (.object "Dimfacts$Fact")) :: ([.fieldLink RX3 17 "Dimfacts$ListedFacts" "count" "I", .fieldLink RX3 11 "Dimfacts$ListedFacts" "facts" "[LDimfacts$Fact;", .fieldLink RX3 21 "Dimfacts$Fact" "key" "I", .fieldLink RX3 24 "Dimfacts$Fact" "filing" "I", .methodLink RX3 27 yX0_replaces, .instanceMethod yX0_replaces, .selects RX0 yX0_replaces yX0_replaces, .initialized RX0, .code yX0_replaces cX0_replaces 2 (some .boolean), .fieldLink RX0 13 "Dimfacts$Fact" "filing" "I", .fieldLink RX0 19 "Dimfacts$Fact" "doubt" "I"] ++ wsX30 ++ wsX00)
def wsX3_countAgainst : List Cond := .code yX3_countAgainst cX3_countAgainst 6 (some .int) :: ([.fieldLink RX3 11 "Dimfacts$ListedFacts" "facts" "[LDimfacts$Fact;", .methodLink RX3 31 yX0_disagreesWith, .instanceMethod yX0_disagreesWith, .selects RX0 yX0_disagreesWith yX0_disagreesWith, .initialized RX0, .code yX0_disagreesWith cX0_disagreesWith 2 (some .boolean), .fieldLink RX0 13 "Dimfacts$Fact" "filing" "I", .fieldLink RX0 7 "Dimfacts$Fact" "key" "I", .fieldLink RX0 16 "Dimfacts$Fact" "value" "I", .fieldLink RX0 19 "Dimfacts$Fact" "doubt" "I", .static yX4_isApart, .initialized RX4, .code yX4_isApart cX4_isApart 3 (some .boolean), .methodLink RX4 203 Lib.Math.abs.name, .static Lib.Math.abs.name, .initialized "java/lang/Math", .code Lib.Math.abs.name Lib.Math.abs.code 1 (some .int)] ++ wsX30 ++ wsX00)
def wsX4_init_r1 : List Cond := [Cond.methodLink RX4 3 objectInit, Cond.instanceMethod objectInit, Cond.code objectInit ⟨#[0xb1]⟩ 1 none, Cond.arrayClass .int, Cond.fieldLink RX4 9 "Dimfacts" "parents" "[I", Cond.fieldLink RX4 13 "Dimfacts" "weights" "[I", Cond.fieldLink RX4 16 "Dimfacts" "stocks" "[I", Cond.fieldLink RX4 19 "Dimfacts" "flows" "[I", Cond.classLink RX4 22 RX3, Cond.instantiable RX3 2, Cond.initialized RX3, Cond.fieldLink RX4 25 "Dimfacts" "listed" "LDimfacts$ListedFacts;", Cond.classLink RX4 29 RX2, Cond.instantiable RX2 1, Cond.initialized RX2, Cond.fieldLink RX4 32 "Dimfacts" "keyed" "LDimfacts$KeyedFacts;", Cond.fieldLink RX4 36 "Dimfacts" "reached" "[I", Cond.fieldLink RX4 39 "Dimfacts" "signs" "[I", Cond.instanceMethod yX3_init, Cond.code yX3_init cX3_init 1 none, Cond.classLink RX3 9 RX0, Cond.fieldLink RX3 11 "Dimfacts$ListedFacts" "facts" "[LDimfacts$Fact;", Cond.instanceMethod yX1_init, Cond.initialized RX1]
def wsX4_init_r2 : List Cond := [Cond.code yX1_init cX1_init 1 none, Cond.methodLink RX1 1 objectInit, Cond.instanceMethod yX2_init, Cond.code yX2_init cX2_init 1 none, Cond.classLink RX2 9 RX0, Cond.fieldLink RX2 11 "Dimfacts$KeyedFacts" "firsts" "[LDimfacts$Fact;"]
def wsX4_init : List Cond := .code yX4_init cX4_init 1 none :: ((wsX4_init_r1 ++ wsX4_init_r2) ++ wsX40 ++ wsX30 ++ wsX20)
def wsX4_addConcept : List Cond := .code yX4_addConcept cX4_addConcept 2 (some .int) :: ([.classLink RX4 46 "java/lang/IllegalStateException", .initialized "java/lang/IllegalStateException", .fieldLink RX4 42 "Dimfacts" "conceptCount" "I", .fieldLink RX4 9 "Dimfacts" "parents" "[I"] ++ wsX40 ++ (vx_atS RX4 50 "java/lang/IllegalStateException" ["java/lang/RuntimeException", "java/lang/Exception"]).filter goodWord)
def wsX4_checkConcept : List Cond := .code yX4_checkConcept cX4_checkConcept 2 none :: ([.classLink RX4 166 "java/lang/IndexOutOfBoundsException", .initialized "java/lang/IndexOutOfBoundsException", .fieldLink RX4 42 "Dimfacts" "conceptCount" "I"] ++ wsX40 ++ (vx_atS RX4 170 "java/lang/IndexOutOfBoundsException" ["java/lang/RuntimeException", "java/lang/Exception"]).filter goodWord)
def wsX4_isAtOrUnder : List Cond := .code yX4_isAtOrUnder cX4_isAtOrUnder 5 (some .boolean) :: ([.fieldLink RX4 9 "Dimfacts" "parents" "[I"] ++ wsX40)
def wsX4_hang : List Cond := .code yX4_hang cX4_hang 5 (some .int) :: ([.classLink RX4 61 "java/lang/IllegalArgumentException", .initialized "java/lang/IllegalArgumentException", .fieldLink RX4 9 "Dimfacts" "parents" "[I", .fieldLink RX4 13 "Dimfacts" "weights" "[I", .methodLink RX4 53 yX4_checkConcept, .instanceMethod yX4_checkConcept, .selects RX4 yX4_checkConcept yX4_checkConcept, .initialized RX4, .code yX4_checkConcept cX4_checkConcept 2 none, .classLink RX4 166 "java/lang/IndexOutOfBoundsException", .initialized "java/lang/IndexOutOfBoundsException", .fieldLink RX4 42 "Dimfacts" "conceptCount" "I", .methodLink RX4 57 yX4_isAtOrUnder, .instanceMethod yX4_isAtOrUnder, .selects RX4 yX4_isAtOrUnder yX4_isAtOrUnder, .code yX4_isAtOrUnder cX4_isAtOrUnder 5 (some .boolean)] ++ wsX40 ++ (vx_atS RX4 65 "java/lang/IllegalArgumentException" ["java/lang/RuntimeException", "java/lang/Exception"]).filter goodWord ++ (vx_atS RX4 170 "java/lang/IndexOutOfBoundsException" ["java/lang/RuntimeException", "java/lang/Exception"]).filter goodWord)
def wsX4_unhang : List Cond := .code yX4_unhang cX4_unhang 3 (some .int) :: ([.fieldLink RX4 9 "Dimfacts" "parents" "[I", .methodLink RX4 53 yX4_checkConcept, .instanceMethod yX4_checkConcept, .selects RX4 yX4_checkConcept yX4_checkConcept, .initialized RX4, .code yX4_checkConcept cX4_checkConcept 2 none, .classLink RX4 166 "java/lang/IndexOutOfBoundsException", .initialized "java/lang/IndexOutOfBoundsException", .fieldLink RX4 42 "Dimfacts" "conceptCount" "I"] ++ wsX40 ++ (vx_atS RX4 170 "java/lang/IndexOutOfBoundsException" ["java/lang/RuntimeException", "java/lang/Exception"]).filter goodWord)
def wsX4_addRoll : List Cond := .code yX4_addRoll cX4_addRoll 4 (some .int) :: ([.classLink RX4 61 "java/lang/IllegalArgumentException", .initialized "java/lang/IllegalArgumentException", .classLink RX4 46 "java/lang/IllegalStateException", .initialized "java/lang/IllegalStateException", .fieldLink RX4 68 "Dimfacts" "ruleCount" "I", .fieldLink RX4 16 "Dimfacts" "stocks" "[I", .fieldLink RX4 19 "Dimfacts" "flows" "[I", .methodLink RX4 53 yX4_checkConcept, .instanceMethod yX4_checkConcept, .selects RX4 yX4_checkConcept yX4_checkConcept, .initialized RX4, .code yX4_checkConcept cX4_checkConcept 2 none, .classLink RX4 166 "java/lang/IndexOutOfBoundsException", .initialized "java/lang/IndexOutOfBoundsException", .fieldLink RX4 42 "Dimfacts" "conceptCount" "I"] ++ wsX40 ++ (vx_atS RX4 65 "java/lang/IllegalArgumentException" ["java/lang/RuntimeException", "java/lang/Exception"]).filter goodWord ++ (vx_atS RX4 50 "java/lang/IllegalStateException" ["java/lang/RuntimeException", "java/lang/Exception"]).filter goodWord ++ (vx_atS RX4 170 "java/lang/IndexOutOfBoundsException" ["java/lang/RuntimeException", "java/lang/Exception"]).filter goodWord)
def wsX4_file : List Cond := .code yX4_file cX4_file 1 (some .int) :: ([.classLink RX4 46 "java/lang/IllegalStateException", .initialized "java/lang/IllegalStateException", .fieldLink RX4 73 "Dimfacts" "latest" "I"] ++ wsX40 ++ (vx_atS RX4 50 "java/lang/IllegalStateException" ["java/lang/RuntimeException", "java/lang/Exception"]).filter goodWord)
def wsX4_checkPeriodAndMember : List Cond := .code yX4_checkPeriodAndMember cX4_checkPeriodAndMember 2 none :: ([.classLink RX4 166 "java/lang/IndexOutOfBoundsException", .initialized "java/lang/IndexOutOfBoundsException"] ++ (vx_atS RX4 170 "java/lang/IndexOutOfBoundsException" ["java/lang/RuntimeException", "java/lang/Exception"]).filter goodWord)
def wsX4_checkKey : List Cond := .code yX4_checkKey cX4_checkKey 4 none :: ([.methodLink RX4 53 yX4_checkConcept, .instanceMethod yX4_checkConcept, .selects RX4 yX4_checkConcept yX4_checkConcept, .initialized RX4, .code yX4_checkConcept cX4_checkConcept 2 none, .classLink RX4 166 "java/lang/IndexOutOfBoundsException", .initialized "java/lang/IndexOutOfBoundsException", .fieldLink RX4 42 "Dimfacts" "conceptCount" "I", .methodLink RX4 171 yX4_checkPeriodAndMember, .static yX4_checkPeriodAndMember, .code yX4_checkPeriodAndMember cX4_checkPeriodAndMember 2 none] ++ wsX40 ++ (vx_atS RX4 170 "java/lang/IndexOutOfBoundsException" ["java/lang/RuntimeException", "java/lang/Exception"]).filter goodWord)
def wsX4_keyOf : List Cond := .code yX4_keyOf cX4_keyOf 3 (some .int) :: ([])
def wsX4_tell_r1 : List Cond := [Cond.classLink RX4 61 "java/lang/IllegalArgumentException", Cond.initialized "java/lang/IllegalArgumentException", Cond.classLink RX4 46 "java/lang/IllegalStateException", Cond.initialized "java/lang/IllegalStateException", Cond.constant RX4 82 (-1000000), Cond.constant RX4 83 (1000000), Cond.fieldLink RX4 25 "Dimfacts" "listed" "LDimfacts$ListedFacts;", Cond.classLink RX4 94 RX0, Cond.instantiable RX0 5, Cond.initialized RX0, Cond.fieldLink RX4 73 "Dimfacts" "latest" "I", Cond.fieldLink RX4 100 "Dimfacts" "DOUBTS" "[I", Cond.fieldLink RX4 32 "Dimfacts" "keyed" "LDimfacts$KeyedFacts;", Cond.fieldLink RX4 111 "Dimfacts$ListedFacts" "count" "I", Cond.methodLink RX4 78 yX4_checkKey, Cond.instanceMethod yX4_checkKey, Cond.selects RX4 yX4_checkKey yX4_checkKey, Cond.initialized RX4, Cond.code yX4_checkKey cX4_checkKey 4 none, Cond.methodLink RX4 53 yX4_checkConcept, Cond.instanceMethod yX4_checkConcept, Cond.selects RX4 yX4_checkConcept yX4_checkConcept, Cond.code yX4_checkConcept cX4_checkConcept 2 none, Cond.classLink RX4 166 "java/lang/IndexOutOfBoundsException"]
def wsX4_tell_r2 : List Cond := [Cond.initialized "java/lang/IndexOutOfBoundsException", Cond.fieldLink RX4 42 "Dimfacts" "conceptCount" "I", Cond.methodLink RX4 171 yX4_checkPeriodAndMember, Cond.static yX4_checkPeriodAndMember, Cond.code yX4_checkPeriodAndMember cX4_checkPeriodAndMember 2 none, Cond.methodLink RX4 88 yX3_isFull, Cond.instanceMethod yX3_isFull, Cond.selects RX3 yX3_isFull yX3_isFull, Cond.initialized RX3, Cond.code yX3_isFull cX3_isFull 1 (some .boolean), Cond.fieldLink RX3 17 "Dimfacts$ListedFacts" "count" "I", Cond.methodLink RX4 96 yX4_keyOf, Cond.static yX4_keyOf, Cond.code yX4_keyOf cX4_keyOf 3 (some .int), Cond.methodLink RX4 103 yX0_init, Cond.instanceMethod yX0_init, Cond.code yX0_init cX0_init 5 none, Cond.methodLink RX0 1 objectInit, Cond.instanceMethod objectInit, Cond.code objectInit ⟨#[0xb1]⟩ 1 none, Cond.fieldLink RX0 7 "Dimfacts$Fact" "key" "I", Cond.fieldLink RX0 13 "Dimfacts$Fact" "filing" "I", Cond.fieldLink RX0 16 "Dimfacts$Fact" "value" "I", Cond.fieldLink RX0 19 "Dimfacts$Fact" "doubt" "I"]
def wsX4_tell_r3 : List Cond := [Cond.methodLink RX4 106 yX3_keep, Cond.instanceMethod yX3_keep, Cond.selects RX3 yX3_keep yX3_keep, Cond.code yX3_keep cX3_keep 2 none, Cond.fieldLink RX3 11 "Dimfacts$ListedFacts" "facts" "[LDimfacts$Fact;", Cond.methodLink RX4 110 yX2_keep, Cond.instanceMethod yX2_keep, Cond.selects RX2 yX2_keep yX2_keep, Cond.initialized RX2, Cond.code yX2_keep cX2_keep 3 none, Cond.fieldLink RX2 11 "Dimfacts$KeyedFacts" "firsts" "[LDimfacts$Fact;", Cond.fieldLink RX2 17 "Dimfacts$Fact" "key" "I", Cond.fieldLink RX2 25 "Dimfacts$Fact" "next" "LDimfacts$Fact;", Cond.methodLink RX2 21 yX0_replaces, Cond.instanceMethod yX0_replaces, Cond.selects RX0 yX0_replaces yX0_replaces, Cond.code yX0_replaces cX0_replaces 2 (some .boolean)]
def wsX4_tell : List Cond := .code yX4_tell cX4_tell 7 (some .int) :: ((wsX4_tell_r1 ++ (wsX4_tell_r2 ++ wsX4_tell_r3)) ++ wsX40 ++ wsX00 ++ wsX30 ++ wsX20 ++ (vx_atS RX4 65 "java/lang/IllegalArgumentException" ["java/lang/RuntimeException", "java/lang/Exception"]).filter goodWord ++ (vx_atS RX4 50 "java/lang/IllegalStateException" ["java/lang/RuntimeException", "java/lang/Exception"]).filter goodWord ++ (vx_atS RX4 170 "java/lang/IndexOutOfBoundsException" ["java/lang/RuntimeException", "java/lang/Exception"]).filter goodWord)
def wsX4_checkFiling : List Cond := .code yX4_checkFiling cX4_checkFiling 2 none :: ([.classLink RX4 166 "java/lang/IndexOutOfBoundsException", .initialized "java/lang/IndexOutOfBoundsException", .fieldLink RX4 73 "Dimfacts" "latest" "I"] ++ wsX40 ++ (vx_atS RX4 170 "java/lang/IndexOutOfBoundsException" ["java/lang/RuntimeException", "java/lang/Exception"]).filter goodWord)
def wsX4_disagreements_r1 : List Cond := [Cond.fieldLink RX4 25 "Dimfacts" "listed" "LDimfacts$ListedFacts;", Cond.fieldLink RX4 111 "Dimfacts$ListedFacts" "count" "I", Cond.fieldLink RX4 117 "Dimfacts$ListedFacts" "facts" "[LDimfacts$Fact;", Cond.fieldLink RX4 121 "Dimfacts$Fact" "filing" "I", Cond.methodLink RX4 114 yX4_checkFiling, Cond.instanceMethod yX4_checkFiling, Cond.selects RX4 yX4_checkFiling yX4_checkFiling, Cond.initialized RX4, Cond.code yX4_checkFiling cX4_checkFiling 2 none, Cond.classLink RX4 166 "java/lang/IndexOutOfBoundsException", Cond.initialized "java/lang/IndexOutOfBoundsException", Cond.fieldLink RX4 73 "Dimfacts" "latest" "I", Cond.methodLink RX4 124 yX3_countAgainst, Cond.instanceMethod yX3_countAgainst, Cond.selects RX3 yX3_countAgainst yX3_countAgainst, Cond.initialized RX3, Cond.code yX3_countAgainst cX3_countAgainst 6 (some .int), Cond.fieldLink RX3 11 "Dimfacts$ListedFacts" "facts" "[LDimfacts$Fact;", Cond.methodLink RX3 31 yX0_disagreesWith, Cond.instanceMethod yX0_disagreesWith, Cond.selects RX0 yX0_disagreesWith yX0_disagreesWith, Cond.initialized RX0, Cond.code yX0_disagreesWith cX0_disagreesWith 2 (some .boolean), Cond.fieldLink RX0 13 "Dimfacts$Fact" "filing" "I"]
def wsX4_disagreements_r2 : List Cond := [Cond.fieldLink RX0 7 "Dimfacts$Fact" "key" "I", Cond.fieldLink RX0 16 "Dimfacts$Fact" "value" "I", Cond.fieldLink RX0 19 "Dimfacts$Fact" "doubt" "I", Cond.static yX4_isApart, Cond.code yX4_isApart cX4_isApart 3 (some .boolean), Cond.methodLink RX4 203 Lib.Math.abs.name, Cond.static Lib.Math.abs.name, Cond.initialized "java/lang/Math", Cond.code Lib.Math.abs.name Lib.Math.abs.code 1 (some .int)]
def wsX4_disagreements : List Cond := .code yX4_disagreements cX4_disagreements 5 (some .int) :: ((wsX4_disagreements_r1 ++ wsX4_disagreements_r2) ++ wsX40 ++ wsX30 ++ wsX00 ++ (vx_atS RX4 170 "java/lang/IndexOutOfBoundsException" ["java/lang/RuntimeException", "java/lang/Exception"]).filter goodWord)
def wsX4_isRestated : List Cond := .code yX4_isRestated cX4_isRestated 5 (some .boolean) :: ([.fieldLink RX4 32 "Dimfacts" "keyed" "LDimfacts$KeyedFacts;", .fieldLink RX4 121 "Dimfacts$Fact" "filing" "I", .fieldLink RX4 135 "Dimfacts$Fact" "value" "I", .methodLink RX4 145 yX2_holding, .instanceMethod yX2_holding, .selects RX2 yX2_holding yX2_holding, .initialized RX2, .code yX2_holding cX2_holding 4 (some (.object "Dimfacts$Fact")), .fieldLink RX2 11 "Dimfacts$KeyedFacts" "firsts" "[LDimfacts$Fact;", .fieldLink RX2 29 "Dimfacts$Fact" "filing" "I", .fieldLink RX2 25 "Dimfacts$Fact" "next" "LDimfacts$Fact;"] ++ wsX40 ++ wsX00 ++ wsX20)
def wsX4_restated : List Cond := .code yX4_restated cX4_restated 4 (some .int) :: ([.fieldLink RX4 42 "Dimfacts" "conceptCount" "I", .methodLink RX4 114 yX4_checkFiling, .instanceMethod yX4_checkFiling, .selects RX4 yX4_checkFiling yX4_checkFiling, .initialized RX4, .code yX4_checkFiling cX4_checkFiling 2 none, .classLink RX4 166 "java/lang/IndexOutOfBoundsException", .initialized "java/lang/IndexOutOfBoundsException", .fieldLink RX4 73 "Dimfacts" "latest" "I", .methodLink RX4 128 yX4_isRestated, .instanceMethod yX4_isRestated, .selects RX4 yX4_isRestated yX4_isRestated, .code yX4_isRestated cX4_isRestated 5 (some .boolean), .fieldLink RX4 32 "Dimfacts" "keyed" "LDimfacts$KeyedFacts;", .fieldLink RX4 121 "Dimfacts$Fact" "filing" "I", .fieldLink RX4 135 "Dimfacts$Fact" "value" "I", .methodLink RX4 145 yX2_holding, .instanceMethod yX2_holding, .selects RX2 yX2_holding yX2_holding, .initialized RX2, .code yX2_holding cX2_holding 4 (some (.object "Dimfacts$Fact")), .fieldLink RX2 11 "Dimfacts$KeyedFacts" "firsts" "[LDimfacts$Fact;", .fieldLink RX2 29 "Dimfacts$Fact" "filing" "I", .fieldLink RX2 25 "Dimfacts$Fact" "next" "LDimfacts$Fact;"] ++ wsX40 ++ wsX00 ++ wsX20 ++ (vx_atS RX4 170 "java/lang/IndexOutOfBoundsException" ["java/lang/RuntimeException", "java/lang/Exception"]).filter goodWord)
def wsX4_heldFact_r1 : List Cond := [Cond.classLink RX4 153 "java/util/NoSuchElementException", Cond.initialized "java/util/NoSuchElementException", Cond.fieldLink RX4 32 "Dimfacts" "keyed" "LDimfacts$KeyedFacts;", Cond.methodLink RX4 78 yX4_checkKey, Cond.instanceMethod yX4_checkKey, Cond.selects RX4 yX4_checkKey yX4_checkKey, Cond.initialized RX4, Cond.code yX4_checkKey cX4_checkKey 4 none, Cond.methodLink RX4 53 yX4_checkConcept, Cond.instanceMethod yX4_checkConcept, Cond.selects RX4 yX4_checkConcept yX4_checkConcept, Cond.code yX4_checkConcept cX4_checkConcept 2 none, Cond.classLink RX4 166 "java/lang/IndexOutOfBoundsException", Cond.initialized "java/lang/IndexOutOfBoundsException", Cond.fieldLink RX4 42 "Dimfacts" "conceptCount" "I", Cond.methodLink RX4 171 yX4_checkPeriodAndMember, Cond.static yX4_checkPeriodAndMember, Cond.code yX4_checkPeriodAndMember cX4_checkPeriodAndMember 2 none, Cond.methodLink RX4 114 yX4_checkFiling, Cond.instanceMethod yX4_checkFiling, Cond.selects RX4 yX4_checkFiling yX4_checkFiling, Cond.code yX4_checkFiling cX4_checkFiling 2 none, Cond.fieldLink RX4 73 "Dimfacts" "latest" "I", Cond.methodLink RX4 96 yX4_keyOf]
def wsX4_heldFact_r2 : List Cond := [Cond.static yX4_keyOf, Cond.code yX4_keyOf cX4_keyOf 3 (some .int), Cond.methodLink RX4 145 yX2_holding, Cond.instanceMethod yX2_holding, Cond.selects RX2 yX2_holding yX2_holding, Cond.initialized RX2, Cond.code yX2_holding cX2_holding 4 (some (.object "Dimfacts$Fact")), Cond.fieldLink RX2 11 "Dimfacts$KeyedFacts" "firsts" "[LDimfacts$Fact;", Cond.fieldLink RX2 29 "Dimfacts$Fact" "filing" "I", Cond.fieldLink RX2 25 "Dimfacts$Fact" "next" "LDimfacts$Fact;"]
def wsX4_heldFact : List Cond := .code yX4_heldFact cX4_heldFact 6 (some (.object "Dimfacts$Fact")) :: ((wsX4_heldFact_r1 ++ wsX4_heldFact_r2) ++ wsX40 ++ wsX20 ++ wsX00 ++ (nx_at RX4 157).filter goodWord ++ (vx_atS RX4 170 "java/lang/IndexOutOfBoundsException" ["java/lang/RuntimeException", "java/lang/Exception"]).filter goodWord)
def wsX4_value_r1 : List Cond := [Cond.fieldLink RX4 135 "Dimfacts$Fact" "value" "I", Cond.methodLink RX4 131 yX4_heldFact, Cond.instanceMethod yX4_heldFact, Cond.selects RX4 yX4_heldFact yX4_heldFact, Cond.initialized RX4, Cond.code yX4_heldFact cX4_heldFact 6 (some (.object "Dimfacts$Fact")), Cond.classLink RX4 153 "java/util/NoSuchElementException", Cond.initialized "java/util/NoSuchElementException", Cond.fieldLink RX4 32 "Dimfacts" "keyed" "LDimfacts$KeyedFacts;", Cond.methodLink RX4 78 yX4_checkKey, Cond.instanceMethod yX4_checkKey, Cond.selects RX4 yX4_checkKey yX4_checkKey, Cond.code yX4_checkKey cX4_checkKey 4 none, Cond.methodLink RX4 53 yX4_checkConcept, Cond.instanceMethod yX4_checkConcept, Cond.selects RX4 yX4_checkConcept yX4_checkConcept, Cond.code yX4_checkConcept cX4_checkConcept 2 none, Cond.classLink RX4 166 "java/lang/IndexOutOfBoundsException", Cond.initialized "java/lang/IndexOutOfBoundsException", Cond.fieldLink RX4 42 "Dimfacts" "conceptCount" "I", Cond.methodLink RX4 171 yX4_checkPeriodAndMember, Cond.static yX4_checkPeriodAndMember, Cond.code yX4_checkPeriodAndMember cX4_checkPeriodAndMember 2 none, Cond.methodLink RX4 114 yX4_checkFiling]
def wsX4_value_r2 : List Cond := [Cond.instanceMethod yX4_checkFiling, Cond.selects RX4 yX4_checkFiling yX4_checkFiling, Cond.code yX4_checkFiling cX4_checkFiling 2 none, Cond.fieldLink RX4 73 "Dimfacts" "latest" "I", Cond.methodLink RX4 96 yX4_keyOf, Cond.static yX4_keyOf, Cond.code yX4_keyOf cX4_keyOf 3 (some .int), Cond.methodLink RX4 145 yX2_holding, Cond.instanceMethod yX2_holding, Cond.selects RX2 yX2_holding yX2_holding, Cond.initialized RX2, Cond.code yX2_holding cX2_holding 4 (some (.object "Dimfacts$Fact")), Cond.fieldLink RX2 11 "Dimfacts$KeyedFacts" "firsts" "[LDimfacts$Fact;", Cond.fieldLink RX2 29 "Dimfacts$Fact" "filing" "I", Cond.fieldLink RX2 25 "Dimfacts$Fact" "next" "LDimfacts$Fact;"]
def wsX4_value : List Cond := .code yX4_value cX4_value 5 (some .int) :: ((wsX4_value_r1 ++ wsX4_value_r2) ++ wsX00 ++ wsX40 ++ wsX20 ++ (nx_at RX4 157).filter goodWord ++ (vx_atS RX4 170 "java/lang/IndexOutOfBoundsException" ["java/lang/RuntimeException", "java/lang/Exception"]).filter goodWord)
def wsX4_doubt_r1 : List Cond := [Cond.fieldLink RX4 138 "Dimfacts$Fact" "doubt" "I", Cond.methodLink RX4 131 yX4_heldFact, Cond.instanceMethod yX4_heldFact, Cond.selects RX4 yX4_heldFact yX4_heldFact, Cond.initialized RX4, Cond.code yX4_heldFact cX4_heldFact 6 (some (.object "Dimfacts$Fact")), Cond.classLink RX4 153 "java/util/NoSuchElementException", Cond.initialized "java/util/NoSuchElementException", Cond.fieldLink RX4 32 "Dimfacts" "keyed" "LDimfacts$KeyedFacts;", Cond.methodLink RX4 78 yX4_checkKey, Cond.instanceMethod yX4_checkKey, Cond.selects RX4 yX4_checkKey yX4_checkKey, Cond.code yX4_checkKey cX4_checkKey 4 none, Cond.methodLink RX4 53 yX4_checkConcept, Cond.instanceMethod yX4_checkConcept, Cond.selects RX4 yX4_checkConcept yX4_checkConcept, Cond.code yX4_checkConcept cX4_checkConcept 2 none, Cond.classLink RX4 166 "java/lang/IndexOutOfBoundsException", Cond.initialized "java/lang/IndexOutOfBoundsException", Cond.fieldLink RX4 42 "Dimfacts" "conceptCount" "I", Cond.methodLink RX4 171 yX4_checkPeriodAndMember, Cond.static yX4_checkPeriodAndMember, Cond.code yX4_checkPeriodAndMember cX4_checkPeriodAndMember 2 none, Cond.methodLink RX4 114 yX4_checkFiling]
def wsX4_doubt_r2 : List Cond := [Cond.instanceMethod yX4_checkFiling, Cond.selects RX4 yX4_checkFiling yX4_checkFiling, Cond.code yX4_checkFiling cX4_checkFiling 2 none, Cond.fieldLink RX4 73 "Dimfacts" "latest" "I", Cond.methodLink RX4 96 yX4_keyOf, Cond.static yX4_keyOf, Cond.code yX4_keyOf cX4_keyOf 3 (some .int), Cond.methodLink RX4 145 yX2_holding, Cond.instanceMethod yX2_holding, Cond.selects RX2 yX2_holding yX2_holding, Cond.initialized RX2, Cond.code yX2_holding cX2_holding 4 (some (.object "Dimfacts$Fact")), Cond.fieldLink RX2 11 "Dimfacts$KeyedFacts" "firsts" "[LDimfacts$Fact;", Cond.fieldLink RX2 29 "Dimfacts$Fact" "filing" "I", Cond.fieldLink RX2 25 "Dimfacts$Fact" "next" "LDimfacts$Fact;"]
def wsX4_doubt : List Cond := .code yX4_doubt cX4_doubt 5 (some .int) :: ((wsX4_doubt_r1 ++ wsX4_doubt_r2) ++ wsX00 ++ wsX40 ++ wsX20 ++ (nx_at RX4 157).filter goodWord ++ (vx_atS RX4 170 "java/lang/IndexOutOfBoundsException" ["java/lang/RuntimeException", "java/lang/Exception"]).filter goodWord)
def wsX4_partHolding_r1 : List Cond := [Cond.fieldLink RX4 9 "Dimfacts" "parents" "[I", Cond.methodLink RX4 196 ⟨"Dimfacts$FactStore", "holding", "(II)LDimfacts$Fact;"⟩, Cond.sameMethod "Dimfacts$FactStore" "Dimfacts$FactStore" "holding" "(II)LDimfacts$Fact;", Cond.selects RX2 ⟨"Dimfacts$FactStore", "holding", "(II)LDimfacts$Fact;"⟩ yX2_holding, Cond.instanceMethod yX2_holding, Cond.initialized RX2, Cond.code yX2_holding cX2_holding 4 (some (.object "Dimfacts$Fact")), Cond.fieldLink RX2 11 "Dimfacts$KeyedFacts" "firsts" "[LDimfacts$Fact;", Cond.fieldLink RX2 29 "Dimfacts$Fact" "filing" "I", Cond.fieldLink RX2 25 "Dimfacts$Fact" "next" "LDimfacts$Fact;", Cond.selects RX3 ⟨"Dimfacts$FactStore", "holding", "(II)LDimfacts$Fact;"⟩ yX3_holding, Cond.instanceMethod yX3_holding, Cond.initialized RX3, Cond.code yX3_holding cX3_holding 6 (some (.object "Dimfacts$Fact")), Cond.fieldLink RX3 17 "Dimfacts$ListedFacts" "count" "I", Cond.fieldLink RX3 11 "Dimfacts$ListedFacts" "facts" "[LDimfacts$Fact;", Cond.fieldLink RX3 21 "Dimfacts$Fact" "key" "I", Cond.fieldLink RX3 24 "Dimfacts$Fact" "filing" "I", Cond.methodLink RX3 27 yX0_replaces, Cond.instanceMethod yX0_replaces, Cond.selects RX0 yX0_replaces yX0_replaces, Cond.initialized RX0, Cond.code yX0_replaces cX0_replaces 2 (some .boolean), Cond.fieldLink RX0 13 "Dimfacts$Fact" "filing" "I"]
def wsX4_partHolding_r2 : List Cond := [Cond.fieldLink RX0 19 "Dimfacts$Fact" "doubt" "I"]
def wsX4_partHolding : List Cond := .code yX4_partHolding cX4_partHolding 6 (some (.object "Dimfacts$Fact")) :: ((wsX4_partHolding_r1 ++ wsX4_partHolding_r2) ++ wsX40 ++ wsX20 ++ wsX00 ++ wsX30)
def wsX4_sum_r1 : List Cond := [Cond.fieldLink RX4 42 "Dimfacts" "conceptCount" "I", Cond.fieldLink RX4 32 "Dimfacts" "keyed" "LDimfacts$KeyedFacts;", Cond.fieldLink RX4 13 "Dimfacts" "weights" "[I", Cond.fieldLink RX4 135 "Dimfacts$Fact" "value" "I", Cond.methodLink RX4 78 yX4_checkKey, Cond.instanceMethod yX4_checkKey, Cond.selects RX4 yX4_checkKey yX4_checkKey, Cond.initialized RX4, Cond.code yX4_checkKey cX4_checkKey 4 none, Cond.methodLink RX4 53 yX4_checkConcept, Cond.instanceMethod yX4_checkConcept, Cond.selects RX4 yX4_checkConcept yX4_checkConcept, Cond.code yX4_checkConcept cX4_checkConcept 2 none, Cond.classLink RX4 166 "java/lang/IndexOutOfBoundsException", Cond.initialized "java/lang/IndexOutOfBoundsException", Cond.methodLink RX4 171 yX4_checkPeriodAndMember, Cond.static yX4_checkPeriodAndMember, Cond.code yX4_checkPeriodAndMember cX4_checkPeriodAndMember 2 none, Cond.methodLink RX4 114 yX4_checkFiling, Cond.instanceMethod yX4_checkFiling, Cond.selects RX4 yX4_checkFiling yX4_checkFiling, Cond.code yX4_checkFiling cX4_checkFiling 2 none, Cond.fieldLink RX4 73 "Dimfacts" "latest" "I", Cond.methodLink RX4 96 yX4_keyOf]
def wsX4_sum_r2 : List Cond := [Cond.static yX4_keyOf, Cond.code yX4_keyOf cX4_keyOf 3 (some .int), Cond.methodLink RX4 141 yX4_partHolding, Cond.instanceMethod yX4_partHolding, Cond.selects RX4 yX4_partHolding yX4_partHolding, Cond.code yX4_partHolding cX4_partHolding 6 (some (.object "Dimfacts$Fact")), Cond.fieldLink RX4 9 "Dimfacts" "parents" "[I", Cond.methodLink RX4 196 ⟨"Dimfacts$FactStore", "holding", "(II)LDimfacts$Fact;"⟩, Cond.sameMethod "Dimfacts$FactStore" "Dimfacts$FactStore" "holding" "(II)LDimfacts$Fact;", Cond.selects RX2 ⟨"Dimfacts$FactStore", "holding", "(II)LDimfacts$Fact;"⟩ yX2_holding, Cond.instanceMethod yX2_holding, Cond.initialized RX2, Cond.code yX2_holding cX2_holding 4 (some (.object "Dimfacts$Fact")), Cond.fieldLink RX2 11 "Dimfacts$KeyedFacts" "firsts" "[LDimfacts$Fact;", Cond.fieldLink RX2 29 "Dimfacts$Fact" "filing" "I", Cond.fieldLink RX2 25 "Dimfacts$Fact" "next" "LDimfacts$Fact;", Cond.selects RX3 ⟨"Dimfacts$FactStore", "holding", "(II)LDimfacts$Fact;"⟩ yX3_holding, Cond.instanceMethod yX3_holding, Cond.initialized RX3, Cond.code yX3_holding cX3_holding 6 (some (.object "Dimfacts$Fact")), Cond.fieldLink RX3 17 "Dimfacts$ListedFacts" "count" "I", Cond.fieldLink RX3 11 "Dimfacts$ListedFacts" "facts" "[LDimfacts$Fact;", Cond.fieldLink RX3 21 "Dimfacts$Fact" "key" "I", Cond.fieldLink RX3 24 "Dimfacts$Fact" "filing" "I"]
def wsX4_sum_r3 : List Cond := [Cond.methodLink RX3 27 yX0_replaces, Cond.instanceMethod yX0_replaces, Cond.selects RX0 yX0_replaces yX0_replaces, Cond.initialized RX0, Cond.code yX0_replaces cX0_replaces 2 (some .boolean), Cond.fieldLink RX0 13 "Dimfacts$Fact" "filing" "I", Cond.fieldLink RX0 19 "Dimfacts$Fact" "doubt" "I"]
def wsX4_sum : List Cond := .code yX4_sum cX4_sum 8 (some .int) :: ((wsX4_sum_r1 ++ (wsX4_sum_r2 ++ wsX4_sum_r3)) ++ wsX40 ++ wsX00 ++ wsX20 ++ wsX30 ++ (vx_atS RX4 170 "java/lang/IndexOutOfBoundsException" ["java/lang/RuntimeException", "java/lang/Exception"]).filter goodWord)
def wsX4_reachParts : List Cond := .code yX4_reachParts cX4_reachParts 5 (some .int) :: ([.fieldLink RX4 42 "Dimfacts" "conceptCount" "I", .fieldLink RX4 9 "Dimfacts" "parents" "[I", .fieldLink RX4 36 "Dimfacts" "reached" "[I", .fieldLink RX4 39 "Dimfacts" "signs" "[I", .fieldLink RX4 13 "Dimfacts" "weights" "[I"] ++ wsX40)
def wsX4_derived_r1 : List Cond := [Cond.classLink RX4 153 "java/util/NoSuchElementException", Cond.initialized "java/util/NoSuchElementException", Cond.fieldLink RX4 36 "Dimfacts" "reached" "[I", Cond.fieldLink RX4 39 "Dimfacts" "signs" "[I", Cond.fieldLink RX4 32 "Dimfacts" "keyed" "LDimfacts$KeyedFacts;", Cond.fieldLink RX4 135 "Dimfacts$Fact" "value" "I", Cond.methodLink RX4 78 yX4_checkKey, Cond.instanceMethod yX4_checkKey, Cond.selects RX4 yX4_checkKey yX4_checkKey, Cond.initialized RX4, Cond.code yX4_checkKey cX4_checkKey 4 none, Cond.methodLink RX4 53 yX4_checkConcept, Cond.instanceMethod yX4_checkConcept, Cond.selects RX4 yX4_checkConcept yX4_checkConcept, Cond.code yX4_checkConcept cX4_checkConcept 2 none, Cond.classLink RX4 166 "java/lang/IndexOutOfBoundsException", Cond.initialized "java/lang/IndexOutOfBoundsException", Cond.fieldLink RX4 42 "Dimfacts" "conceptCount" "I", Cond.methodLink RX4 171 yX4_checkPeriodAndMember, Cond.static yX4_checkPeriodAndMember, Cond.code yX4_checkPeriodAndMember cX4_checkPeriodAndMember 2 none, Cond.methodLink RX4 114 yX4_checkFiling, Cond.instanceMethod yX4_checkFiling, Cond.selects RX4 yX4_checkFiling yX4_checkFiling]
def wsX4_derived_r2 : List Cond := [Cond.code yX4_checkFiling cX4_checkFiling 2 none, Cond.fieldLink RX4 73 "Dimfacts" "latest" "I", Cond.methodLink RX4 96 yX4_keyOf, Cond.static yX4_keyOf, Cond.code yX4_keyOf cX4_keyOf 3 (some .int), Cond.methodLink RX4 145 yX2_holding, Cond.instanceMethod yX2_holding, Cond.selects RX2 yX2_holding yX2_holding, Cond.initialized RX2, Cond.code yX2_holding cX2_holding 4 (some (.object "Dimfacts$Fact")), Cond.fieldLink RX2 11 "Dimfacts$KeyedFacts" "firsts" "[LDimfacts$Fact;", Cond.fieldLink RX2 29 "Dimfacts$Fact" "filing" "I", Cond.fieldLink RX2 25 "Dimfacts$Fact" "next" "LDimfacts$Fact;", Cond.methodLink RX4 149 yX4_reachParts, Cond.instanceMethod yX4_reachParts, Cond.selects RX4 yX4_reachParts yX4_reachParts, Cond.code yX4_reachParts cX4_reachParts 5 (some .int), Cond.fieldLink RX4 9 "Dimfacts" "parents" "[I", Cond.fieldLink RX4 13 "Dimfacts" "weights" "[I"]
def wsX4_derived : List Cond := .code yX4_derived cX4_derived 10 (some .int) :: ((wsX4_derived_r1 ++ wsX4_derived_r2) ++ wsX40 ++ wsX00 ++ wsX20 ++ (nx_at RX4 157).filter goodWord ++ (vx_atS RX4 170 "java/lang/IndexOutOfBoundsException" ["java/lang/RuntimeException", "java/lang/Exception"]).filter goodWord)
def wsX4_sumFails_r1 : List Cond := [Cond.fieldLink RX4 138 "Dimfacts$Fact" "doubt" "I", Cond.fieldLink RX4 42 "Dimfacts" "conceptCount" "I", Cond.fieldLink RX4 13 "Dimfacts" "weights" "[I", Cond.fieldLink RX4 135 "Dimfacts$Fact" "value" "I", Cond.methodLink RX4 96 yX4_keyOf, Cond.static yX4_keyOf, Cond.initialized RX4, Cond.code yX4_keyOf cX4_keyOf 3 (some .int), Cond.methodLink RX4 196 ⟨"Dimfacts$FactStore", "holding", "(II)LDimfacts$Fact;"⟩, Cond.sameMethod "Dimfacts$FactStore" "Dimfacts$FactStore" "holding" "(II)LDimfacts$Fact;", Cond.selects RX2 ⟨"Dimfacts$FactStore", "holding", "(II)LDimfacts$Fact;"⟩ yX2_holding, Cond.instanceMethod yX2_holding, Cond.initialized RX2, Cond.code yX2_holding cX2_holding 4 (some (.object "Dimfacts$Fact")), Cond.fieldLink RX2 11 "Dimfacts$KeyedFacts" "firsts" "[LDimfacts$Fact;", Cond.fieldLink RX2 29 "Dimfacts$Fact" "filing" "I", Cond.fieldLink RX2 25 "Dimfacts$Fact" "next" "LDimfacts$Fact;", Cond.selects RX3 ⟨"Dimfacts$FactStore", "holding", "(II)LDimfacts$Fact;"⟩ yX3_holding, Cond.instanceMethod yX3_holding, Cond.initialized RX3, Cond.code yX3_holding cX3_holding 6 (some (.object "Dimfacts$Fact")), Cond.fieldLink RX3 17 "Dimfacts$ListedFacts" "count" "I", Cond.fieldLink RX3 11 "Dimfacts$ListedFacts" "facts" "[LDimfacts$Fact;", Cond.fieldLink RX3 21 "Dimfacts$Fact" "key" "I"]
def wsX4_sumFails_r2 : List Cond := [Cond.fieldLink RX3 24 "Dimfacts$Fact" "filing" "I", Cond.methodLink RX3 27 yX0_replaces, Cond.instanceMethod yX0_replaces, Cond.selects RX0 yX0_replaces yX0_replaces, Cond.initialized RX0, Cond.code yX0_replaces cX0_replaces 2 (some .boolean), Cond.fieldLink RX0 13 "Dimfacts$Fact" "filing" "I", Cond.fieldLink RX0 19 "Dimfacts$Fact" "doubt" "I", Cond.methodLink RX4 141 yX4_partHolding, Cond.instanceMethod yX4_partHolding, Cond.selects RX4 yX4_partHolding yX4_partHolding, Cond.code yX4_partHolding cX4_partHolding 6 (some (.object "Dimfacts$Fact")), Cond.fieldLink RX4 9 "Dimfacts" "parents" "[I", Cond.methodLink RX4 199 yX4_isApart, Cond.static yX4_isApart, Cond.code yX4_isApart cX4_isApart 3 (some .boolean), Cond.methodLink RX4 203 Lib.Math.abs.name, Cond.static Lib.Math.abs.name, Cond.initialized "java/lang/Math", Cond.code Lib.Math.abs.name Lib.Math.abs.code 1 (some .int)]
def wsX4_sumFails : List Cond := .code yX4_sumFails cX4_sumFails 12 (some .boolean) :: ((wsX4_sumFails_r1 ++ wsX4_sumFails_r2) ++ wsX00 ++ wsX40 ++ wsX20 ++ wsX30)
def wsX4_isSumOff_r1 : List Cond := [Cond.fieldLink RX4 32 "Dimfacts" "keyed" "LDimfacts$KeyedFacts;", Cond.methodLink RX4 78 yX4_checkKey, Cond.instanceMethod yX4_checkKey, Cond.selects RX4 yX4_checkKey yX4_checkKey, Cond.initialized RX4, Cond.code yX4_checkKey cX4_checkKey 4 none, Cond.methodLink RX4 53 yX4_checkConcept, Cond.instanceMethod yX4_checkConcept, Cond.selects RX4 yX4_checkConcept yX4_checkConcept, Cond.code yX4_checkConcept cX4_checkConcept 2 none, Cond.classLink RX4 166 "java/lang/IndexOutOfBoundsException", Cond.initialized "java/lang/IndexOutOfBoundsException", Cond.fieldLink RX4 42 "Dimfacts" "conceptCount" "I", Cond.methodLink RX4 171 yX4_checkPeriodAndMember, Cond.static yX4_checkPeriodAndMember, Cond.code yX4_checkPeriodAndMember cX4_checkPeriodAndMember 2 none, Cond.methodLink RX4 114 yX4_checkFiling, Cond.instanceMethod yX4_checkFiling, Cond.selects RX4 yX4_checkFiling yX4_checkFiling, Cond.code yX4_checkFiling cX4_checkFiling 2 none, Cond.fieldLink RX4 73 "Dimfacts" "latest" "I", Cond.methodLink RX4 158 yX4_sumFails, Cond.instanceMethod yX4_sumFails, Cond.selects RX4 yX4_sumFails yX4_sumFails]
def wsX4_isSumOff_r2 : List Cond := [Cond.code yX4_sumFails cX4_sumFails 12 (some .boolean), Cond.fieldLink RX4 138 "Dimfacts$Fact" "doubt" "I", Cond.fieldLink RX4 13 "Dimfacts" "weights" "[I", Cond.fieldLink RX4 135 "Dimfacts$Fact" "value" "I", Cond.methodLink RX4 96 yX4_keyOf, Cond.static yX4_keyOf, Cond.code yX4_keyOf cX4_keyOf 3 (some .int), Cond.methodLink RX4 196 ⟨"Dimfacts$FactStore", "holding", "(II)LDimfacts$Fact;"⟩, Cond.sameMethod "Dimfacts$FactStore" "Dimfacts$FactStore" "holding" "(II)LDimfacts$Fact;", Cond.selects RX2 ⟨"Dimfacts$FactStore", "holding", "(II)LDimfacts$Fact;"⟩ yX2_holding, Cond.instanceMethod yX2_holding, Cond.initialized RX2, Cond.code yX2_holding cX2_holding 4 (some (.object "Dimfacts$Fact")), Cond.fieldLink RX2 11 "Dimfacts$KeyedFacts" "firsts" "[LDimfacts$Fact;", Cond.fieldLink RX2 29 "Dimfacts$Fact" "filing" "I", Cond.fieldLink RX2 25 "Dimfacts$Fact" "next" "LDimfacts$Fact;", Cond.selects RX3 ⟨"Dimfacts$FactStore", "holding", "(II)LDimfacts$Fact;"⟩ yX3_holding, Cond.instanceMethod yX3_holding, Cond.initialized RX3, Cond.code yX3_holding cX3_holding 6 (some (.object "Dimfacts$Fact")), Cond.fieldLink RX3 17 "Dimfacts$ListedFacts" "count" "I", Cond.fieldLink RX3 11 "Dimfacts$ListedFacts" "facts" "[LDimfacts$Fact;", Cond.fieldLink RX3 21 "Dimfacts$Fact" "key" "I", Cond.fieldLink RX3 24 "Dimfacts$Fact" "filing" "I"]
def wsX4_isSumOff_r3 : List Cond := [Cond.methodLink RX3 27 yX0_replaces, Cond.instanceMethod yX0_replaces, Cond.selects RX0 yX0_replaces yX0_replaces, Cond.initialized RX0, Cond.code yX0_replaces cX0_replaces 2 (some .boolean), Cond.fieldLink RX0 13 "Dimfacts$Fact" "filing" "I", Cond.fieldLink RX0 19 "Dimfacts$Fact" "doubt" "I", Cond.methodLink RX4 141 yX4_partHolding, Cond.instanceMethod yX4_partHolding, Cond.selects RX4 yX4_partHolding yX4_partHolding, Cond.code yX4_partHolding cX4_partHolding 6 (some (.object "Dimfacts$Fact")), Cond.fieldLink RX4 9 "Dimfacts" "parents" "[I", Cond.methodLink RX4 199 yX4_isApart, Cond.static yX4_isApart, Cond.code yX4_isApart cX4_isApart 3 (some .boolean), Cond.methodLink RX4 203 Lib.Math.abs.name, Cond.static Lib.Math.abs.name, Cond.initialized "java/lang/Math", Cond.code Lib.Math.abs.name Lib.Math.abs.code 1 (some .int)]
def wsX4_isSumOff : List Cond := .code yX4_isSumOff cX4_isSumOff 5 (some .boolean) :: ((wsX4_isSumOff_r1 ++ (wsX4_isSumOff_r2 ++ wsX4_isSumOff_r3)) ++ wsX40 ++ wsX00 ++ wsX20 ++ wsX30 ++ (vx_atS RX4 170 "java/lang/IndexOutOfBoundsException" ["java/lang/RuntimeException", "java/lang/Exception"]).filter goodWord)
def wsX4_membersFail_r1 : List Cond := [Cond.fieldLink RX4 138 "Dimfacts$Fact" "doubt" "I", Cond.fieldLink RX4 135 "Dimfacts$Fact" "value" "I", Cond.methodLink RX4 96 yX4_keyOf, Cond.static yX4_keyOf, Cond.initialized RX4, Cond.code yX4_keyOf cX4_keyOf 3 (some .int), Cond.methodLink RX4 196 ⟨"Dimfacts$FactStore", "holding", "(II)LDimfacts$Fact;"⟩, Cond.sameMethod "Dimfacts$FactStore" "Dimfacts$FactStore" "holding" "(II)LDimfacts$Fact;", Cond.selects RX2 ⟨"Dimfacts$FactStore", "holding", "(II)LDimfacts$Fact;"⟩ yX2_holding, Cond.instanceMethod yX2_holding, Cond.initialized RX2, Cond.code yX2_holding cX2_holding 4 (some (.object "Dimfacts$Fact")), Cond.fieldLink RX2 11 "Dimfacts$KeyedFacts" "firsts" "[LDimfacts$Fact;", Cond.fieldLink RX2 29 "Dimfacts$Fact" "filing" "I", Cond.fieldLink RX2 25 "Dimfacts$Fact" "next" "LDimfacts$Fact;", Cond.selects RX3 ⟨"Dimfacts$FactStore", "holding", "(II)LDimfacts$Fact;"⟩ yX3_holding, Cond.instanceMethod yX3_holding, Cond.initialized RX3, Cond.code yX3_holding cX3_holding 6 (some (.object "Dimfacts$Fact")), Cond.fieldLink RX3 17 "Dimfacts$ListedFacts" "count" "I", Cond.fieldLink RX3 11 "Dimfacts$ListedFacts" "facts" "[LDimfacts$Fact;", Cond.fieldLink RX3 21 "Dimfacts$Fact" "key" "I", Cond.fieldLink RX3 24 "Dimfacts$Fact" "filing" "I", Cond.methodLink RX3 27 yX0_replaces]
def wsX4_membersFail_r2 : List Cond := [Cond.instanceMethod yX0_replaces, Cond.selects RX0 yX0_replaces yX0_replaces, Cond.initialized RX0, Cond.code yX0_replaces cX0_replaces 2 (some .boolean), Cond.fieldLink RX0 13 "Dimfacts$Fact" "filing" "I", Cond.fieldLink RX0 19 "Dimfacts$Fact" "doubt" "I", Cond.methodLink RX4 199 yX4_isApart, Cond.static yX4_isApart, Cond.code yX4_isApart cX4_isApart 3 (some .boolean), Cond.methodLink RX4 203 Lib.Math.abs.name, Cond.static Lib.Math.abs.name, Cond.initialized "java/lang/Math", Cond.code Lib.Math.abs.name Lib.Math.abs.code 1 (some .int)]
def wsX4_membersFail : List Cond := .code yX4_membersFail cX4_membersFail 9 (some .boolean) :: ((wsX4_membersFail_r1 ++ wsX4_membersFail_r2) ++ wsX00 ++ wsX20 ++ wsX30)
def wsX4_areMembersOff_r1 : List Cond := [Cond.fieldLink RX4 32 "Dimfacts" "keyed" "LDimfacts$KeyedFacts;", Cond.methodLink RX4 78 yX4_checkKey, Cond.instanceMethod yX4_checkKey, Cond.selects RX4 yX4_checkKey yX4_checkKey, Cond.initialized RX4, Cond.code yX4_checkKey cX4_checkKey 4 none, Cond.methodLink RX4 53 yX4_checkConcept, Cond.instanceMethod yX4_checkConcept, Cond.selects RX4 yX4_checkConcept yX4_checkConcept, Cond.code yX4_checkConcept cX4_checkConcept 2 none, Cond.classLink RX4 166 "java/lang/IndexOutOfBoundsException", Cond.initialized "java/lang/IndexOutOfBoundsException", Cond.fieldLink RX4 42 "Dimfacts" "conceptCount" "I", Cond.methodLink RX4 171 yX4_checkPeriodAndMember, Cond.static yX4_checkPeriodAndMember, Cond.code yX4_checkPeriodAndMember cX4_checkPeriodAndMember 2 none, Cond.methodLink RX4 114 yX4_checkFiling, Cond.instanceMethod yX4_checkFiling, Cond.selects RX4 yX4_checkFiling yX4_checkFiling, Cond.code yX4_checkFiling cX4_checkFiling 2 none, Cond.fieldLink RX4 73 "Dimfacts" "latest" "I", Cond.methodLink RX4 162 yX4_membersFail, Cond.static yX4_membersFail, Cond.code yX4_membersFail cX4_membersFail 9 (some .boolean)]
def wsX4_areMembersOff_r2 : List Cond := [Cond.fieldLink RX4 138 "Dimfacts$Fact" "doubt" "I", Cond.fieldLink RX4 135 "Dimfacts$Fact" "value" "I", Cond.methodLink RX4 96 yX4_keyOf, Cond.static yX4_keyOf, Cond.code yX4_keyOf cX4_keyOf 3 (some .int), Cond.methodLink RX4 196 ⟨"Dimfacts$FactStore", "holding", "(II)LDimfacts$Fact;"⟩, Cond.sameMethod "Dimfacts$FactStore" "Dimfacts$FactStore" "holding" "(II)LDimfacts$Fact;", Cond.selects RX2 ⟨"Dimfacts$FactStore", "holding", "(II)LDimfacts$Fact;"⟩ yX2_holding, Cond.instanceMethod yX2_holding, Cond.initialized RX2, Cond.code yX2_holding cX2_holding 4 (some (.object "Dimfacts$Fact")), Cond.fieldLink RX2 11 "Dimfacts$KeyedFacts" "firsts" "[LDimfacts$Fact;", Cond.fieldLink RX2 29 "Dimfacts$Fact" "filing" "I", Cond.fieldLink RX2 25 "Dimfacts$Fact" "next" "LDimfacts$Fact;", Cond.selects RX3 ⟨"Dimfacts$FactStore", "holding", "(II)LDimfacts$Fact;"⟩ yX3_holding, Cond.instanceMethod yX3_holding, Cond.initialized RX3, Cond.code yX3_holding cX3_holding 6 (some (.object "Dimfacts$Fact")), Cond.fieldLink RX3 17 "Dimfacts$ListedFacts" "count" "I", Cond.fieldLink RX3 11 "Dimfacts$ListedFacts" "facts" "[LDimfacts$Fact;", Cond.fieldLink RX3 21 "Dimfacts$Fact" "key" "I", Cond.fieldLink RX3 24 "Dimfacts$Fact" "filing" "I", Cond.methodLink RX3 27 yX0_replaces, Cond.instanceMethod yX0_replaces]
def wsX4_areMembersOff_r3 : List Cond := [Cond.selects RX0 yX0_replaces yX0_replaces, Cond.initialized RX0, Cond.code yX0_replaces cX0_replaces 2 (some .boolean), Cond.fieldLink RX0 13 "Dimfacts$Fact" "filing" "I", Cond.fieldLink RX0 19 "Dimfacts$Fact" "doubt" "I", Cond.methodLink RX4 199 yX4_isApart, Cond.static yX4_isApart, Cond.code yX4_isApart cX4_isApart 3 (some .boolean), Cond.methodLink RX4 203 Lib.Math.abs.name, Cond.static Lib.Math.abs.name, Cond.initialized "java/lang/Math", Cond.code Lib.Math.abs.name Lib.Math.abs.code 1 (some .int)]
def wsX4_areMembersOff : List Cond := .code yX4_areMembersOff cX4_areMembersOff 4 (some .boolean) :: ((wsX4_areMembersOff_r1 ++ (wsX4_areMembersOff_r2 ++ wsX4_areMembersOff_r3)) ++ wsX40 ++ wsX00 ++ wsX20 ++ wsX30 ++ (vx_atS RX4 170 "java/lang/IndexOutOfBoundsException" ["java/lang/RuntimeException", "java/lang/Exception"]).filter goodWord)
def wsX4_rollFails_r1 : List Cond := [Cond.fieldLink RX4 16 "Dimfacts" "stocks" "[I", Cond.fieldLink RX4 19 "Dimfacts" "flows" "[I", Cond.fieldLink RX4 135 "Dimfacts$Fact" "value" "I", Cond.fieldLink RX4 138 "Dimfacts$Fact" "doubt" "I", Cond.methodLink RX4 96 yX4_keyOf, Cond.static yX4_keyOf, Cond.initialized RX4, Cond.code yX4_keyOf cX4_keyOf 3 (some .int), Cond.methodLink RX4 196 ⟨"Dimfacts$FactStore", "holding", "(II)LDimfacts$Fact;"⟩, Cond.sameMethod "Dimfacts$FactStore" "Dimfacts$FactStore" "holding" "(II)LDimfacts$Fact;", Cond.selects RX2 ⟨"Dimfacts$FactStore", "holding", "(II)LDimfacts$Fact;"⟩ yX2_holding, Cond.instanceMethod yX2_holding, Cond.initialized RX2, Cond.code yX2_holding cX2_holding 4 (some (.object "Dimfacts$Fact")), Cond.fieldLink RX2 11 "Dimfacts$KeyedFacts" "firsts" "[LDimfacts$Fact;", Cond.fieldLink RX2 29 "Dimfacts$Fact" "filing" "I", Cond.fieldLink RX2 25 "Dimfacts$Fact" "next" "LDimfacts$Fact;", Cond.selects RX3 ⟨"Dimfacts$FactStore", "holding", "(II)LDimfacts$Fact;"⟩ yX3_holding, Cond.instanceMethod yX3_holding, Cond.initialized RX3, Cond.code yX3_holding cX3_holding 6 (some (.object "Dimfacts$Fact")), Cond.fieldLink RX3 17 "Dimfacts$ListedFacts" "count" "I", Cond.fieldLink RX3 11 "Dimfacts$ListedFacts" "facts" "[LDimfacts$Fact;", Cond.fieldLink RX3 21 "Dimfacts$Fact" "key" "I"]
def wsX4_rollFails_r2 : List Cond := [Cond.fieldLink RX3 24 "Dimfacts$Fact" "filing" "I", Cond.methodLink RX3 27 yX0_replaces, Cond.instanceMethod yX0_replaces, Cond.selects RX0 yX0_replaces yX0_replaces, Cond.initialized RX0, Cond.code yX0_replaces cX0_replaces 2 (some .boolean), Cond.fieldLink RX0 13 "Dimfacts$Fact" "filing" "I", Cond.fieldLink RX0 19 "Dimfacts$Fact" "doubt" "I", Cond.methodLink RX4 199 yX4_isApart, Cond.static yX4_isApart, Cond.code yX4_isApart cX4_isApart 3 (some .boolean), Cond.methodLink RX4 203 Lib.Math.abs.name, Cond.static Lib.Math.abs.name, Cond.initialized "java/lang/Math", Cond.code Lib.Math.abs.name Lib.Math.abs.code 1 (some .int)]
def wsX4_rollFails : List Cond := .code yX4_rollFails cX4_rollFails 9 (some .boolean) :: ((wsX4_rollFails_r1 ++ wsX4_rollFails_r2) ++ wsX40 ++ wsX00 ++ wsX20 ++ wsX30)
def wsX4_isRollOff_r1 : List Cond := [Cond.classLink RX4 166 "java/lang/IndexOutOfBoundsException", Cond.initialized "java/lang/IndexOutOfBoundsException", Cond.fieldLink RX4 68 "Dimfacts" "ruleCount" "I", Cond.fieldLink RX4 32 "Dimfacts" "keyed" "LDimfacts$KeyedFacts;", Cond.methodLink RX4 171 yX4_checkPeriodAndMember, Cond.static yX4_checkPeriodAndMember, Cond.initialized RX4, Cond.code yX4_checkPeriodAndMember cX4_checkPeriodAndMember 2 none, Cond.methodLink RX4 114 yX4_checkFiling, Cond.instanceMethod yX4_checkFiling, Cond.selects RX4 yX4_checkFiling yX4_checkFiling, Cond.code yX4_checkFiling cX4_checkFiling 2 none, Cond.fieldLink RX4 73 "Dimfacts" "latest" "I", Cond.methodLink RX4 175 yX4_rollFails, Cond.instanceMethod yX4_rollFails, Cond.selects RX4 yX4_rollFails yX4_rollFails, Cond.code yX4_rollFails cX4_rollFails 9 (some .boolean), Cond.fieldLink RX4 16 "Dimfacts" "stocks" "[I", Cond.fieldLink RX4 19 "Dimfacts" "flows" "[I", Cond.fieldLink RX4 135 "Dimfacts$Fact" "value" "I", Cond.fieldLink RX4 138 "Dimfacts$Fact" "doubt" "I", Cond.methodLink RX4 96 yX4_keyOf, Cond.static yX4_keyOf, Cond.code yX4_keyOf cX4_keyOf 3 (some .int)]
def wsX4_isRollOff_r2 : List Cond := [Cond.methodLink RX4 196 ⟨"Dimfacts$FactStore", "holding", "(II)LDimfacts$Fact;"⟩, Cond.sameMethod "Dimfacts$FactStore" "Dimfacts$FactStore" "holding" "(II)LDimfacts$Fact;", Cond.selects RX2 ⟨"Dimfacts$FactStore", "holding", "(II)LDimfacts$Fact;"⟩ yX2_holding, Cond.instanceMethod yX2_holding, Cond.initialized RX2, Cond.code yX2_holding cX2_holding 4 (some (.object "Dimfacts$Fact")), Cond.fieldLink RX2 11 "Dimfacts$KeyedFacts" "firsts" "[LDimfacts$Fact;", Cond.fieldLink RX2 29 "Dimfacts$Fact" "filing" "I", Cond.fieldLink RX2 25 "Dimfacts$Fact" "next" "LDimfacts$Fact;", Cond.selects RX3 ⟨"Dimfacts$FactStore", "holding", "(II)LDimfacts$Fact;"⟩ yX3_holding, Cond.instanceMethod yX3_holding, Cond.initialized RX3, Cond.code yX3_holding cX3_holding 6 (some (.object "Dimfacts$Fact")), Cond.fieldLink RX3 17 "Dimfacts$ListedFacts" "count" "I", Cond.fieldLink RX3 11 "Dimfacts$ListedFacts" "facts" "[LDimfacts$Fact;", Cond.fieldLink RX3 21 "Dimfacts$Fact" "key" "I", Cond.fieldLink RX3 24 "Dimfacts$Fact" "filing" "I", Cond.methodLink RX3 27 yX0_replaces, Cond.instanceMethod yX0_replaces, Cond.selects RX0 yX0_replaces yX0_replaces, Cond.initialized RX0, Cond.code yX0_replaces cX0_replaces 2 (some .boolean), Cond.fieldLink RX0 13 "Dimfacts$Fact" "filing" "I", Cond.fieldLink RX0 19 "Dimfacts$Fact" "doubt" "I"]
def wsX4_isRollOff_r3 : List Cond := [Cond.methodLink RX4 199 yX4_isApart, Cond.static yX4_isApart, Cond.code yX4_isApart cX4_isApart 3 (some .boolean), Cond.methodLink RX4 203 Lib.Math.abs.name, Cond.static Lib.Math.abs.name, Cond.initialized "java/lang/Math", Cond.code Lib.Math.abs.name Lib.Math.abs.code 1 (some .int)]
def wsX4_isRollOff : List Cond := .code yX4_isRollOff cX4_isRollOff 5 (some .boolean) :: ((wsX4_isRollOff_r1 ++ (wsX4_isRollOff_r2 ++ wsX4_isRollOff_r3)) ++ wsX40 ++ wsX00 ++ wsX20 ++ wsX30 ++ (vx_atS RX4 170 "java/lang/IndexOutOfBoundsException" ["java/lang/RuntimeException", "java/lang/Exception"]).filter goodWord)
def wsX4_faultsAt_r1 : List Cond := [Cond.fieldLink RX4 68 "Dimfacts" "ruleCount" "I", Cond.fieldLink RX4 16 "Dimfacts" "stocks" "[I", Cond.methodLink RX4 158 yX4_sumFails, Cond.instanceMethod yX4_sumFails, Cond.selects RX4 yX4_sumFails yX4_sumFails, Cond.initialized RX4, Cond.code yX4_sumFails cX4_sumFails 12 (some .boolean), Cond.fieldLink RX4 138 "Dimfacts$Fact" "doubt" "I", Cond.fieldLink RX4 42 "Dimfacts" "conceptCount" "I", Cond.fieldLink RX4 13 "Dimfacts" "weights" "[I", Cond.fieldLink RX4 135 "Dimfacts$Fact" "value" "I", Cond.methodLink RX4 96 yX4_keyOf, Cond.static yX4_keyOf, Cond.code yX4_keyOf cX4_keyOf 3 (some .int), Cond.methodLink RX4 196 ⟨"Dimfacts$FactStore", "holding", "(II)LDimfacts$Fact;"⟩, Cond.sameMethod "Dimfacts$FactStore" "Dimfacts$FactStore" "holding" "(II)LDimfacts$Fact;", Cond.selects RX2 ⟨"Dimfacts$FactStore", "holding", "(II)LDimfacts$Fact;"⟩ yX2_holding, Cond.instanceMethod yX2_holding, Cond.initialized RX2, Cond.code yX2_holding cX2_holding 4 (some (.object "Dimfacts$Fact")), Cond.fieldLink RX2 11 "Dimfacts$KeyedFacts" "firsts" "[LDimfacts$Fact;", Cond.fieldLink RX2 29 "Dimfacts$Fact" "filing" "I", Cond.fieldLink RX2 25 "Dimfacts$Fact" "next" "LDimfacts$Fact;", Cond.selects RX3 ⟨"Dimfacts$FactStore", "holding", "(II)LDimfacts$Fact;"⟩ yX3_holding]
def wsX4_faultsAt_r2 : List Cond := [Cond.instanceMethod yX3_holding, Cond.initialized RX3, Cond.code yX3_holding cX3_holding 6 (some (.object "Dimfacts$Fact")), Cond.fieldLink RX3 17 "Dimfacts$ListedFacts" "count" "I", Cond.fieldLink RX3 11 "Dimfacts$ListedFacts" "facts" "[LDimfacts$Fact;", Cond.fieldLink RX3 21 "Dimfacts$Fact" "key" "I", Cond.fieldLink RX3 24 "Dimfacts$Fact" "filing" "I", Cond.methodLink RX3 27 yX0_replaces, Cond.instanceMethod yX0_replaces, Cond.selects RX0 yX0_replaces yX0_replaces, Cond.initialized RX0, Cond.code yX0_replaces cX0_replaces 2 (some .boolean), Cond.fieldLink RX0 13 "Dimfacts$Fact" "filing" "I", Cond.fieldLink RX0 19 "Dimfacts$Fact" "doubt" "I", Cond.methodLink RX4 141 yX4_partHolding, Cond.instanceMethod yX4_partHolding, Cond.selects RX4 yX4_partHolding yX4_partHolding, Cond.code yX4_partHolding cX4_partHolding 6 (some (.object "Dimfacts$Fact")), Cond.fieldLink RX4 9 "Dimfacts" "parents" "[I", Cond.methodLink RX4 199 yX4_isApart, Cond.static yX4_isApart, Cond.code yX4_isApart cX4_isApart 3 (some .boolean), Cond.methodLink RX4 203 Lib.Math.abs.name, Cond.static Lib.Math.abs.name]
def wsX4_faultsAt_r3 : List Cond := [Cond.initialized "java/lang/Math", Cond.code Lib.Math.abs.name Lib.Math.abs.code 1 (some .int), Cond.methodLink RX4 162 yX4_membersFail, Cond.static yX4_membersFail, Cond.code yX4_membersFail cX4_membersFail 9 (some .boolean), Cond.methodLink RX4 175 yX4_rollFails, Cond.instanceMethod yX4_rollFails, Cond.selects RX4 yX4_rollFails yX4_rollFails, Cond.code yX4_rollFails cX4_rollFails 9 (some .boolean), Cond.fieldLink RX4 19 "Dimfacts" "flows" "[I"]
def wsX4_faultsAt : List Cond := .code yX4_faultsAt cX4_faultsAt 9 (some .int) :: ((wsX4_faultsAt_r1 ++ (wsX4_faultsAt_r2 ++ wsX4_faultsAt_r3)) ++ wsX40 ++ wsX00 ++ wsX20 ++ wsX30)
def wsX4_faults_r1 : List Cond := [Cond.fieldLink RX4 42 "Dimfacts" "conceptCount" "I", Cond.fieldLink RX4 32 "Dimfacts" "keyed" "LDimfacts$KeyedFacts;", Cond.methodLink RX4 114 yX4_checkFiling, Cond.instanceMethod yX4_checkFiling, Cond.selects RX4 yX4_checkFiling yX4_checkFiling, Cond.initialized RX4, Cond.code yX4_checkFiling cX4_checkFiling 2 none, Cond.classLink RX4 166 "java/lang/IndexOutOfBoundsException", Cond.initialized "java/lang/IndexOutOfBoundsException", Cond.fieldLink RX4 73 "Dimfacts" "latest" "I", Cond.methodLink RX4 145 yX2_holding, Cond.instanceMethod yX2_holding, Cond.selects RX2 yX2_holding yX2_holding, Cond.initialized RX2, Cond.code yX2_holding cX2_holding 4 (some (.object "Dimfacts$Fact")), Cond.fieldLink RX2 11 "Dimfacts$KeyedFacts" "firsts" "[LDimfacts$Fact;", Cond.fieldLink RX2 29 "Dimfacts$Fact" "filing" "I", Cond.fieldLink RX2 25 "Dimfacts$Fact" "next" "LDimfacts$Fact;", Cond.methodLink RX4 178 yX4_faultsAt, Cond.instanceMethod yX4_faultsAt, Cond.selects RX4 yX4_faultsAt yX4_faultsAt, Cond.code yX4_faultsAt cX4_faultsAt 9 (some .int), Cond.fieldLink RX4 68 "Dimfacts" "ruleCount" "I", Cond.fieldLink RX4 16 "Dimfacts" "stocks" "[I"]
def wsX4_faults_r2 : List Cond := [Cond.methodLink RX4 158 yX4_sumFails, Cond.instanceMethod yX4_sumFails, Cond.selects RX4 yX4_sumFails yX4_sumFails, Cond.code yX4_sumFails cX4_sumFails 12 (some .boolean), Cond.fieldLink RX4 138 "Dimfacts$Fact" "doubt" "I", Cond.fieldLink RX4 13 "Dimfacts" "weights" "[I", Cond.fieldLink RX4 135 "Dimfacts$Fact" "value" "I", Cond.methodLink RX4 96 yX4_keyOf, Cond.static yX4_keyOf, Cond.code yX4_keyOf cX4_keyOf 3 (some .int), Cond.methodLink RX4 196 ⟨"Dimfacts$FactStore", "holding", "(II)LDimfacts$Fact;"⟩, Cond.sameMethod "Dimfacts$FactStore" "Dimfacts$FactStore" "holding" "(II)LDimfacts$Fact;", Cond.selects RX2 ⟨"Dimfacts$FactStore", "holding", "(II)LDimfacts$Fact;"⟩ yX2_holding, Cond.selects RX3 ⟨"Dimfacts$FactStore", "holding", "(II)LDimfacts$Fact;"⟩ yX3_holding, Cond.instanceMethod yX3_holding, Cond.initialized RX3, Cond.code yX3_holding cX3_holding 6 (some (.object "Dimfacts$Fact")), Cond.fieldLink RX3 17 "Dimfacts$ListedFacts" "count" "I", Cond.fieldLink RX3 11 "Dimfacts$ListedFacts" "facts" "[LDimfacts$Fact;", Cond.fieldLink RX3 21 "Dimfacts$Fact" "key" "I", Cond.fieldLink RX3 24 "Dimfacts$Fact" "filing" "I", Cond.methodLink RX3 27 yX0_replaces, Cond.instanceMethod yX0_replaces, Cond.selects RX0 yX0_replaces yX0_replaces]
def wsX4_faults_r3 : List Cond := [Cond.initialized RX0, Cond.code yX0_replaces cX0_replaces 2 (some .boolean), Cond.fieldLink RX0 13 "Dimfacts$Fact" "filing" "I", Cond.fieldLink RX0 19 "Dimfacts$Fact" "doubt" "I", Cond.methodLink RX4 141 yX4_partHolding, Cond.instanceMethod yX4_partHolding, Cond.selects RX4 yX4_partHolding yX4_partHolding, Cond.code yX4_partHolding cX4_partHolding 6 (some (.object "Dimfacts$Fact")), Cond.fieldLink RX4 9 "Dimfacts" "parents" "[I", Cond.methodLink RX4 199 yX4_isApart, Cond.static yX4_isApart, Cond.code yX4_isApart cX4_isApart 3 (some .boolean), Cond.methodLink RX4 203 Lib.Math.abs.name, Cond.static Lib.Math.abs.name, Cond.initialized "java/lang/Math", Cond.code Lib.Math.abs.name Lib.Math.abs.code 1 (some .int), Cond.methodLink RX4 162 yX4_membersFail, Cond.static yX4_membersFail, Cond.code yX4_membersFail cX4_membersFail 9 (some .boolean), Cond.methodLink RX4 175 yX4_rollFails, Cond.instanceMethod yX4_rollFails, Cond.selects RX4 yX4_rollFails yX4_rollFails, Cond.code yX4_rollFails cX4_rollFails 9 (some .boolean), Cond.fieldLink RX4 19 "Dimfacts" "flows" "[I"]
def wsX4_faults : List Cond := .code yX4_faults cX4_faults 4 (some .int) :: ((wsX4_faults_r1 ++ (wsX4_faults_r2 ++ wsX4_faults_r3)) ++ wsX40 ++ wsX20 ++ wsX00 ++ wsX30 ++ (vx_atS RX4 170 "java/lang/IndexOutOfBoundsException" ["java/lang/RuntimeException", "java/lang/Exception"]).filter goodWord)
def wsX4_faultsByList_r1 : List Cond := [Cond.fieldLink RX4 25 "Dimfacts" "listed" "LDimfacts$ListedFacts;", Cond.fieldLink RX4 111 "Dimfacts$ListedFacts" "count" "I", Cond.fieldLink RX4 117 "Dimfacts$ListedFacts" "facts" "[LDimfacts$Fact;", Cond.fieldLink RX4 182 "Dimfacts$Fact" "key" "I", Cond.methodLink RX4 114 yX4_checkFiling, Cond.instanceMethod yX4_checkFiling, Cond.selects RX4 yX4_checkFiling yX4_checkFiling, Cond.initialized RX4, Cond.code yX4_checkFiling cX4_checkFiling 2 none, Cond.classLink RX4 166 "java/lang/IndexOutOfBoundsException", Cond.initialized "java/lang/IndexOutOfBoundsException", Cond.fieldLink RX4 73 "Dimfacts" "latest" "I", Cond.methodLink RX4 185 yX3_holding, Cond.instanceMethod yX3_holding, Cond.selects RX3 yX3_holding yX3_holding, Cond.initialized RX3, Cond.code yX3_holding cX3_holding 6 (some (.object "Dimfacts$Fact")), Cond.fieldLink RX3 17 "Dimfacts$ListedFacts" "count" "I", Cond.fieldLink RX3 11 "Dimfacts$ListedFacts" "facts" "[LDimfacts$Fact;", Cond.fieldLink RX3 21 "Dimfacts$Fact" "key" "I", Cond.fieldLink RX3 24 "Dimfacts$Fact" "filing" "I", Cond.methodLink RX3 27 yX0_replaces, Cond.instanceMethod yX0_replaces, Cond.selects RX0 yX0_replaces yX0_replaces]
def wsX4_faultsByList_r2 : List Cond := [Cond.initialized RX0, Cond.code yX0_replaces cX0_replaces 2 (some .boolean), Cond.fieldLink RX0 13 "Dimfacts$Fact" "filing" "I", Cond.fieldLink RX0 19 "Dimfacts$Fact" "doubt" "I", Cond.methodLink RX4 178 yX4_faultsAt, Cond.instanceMethod yX4_faultsAt, Cond.selects RX4 yX4_faultsAt yX4_faultsAt, Cond.code yX4_faultsAt cX4_faultsAt 9 (some .int), Cond.fieldLink RX4 68 "Dimfacts" "ruleCount" "I", Cond.fieldLink RX4 16 "Dimfacts" "stocks" "[I", Cond.methodLink RX4 158 yX4_sumFails, Cond.instanceMethod yX4_sumFails, Cond.selects RX4 yX4_sumFails yX4_sumFails, Cond.code yX4_sumFails cX4_sumFails 12 (some .boolean), Cond.fieldLink RX4 138 "Dimfacts$Fact" "doubt" "I", Cond.fieldLink RX4 42 "Dimfacts" "conceptCount" "I", Cond.fieldLink RX4 13 "Dimfacts" "weights" "[I", Cond.fieldLink RX4 135 "Dimfacts$Fact" "value" "I", Cond.methodLink RX4 96 yX4_keyOf, Cond.static yX4_keyOf, Cond.code yX4_keyOf cX4_keyOf 3 (some .int), Cond.methodLink RX4 196 ⟨"Dimfacts$FactStore", "holding", "(II)LDimfacts$Fact;"⟩, Cond.sameMethod "Dimfacts$FactStore" "Dimfacts$FactStore" "holding" "(II)LDimfacts$Fact;", Cond.selects RX2 ⟨"Dimfacts$FactStore", "holding", "(II)LDimfacts$Fact;"⟩ yX2_holding]
def wsX4_faultsByList_r3 : List Cond := [Cond.instanceMethod yX2_holding, Cond.initialized RX2, Cond.code yX2_holding cX2_holding 4 (some (.object "Dimfacts$Fact")), Cond.fieldLink RX2 11 "Dimfacts$KeyedFacts" "firsts" "[LDimfacts$Fact;", Cond.fieldLink RX2 29 "Dimfacts$Fact" "filing" "I", Cond.fieldLink RX2 25 "Dimfacts$Fact" "next" "LDimfacts$Fact;", Cond.selects RX3 ⟨"Dimfacts$FactStore", "holding", "(II)LDimfacts$Fact;"⟩ yX3_holding, Cond.methodLink RX4 141 yX4_partHolding, Cond.instanceMethod yX4_partHolding, Cond.selects RX4 yX4_partHolding yX4_partHolding, Cond.code yX4_partHolding cX4_partHolding 6 (some (.object "Dimfacts$Fact")), Cond.fieldLink RX4 9 "Dimfacts" "parents" "[I", Cond.methodLink RX4 199 yX4_isApart, Cond.static yX4_isApart, Cond.code yX4_isApart cX4_isApart 3 (some .boolean), Cond.methodLink RX4 203 Lib.Math.abs.name, Cond.static Lib.Math.abs.name, Cond.initialized "java/lang/Math", Cond.code Lib.Math.abs.name Lib.Math.abs.code 1 (some .int), Cond.methodLink RX4 162 yX4_membersFail, Cond.static yX4_membersFail, Cond.code yX4_membersFail cX4_membersFail 9 (some .boolean), Cond.methodLink RX4 175 yX4_rollFails, Cond.instanceMethod yX4_rollFails]
def wsX4_faultsByList_r4 : List Cond := [Cond.selects RX4 yX4_rollFails yX4_rollFails, Cond.code yX4_rollFails cX4_rollFails 9 (some .boolean), Cond.fieldLink RX4 19 "Dimfacts" "flows" "[I"]
def wsX4_faultsByList : List Cond := .code yX4_faultsByList cX4_faultsByList 5 (some .int) :: ((wsX4_faultsByList_r1 ++ (wsX4_faultsByList_r2 ++ (wsX4_faultsByList_r3 ++ wsX4_faultsByList_r4))) ++ wsX40 ++ wsX30 ++ wsX00 ++ wsX20 ++ (vx_atS RX4 170 "java/lang/IndexOutOfBoundsException" ["java/lang/RuntimeException", "java/lang/Exception"]).filter goodWord)
def wsJ9_abs_0f7a4 : List Cond := .code yJ9_abs_0f7a4 cJ9_abs_0f7a4 1 (some .int) :: ([])
def wsL_draw : List Cond := .code yL_draw cL_draw 4 (some .int) :: ([.constant RL 7 (904384969), .constant RL 8 (1254486961), .constant RL 9 (2147483647)])
def wsL_under : List Cond := .code yL_under cL_under 2 (some .int) :: ([])
def wsL_weight : List Cond := .code yL_weight cL_weight 2 (some .int) :: ([])
def wsL_held_r1 : List Cond := [Cond.classLink RL 19 "java/util/NoSuchElementException", Cond.constant RL 21 (-99000000), Cond.methodLink RL 10 yX4_doubt, Cond.instanceMethod yX4_doubt, Cond.selects RX4 yX4_doubt yX4_doubt, Cond.initialized RX4, Cond.code yX4_doubt cX4_doubt 5 (some .int), Cond.fieldLink RX4 138 "Dimfacts$Fact" "doubt" "I", Cond.methodLink RX4 131 yX4_heldFact, Cond.instanceMethod yX4_heldFact, Cond.selects RX4 yX4_heldFact yX4_heldFact, Cond.code yX4_heldFact cX4_heldFact 6 (some (.object "Dimfacts$Fact")), Cond.classLink RX4 153 "java/util/NoSuchElementException", Cond.initialized "java/util/NoSuchElementException", Cond.fieldLink RX4 32 "Dimfacts" "keyed" "LDimfacts$KeyedFacts;", Cond.methodLink RX4 78 yX4_checkKey, Cond.instanceMethod yX4_checkKey, Cond.selects RX4 yX4_checkKey yX4_checkKey, Cond.code yX4_checkKey cX4_checkKey 4 none, Cond.methodLink RX4 53 yX4_checkConcept, Cond.instanceMethod yX4_checkConcept, Cond.selects RX4 yX4_checkConcept yX4_checkConcept, Cond.code yX4_checkConcept cX4_checkConcept 2 none, Cond.classLink RX4 166 "java/lang/IndexOutOfBoundsException"]
def wsL_held_r2 : List Cond := [Cond.initialized "java/lang/IndexOutOfBoundsException", Cond.fieldLink RX4 42 "Dimfacts" "conceptCount" "I", Cond.methodLink RX4 171 yX4_checkPeriodAndMember, Cond.static yX4_checkPeriodAndMember, Cond.code yX4_checkPeriodAndMember cX4_checkPeriodAndMember 2 none, Cond.methodLink RX4 114 yX4_checkFiling, Cond.instanceMethod yX4_checkFiling, Cond.selects RX4 yX4_checkFiling yX4_checkFiling, Cond.code yX4_checkFiling cX4_checkFiling 2 none, Cond.fieldLink RX4 73 "Dimfacts" "latest" "I", Cond.methodLink RX4 96 yX4_keyOf, Cond.static yX4_keyOf, Cond.code yX4_keyOf cX4_keyOf 3 (some .int), Cond.methodLink RX4 145 yX2_holding, Cond.instanceMethod yX2_holding, Cond.selects RX2 yX2_holding yX2_holding, Cond.initialized RX2, Cond.code yX2_holding cX2_holding 4 (some (.object "Dimfacts$Fact")), Cond.fieldLink RX2 11 "Dimfacts$KeyedFacts" "firsts" "[LDimfacts$Fact;", Cond.fieldLink RX2 29 "Dimfacts$Fact" "filing" "I", Cond.fieldLink RX2 25 "Dimfacts$Fact" "next" "LDimfacts$Fact;", Cond.methodLink RL 16 yX4_value, Cond.instanceMethod yX4_value, Cond.selects RX4 yX4_value yX4_value]
def wsL_held_r3 : List Cond := [Cond.code yX4_value cX4_value 5 (some .int), Cond.fieldLink RX4 135 "Dimfacts$Fact" "value" "I"]
def wsL_held : List Cond := .codeWith yL_held cL_held 7 (some .int) [(0, 27, 28, 19)] :: ((wsL_held_r1 ++ (wsL_held_r2 ++ wsL_held_r3)) ++ wsX00 ++ wsX40 ++ wsX20 ++ (nx_at RX4 157).filter goodWord ++ (vx_atS RX4 170 "java/lang/IndexOutOfBoundsException" ["java/lang/RuntimeException", "java/lang/Exception"]).filter goodWord)
def wsL_derived_r1 : List Cond := [Cond.classLink RL 19 "java/util/NoSuchElementException", Cond.constant RL 21 (-99000000), Cond.methodLink RL 22 yX4_derived, Cond.instanceMethod yX4_derived, Cond.selects RX4 yX4_derived yX4_derived, Cond.initialized RX4, Cond.code yX4_derived cX4_derived 10 (some .int), Cond.classLink RX4 153 "java/util/NoSuchElementException", Cond.initialized "java/util/NoSuchElementException", Cond.fieldLink RX4 36 "Dimfacts" "reached" "[I", Cond.fieldLink RX4 39 "Dimfacts" "signs" "[I", Cond.fieldLink RX4 32 "Dimfacts" "keyed" "LDimfacts$KeyedFacts;", Cond.fieldLink RX4 135 "Dimfacts$Fact" "value" "I", Cond.methodLink RX4 78 yX4_checkKey, Cond.instanceMethod yX4_checkKey, Cond.selects RX4 yX4_checkKey yX4_checkKey, Cond.code yX4_checkKey cX4_checkKey 4 none, Cond.methodLink RX4 53 yX4_checkConcept, Cond.instanceMethod yX4_checkConcept, Cond.selects RX4 yX4_checkConcept yX4_checkConcept, Cond.code yX4_checkConcept cX4_checkConcept 2 none, Cond.classLink RX4 166 "java/lang/IndexOutOfBoundsException", Cond.initialized "java/lang/IndexOutOfBoundsException", Cond.fieldLink RX4 42 "Dimfacts" "conceptCount" "I"]
def wsL_derived_r2 : List Cond := [Cond.methodLink RX4 171 yX4_checkPeriodAndMember, Cond.static yX4_checkPeriodAndMember, Cond.code yX4_checkPeriodAndMember cX4_checkPeriodAndMember 2 none, Cond.methodLink RX4 114 yX4_checkFiling, Cond.instanceMethod yX4_checkFiling, Cond.selects RX4 yX4_checkFiling yX4_checkFiling, Cond.code yX4_checkFiling cX4_checkFiling 2 none, Cond.fieldLink RX4 73 "Dimfacts" "latest" "I", Cond.methodLink RX4 96 yX4_keyOf, Cond.static yX4_keyOf, Cond.code yX4_keyOf cX4_keyOf 3 (some .int), Cond.methodLink RX4 145 yX2_holding, Cond.instanceMethod yX2_holding, Cond.selects RX2 yX2_holding yX2_holding, Cond.initialized RX2, Cond.code yX2_holding cX2_holding 4 (some (.object "Dimfacts$Fact")), Cond.fieldLink RX2 11 "Dimfacts$KeyedFacts" "firsts" "[LDimfacts$Fact;", Cond.fieldLink RX2 29 "Dimfacts$Fact" "filing" "I", Cond.fieldLink RX2 25 "Dimfacts$Fact" "next" "LDimfacts$Fact;", Cond.methodLink RX4 149 yX4_reachParts, Cond.instanceMethod yX4_reachParts, Cond.selects RX4 yX4_reachParts yX4_reachParts, Cond.code yX4_reachParts cX4_reachParts 5 (some .int), Cond.fieldLink RX4 9 "Dimfacts" "parents" "[I"]
def wsL_derived_r3 : List Cond := [Cond.fieldLink RX4 13 "Dimfacts" "weights" "[I"]
def wsL_derived : List Cond := .codeWith yL_derived cL_derived 6 (some .int) [(0, 9, 10, 19)] :: ((wsL_derived_r1 ++ (wsL_derived_r2 ++ wsL_derived_r3)) ++ wsX40 ++ wsX00 ++ wsX20 ++ (nx_at RX4 157).filter goodWord ++ (vx_atS RX4 170 "java/lang/IndexOutOfBoundsException" ["java/lang/RuntimeException", "java/lang/Exception"]).filter goodWord)
def wsL_hangs : List Cond := .codeWith yL_hangs cL_hangs 5 (some .int) [(0, 7, 8, 29)] :: ([.classLink RL 29 "java/lang/IllegalArgumentException", .methodLink RL 25 yX4_hang, .instanceMethod yX4_hang, .selects RX4 yX4_hang yX4_hang, .initialized RX4, .code yX4_hang cX4_hang 5 (some .int), .classLink RX4 61 "java/lang/IllegalArgumentException", .initialized "java/lang/IllegalArgumentException", .fieldLink RX4 9 "Dimfacts" "parents" "[I", .fieldLink RX4 13 "Dimfacts" "weights" "[I", .methodLink RX4 53 yX4_checkConcept, .instanceMethod yX4_checkConcept, .selects RX4 yX4_checkConcept yX4_checkConcept, .code yX4_checkConcept cX4_checkConcept 2 none, .classLink RX4 166 "java/lang/IndexOutOfBoundsException", .initialized "java/lang/IndexOutOfBoundsException", .fieldLink RX4 42 "Dimfacts" "conceptCount" "I", .methodLink RX4 57 yX4_isAtOrUnder, .instanceMethod yX4_isAtOrUnder, .selects RX4 yX4_isAtOrUnder yX4_isAtOrUnder, .code yX4_isAtOrUnder cX4_isAtOrUnder 5 (some .boolean)] ++ wsX40 ++ (vx_atS RX4 65 "java/lang/IllegalArgumentException" ["java/lang/RuntimeException", "java/lang/Exception"]).filter goodWord ++ (vx_atS RX4 170 "java/lang/IndexOutOfBoundsException" ["java/lang/RuntimeException", "java/lang/Exception"]).filter goodWord)
def wsL_rolls : List Cond := .codeWith yL_rolls cL_rolls 4 (some .int) [(0, 6, 7, 29), (0, 6, 11, 35)] :: ([.classLink RL 29 "java/lang/IllegalArgumentException", .classLink RL 35 "java/lang/IllegalStateException", .methodLink RL 31 yX4_addRoll, .instanceMethod yX4_addRoll, .selects RX4 yX4_addRoll yX4_addRoll, .initialized RX4, .code yX4_addRoll cX4_addRoll 4 (some .int), .classLink RX4 61 "java/lang/IllegalArgumentException", .initialized "java/lang/IllegalArgumentException", .classLink RX4 46 "java/lang/IllegalStateException", .initialized "java/lang/IllegalStateException", .fieldLink RX4 68 "Dimfacts" "ruleCount" "I", .fieldLink RX4 16 "Dimfacts" "stocks" "[I", .fieldLink RX4 19 "Dimfacts" "flows" "[I", .methodLink RX4 53 yX4_checkConcept, .instanceMethod yX4_checkConcept, .selects RX4 yX4_checkConcept yX4_checkConcept, .code yX4_checkConcept cX4_checkConcept 2 none, .classLink RX4 166 "java/lang/IndexOutOfBoundsException", .initialized "java/lang/IndexOutOfBoundsException", .fieldLink RX4 42 "Dimfacts" "conceptCount" "I"] ++ wsX40 ++ (vx_atS RX4 65 "java/lang/IllegalArgumentException" ["java/lang/RuntimeException", "java/lang/Exception"]).filter goodWord ++ (vx_atS RX4 50 "java/lang/IllegalStateException" ["java/lang/RuntimeException", "java/lang/Exception"]).filter goodWord ++ (vx_atS RX4 170 "java/lang/IndexOutOfBoundsException" ["java/lang/RuntimeException", "java/lang/Exception"]).filter goodWord)
def wsL_files : List Cond := .codeWith yL_files cL_files 2 (some .int) [(0, 4, 5, 35)] :: ([.classLink RL 35 "java/lang/IllegalStateException", .methodLink RL 37 yX4_file, .instanceMethod yX4_file, .selects RX4 yX4_file yX4_file, .initialized RX4, .code yX4_file cX4_file 1 (some .int), .classLink RX4 46 "java/lang/IllegalStateException", .initialized "java/lang/IllegalStateException", .fieldLink RX4 73 "Dimfacts" "latest" "I"] ++ wsX40 ++ (vx_atS RX4 50 "java/lang/IllegalStateException" ["java/lang/RuntimeException", "java/lang/Exception"]).filter goodWord)
def wsL_isFar : List Cond := .code yL_isFar cL_isFar 4 (some .boolean) :: ([])
def wsL_isKey_r1 : List Cond := [Cond.constant RL 21 (-99000000), Cond.methodLink RL 41 yL_held, Cond.static yL_held, Cond.initialized RL, Cond.codeWith yL_held cL_held 7 (some .int) [(0, 27, 28, 19)], Cond.classLink RL 19 "java/util/NoSuchElementException", Cond.methodLink RL 10 yX4_doubt, Cond.instanceMethod yX4_doubt, Cond.selects RX4 yX4_doubt yX4_doubt, Cond.initialized RX4, Cond.code yX4_doubt cX4_doubt 5 (some .int), Cond.fieldLink RX4 138 "Dimfacts$Fact" "doubt" "I", Cond.methodLink RX4 131 yX4_heldFact, Cond.instanceMethod yX4_heldFact, Cond.selects RX4 yX4_heldFact yX4_heldFact, Cond.code yX4_heldFact cX4_heldFact 6 (some (.object "Dimfacts$Fact")), Cond.classLink RX4 153 "java/util/NoSuchElementException", Cond.initialized "java/util/NoSuchElementException", Cond.fieldLink RX4 32 "Dimfacts" "keyed" "LDimfacts$KeyedFacts;", Cond.methodLink RX4 78 yX4_checkKey, Cond.instanceMethod yX4_checkKey, Cond.selects RX4 yX4_checkKey yX4_checkKey, Cond.code yX4_checkKey cX4_checkKey 4 none, Cond.methodLink RX4 53 yX4_checkConcept]
def wsL_isKey_r2 : List Cond := [Cond.instanceMethod yX4_checkConcept, Cond.selects RX4 yX4_checkConcept yX4_checkConcept, Cond.code yX4_checkConcept cX4_checkConcept 2 none, Cond.classLink RX4 166 "java/lang/IndexOutOfBoundsException", Cond.initialized "java/lang/IndexOutOfBoundsException", Cond.fieldLink RX4 42 "Dimfacts" "conceptCount" "I", Cond.methodLink RX4 171 yX4_checkPeriodAndMember, Cond.static yX4_checkPeriodAndMember, Cond.code yX4_checkPeriodAndMember cX4_checkPeriodAndMember 2 none, Cond.methodLink RX4 114 yX4_checkFiling, Cond.instanceMethod yX4_checkFiling, Cond.selects RX4 yX4_checkFiling yX4_checkFiling, Cond.code yX4_checkFiling cX4_checkFiling 2 none, Cond.fieldLink RX4 73 "Dimfacts" "latest" "I", Cond.methodLink RX4 96 yX4_keyOf, Cond.static yX4_keyOf, Cond.code yX4_keyOf cX4_keyOf 3 (some .int), Cond.methodLink RX4 145 yX2_holding, Cond.instanceMethod yX2_holding, Cond.selects RX2 yX2_holding yX2_holding, Cond.initialized RX2, Cond.code yX2_holding cX2_holding 4 (some (.object "Dimfacts$Fact")), Cond.fieldLink RX2 11 "Dimfacts$KeyedFacts" "firsts" "[LDimfacts$Fact;", Cond.fieldLink RX2 29 "Dimfacts$Fact" "filing" "I"]
def wsL_isKey_r3 : List Cond := [Cond.fieldLink RX2 25 "Dimfacts$Fact" "next" "LDimfacts$Fact;", Cond.methodLink RL 16 yX4_value, Cond.instanceMethod yX4_value, Cond.selects RX4 yX4_value yX4_value, Cond.code yX4_value cX4_value 5 (some .int), Cond.fieldLink RX4 135 "Dimfacts$Fact" "value" "I", Cond.methodLink RL 47 yL_under, Cond.static yL_under, Cond.code yL_under cL_under 2 (some .int), Cond.methodLink RL 51 yL_derived, Cond.static yL_derived, Cond.codeWith yL_derived cL_derived 6 (some .int) [(0, 9, 10, 19)], Cond.methodLink RL 22 yX4_derived, Cond.instanceMethod yX4_derived, Cond.selects RX4 yX4_derived yX4_derived, Cond.code yX4_derived cX4_derived 10 (some .int), Cond.fieldLink RX4 36 "Dimfacts" "reached" "[I", Cond.fieldLink RX4 39 "Dimfacts" "signs" "[I", Cond.methodLink RX4 149 yX4_reachParts, Cond.instanceMethod yX4_reachParts, Cond.selects RX4 yX4_reachParts yX4_reachParts, Cond.code yX4_reachParts cX4_reachParts 5 (some .int), Cond.fieldLink RX4 9 "Dimfacts" "parents" "[I", Cond.fieldLink RX4 13 "Dimfacts" "weights" "[I"]
def wsL_isKey_r4 : List Cond := [Cond.methodLink RL 54 yL_weight, Cond.static yL_weight, Cond.code yL_weight cL_weight 2 (some .int), Cond.methodLink RL 57 yL_isFar, Cond.static yL_isFar, Cond.code yL_isFar cL_isFar 4 (some .boolean), Cond.methodLink RL 61 yX4_sum, Cond.instanceMethod yX4_sum, Cond.selects RX4 yX4_sum yX4_sum, Cond.code yX4_sum cX4_sum 8 (some .int), Cond.methodLink RX4 141 yX4_partHolding, Cond.instanceMethod yX4_partHolding, Cond.selects RX4 yX4_partHolding yX4_partHolding, Cond.code yX4_partHolding cX4_partHolding 6 (some (.object "Dimfacts$Fact")), Cond.methodLink RX4 196 ⟨"Dimfacts$FactStore", "holding", "(II)LDimfacts$Fact;"⟩, Cond.sameMethod "Dimfacts$FactStore" "Dimfacts$FactStore" "holding" "(II)LDimfacts$Fact;", Cond.selects RX2 ⟨"Dimfacts$FactStore", "holding", "(II)LDimfacts$Fact;"⟩ yX2_holding, Cond.selects RX3 ⟨"Dimfacts$FactStore", "holding", "(II)LDimfacts$Fact;"⟩ yX3_holding, Cond.instanceMethod yX3_holding, Cond.initialized RX3, Cond.code yX3_holding cX3_holding 6 (some (.object "Dimfacts$Fact")), Cond.fieldLink RX3 17 "Dimfacts$ListedFacts" "count" "I", Cond.fieldLink RX3 11 "Dimfacts$ListedFacts" "facts" "[LDimfacts$Fact;", Cond.fieldLink RX3 21 "Dimfacts$Fact" "key" "I"]
def wsL_isKey_r5 : List Cond := [Cond.fieldLink RX3 24 "Dimfacts$Fact" "filing" "I", Cond.methodLink RX3 27 yX0_replaces, Cond.instanceMethod yX0_replaces, Cond.selects RX0 yX0_replaces yX0_replaces, Cond.initialized RX0, Cond.code yX0_replaces cX0_replaces 2 (some .boolean), Cond.fieldLink RX0 13 "Dimfacts$Fact" "filing" "I", Cond.fieldLink RX0 19 "Dimfacts$Fact" "doubt" "I", Cond.methodLink RL 64 yX4_isSumOff, Cond.instanceMethod yX4_isSumOff, Cond.selects RX4 yX4_isSumOff yX4_isSumOff, Cond.code yX4_isSumOff cX4_isSumOff 5 (some .boolean), Cond.methodLink RX4 158 yX4_sumFails, Cond.instanceMethod yX4_sumFails, Cond.selects RX4 yX4_sumFails yX4_sumFails, Cond.code yX4_sumFails cX4_sumFails 12 (some .boolean), Cond.methodLink RX4 199 yX4_isApart, Cond.static yX4_isApart, Cond.code yX4_isApart cX4_isApart 3 (some .boolean), Cond.methodLink RX4 203 Lib.Math.abs.name, Cond.static Lib.Math.abs.name, Cond.initialized "java/lang/Math", Cond.code Lib.Math.abs.name Lib.Math.abs.code 1 (some .int)]
def wsL_isKey : List Cond := .code yL_isKey cL_isKey 17 (some .boolean) :: ((wsL_isKey_r1 ++ (wsL_isKey_r2 ++ (wsL_isKey_r3 ++ (wsL_isKey_r4 ++ wsL_isKey_r5)))) ++ wsX00 ++ wsX40 ++ wsX20 ++ wsX30 ++ (nx_at RX4 157).filter goodWord ++ (vx_atS RX4 170 "java/lang/IndexOutOfBoundsException" ["java/lang/RuntimeException", "java/lang/Exception"]).filter goodWord)
def wsL_areMembers_r1 : List Cond := [Cond.constant RL 21 (-99000000), Cond.methodLink RL 41 yL_held, Cond.static yL_held, Cond.initialized RL, Cond.codeWith yL_held cL_held 7 (some .int) [(0, 27, 28, 19)], Cond.classLink RL 19 "java/util/NoSuchElementException", Cond.methodLink RL 10 yX4_doubt, Cond.instanceMethod yX4_doubt, Cond.selects RX4 yX4_doubt yX4_doubt, Cond.initialized RX4, Cond.code yX4_doubt cX4_doubt 5 (some .int), Cond.fieldLink RX4 138 "Dimfacts$Fact" "doubt" "I", Cond.methodLink RX4 131 yX4_heldFact, Cond.instanceMethod yX4_heldFact, Cond.selects RX4 yX4_heldFact yX4_heldFact, Cond.code yX4_heldFact cX4_heldFact 6 (some (.object "Dimfacts$Fact")), Cond.classLink RX4 153 "java/util/NoSuchElementException", Cond.initialized "java/util/NoSuchElementException", Cond.fieldLink RX4 32 "Dimfacts" "keyed" "LDimfacts$KeyedFacts;", Cond.methodLink RX4 78 yX4_checkKey, Cond.instanceMethod yX4_checkKey, Cond.selects RX4 yX4_checkKey yX4_checkKey, Cond.code yX4_checkKey cX4_checkKey 4 none, Cond.methodLink RX4 53 yX4_checkConcept]
def wsL_areMembers_r2 : List Cond := [Cond.instanceMethod yX4_checkConcept, Cond.selects RX4 yX4_checkConcept yX4_checkConcept, Cond.code yX4_checkConcept cX4_checkConcept 2 none, Cond.classLink RX4 166 "java/lang/IndexOutOfBoundsException", Cond.initialized "java/lang/IndexOutOfBoundsException", Cond.fieldLink RX4 42 "Dimfacts" "conceptCount" "I", Cond.methodLink RX4 171 yX4_checkPeriodAndMember, Cond.static yX4_checkPeriodAndMember, Cond.code yX4_checkPeriodAndMember cX4_checkPeriodAndMember 2 none, Cond.methodLink RX4 114 yX4_checkFiling, Cond.instanceMethod yX4_checkFiling, Cond.selects RX4 yX4_checkFiling yX4_checkFiling, Cond.code yX4_checkFiling cX4_checkFiling 2 none, Cond.fieldLink RX4 73 "Dimfacts" "latest" "I", Cond.methodLink RX4 96 yX4_keyOf, Cond.static yX4_keyOf, Cond.code yX4_keyOf cX4_keyOf 3 (some .int), Cond.methodLink RX4 145 yX2_holding, Cond.instanceMethod yX2_holding, Cond.selects RX2 yX2_holding yX2_holding, Cond.initialized RX2, Cond.code yX2_holding cX2_holding 4 (some (.object "Dimfacts$Fact")), Cond.fieldLink RX2 11 "Dimfacts$KeyedFacts" "firsts" "[LDimfacts$Fact;", Cond.fieldLink RX2 29 "Dimfacts$Fact" "filing" "I"]
def wsL_areMembers_r3 : List Cond := [Cond.fieldLink RX2 25 "Dimfacts$Fact" "next" "LDimfacts$Fact;", Cond.methodLink RL 16 yX4_value, Cond.instanceMethod yX4_value, Cond.selects RX4 yX4_value yX4_value, Cond.code yX4_value cX4_value 5 (some .int), Cond.fieldLink RX4 135 "Dimfacts$Fact" "value" "I", Cond.methodLink RL 68 yX4_areMembersOff, Cond.instanceMethod yX4_areMembersOff, Cond.selects RX4 yX4_areMembersOff yX4_areMembersOff, Cond.code yX4_areMembersOff cX4_areMembersOff 4 (some .boolean), Cond.methodLink RX4 162 yX4_membersFail, Cond.static yX4_membersFail, Cond.code yX4_membersFail cX4_membersFail 9 (some .boolean), Cond.methodLink RX4 196 ⟨"Dimfacts$FactStore", "holding", "(II)LDimfacts$Fact;"⟩, Cond.sameMethod "Dimfacts$FactStore" "Dimfacts$FactStore" "holding" "(II)LDimfacts$Fact;", Cond.selects RX2 ⟨"Dimfacts$FactStore", "holding", "(II)LDimfacts$Fact;"⟩ yX2_holding, Cond.selects RX3 ⟨"Dimfacts$FactStore", "holding", "(II)LDimfacts$Fact;"⟩ yX3_holding, Cond.instanceMethod yX3_holding, Cond.initialized RX3, Cond.code yX3_holding cX3_holding 6 (some (.object "Dimfacts$Fact")), Cond.fieldLink RX3 17 "Dimfacts$ListedFacts" "count" "I", Cond.fieldLink RX3 11 "Dimfacts$ListedFacts" "facts" "[LDimfacts$Fact;", Cond.fieldLink RX3 21 "Dimfacts$Fact" "key" "I", Cond.fieldLink RX3 24 "Dimfacts$Fact" "filing" "I"]
def wsL_areMembers_r4 : List Cond := [Cond.methodLink RX3 27 yX0_replaces, Cond.instanceMethod yX0_replaces, Cond.selects RX0 yX0_replaces yX0_replaces, Cond.initialized RX0, Cond.code yX0_replaces cX0_replaces 2 (some .boolean), Cond.fieldLink RX0 13 "Dimfacts$Fact" "filing" "I", Cond.fieldLink RX0 19 "Dimfacts$Fact" "doubt" "I", Cond.methodLink RX4 199 yX4_isApart, Cond.static yX4_isApart, Cond.code yX4_isApart cX4_isApart 3 (some .boolean), Cond.methodLink RX4 203 Lib.Math.abs.name, Cond.static Lib.Math.abs.name, Cond.initialized "java/lang/Math", Cond.code Lib.Math.abs.name Lib.Math.abs.code 1 (some .int), Cond.methodLink RL 57 yL_isFar, Cond.static yL_isFar, Cond.code yL_isFar cL_isFar 4 (some .boolean)]
def wsL_areMembers : List Cond := .code yL_areMembers cL_areMembers 9 (some .boolean) :: ((wsL_areMembers_r1 ++ (wsL_areMembers_r2 ++ (wsL_areMembers_r3 ++ wsL_areMembers_r4))) ++ wsX00 ++ wsX40 ++ wsX20 ++ wsX30 ++ (nx_at RX4 157).filter goodWord ++ (vx_atS RX4 170 "java/lang/IndexOutOfBoundsException" ["java/lang/RuntimeException", "java/lang/Exception"]).filter goodWord)
def wsL_isRoll_r1 : List Cond := [Cond.constant RL 21 (-99000000), Cond.methodLink RL 71 yX4_isRollOff, Cond.instanceMethod yX4_isRollOff, Cond.selects RX4 yX4_isRollOff yX4_isRollOff, Cond.initialized RX4, Cond.code yX4_isRollOff cX4_isRollOff 5 (some .boolean), Cond.classLink RX4 166 "java/lang/IndexOutOfBoundsException", Cond.initialized "java/lang/IndexOutOfBoundsException", Cond.fieldLink RX4 68 "Dimfacts" "ruleCount" "I", Cond.fieldLink RX4 32 "Dimfacts" "keyed" "LDimfacts$KeyedFacts;", Cond.methodLink RX4 171 yX4_checkPeriodAndMember, Cond.static yX4_checkPeriodAndMember, Cond.code yX4_checkPeriodAndMember cX4_checkPeriodAndMember 2 none, Cond.methodLink RX4 114 yX4_checkFiling, Cond.instanceMethod yX4_checkFiling, Cond.selects RX4 yX4_checkFiling yX4_checkFiling, Cond.code yX4_checkFiling cX4_checkFiling 2 none, Cond.fieldLink RX4 73 "Dimfacts" "latest" "I", Cond.methodLink RX4 175 yX4_rollFails, Cond.instanceMethod yX4_rollFails, Cond.selects RX4 yX4_rollFails yX4_rollFails, Cond.code yX4_rollFails cX4_rollFails 9 (some .boolean), Cond.fieldLink RX4 16 "Dimfacts" "stocks" "[I", Cond.fieldLink RX4 19 "Dimfacts" "flows" "[I"]
def wsL_isRoll_r2 : List Cond := [Cond.fieldLink RX4 135 "Dimfacts$Fact" "value" "I", Cond.fieldLink RX4 138 "Dimfacts$Fact" "doubt" "I", Cond.methodLink RX4 96 yX4_keyOf, Cond.static yX4_keyOf, Cond.code yX4_keyOf cX4_keyOf 3 (some .int), Cond.methodLink RX4 196 ⟨"Dimfacts$FactStore", "holding", "(II)LDimfacts$Fact;"⟩, Cond.sameMethod "Dimfacts$FactStore" "Dimfacts$FactStore" "holding" "(II)LDimfacts$Fact;", Cond.selects RX2 ⟨"Dimfacts$FactStore", "holding", "(II)LDimfacts$Fact;"⟩ yX2_holding, Cond.instanceMethod yX2_holding, Cond.initialized RX2, Cond.code yX2_holding cX2_holding 4 (some (.object "Dimfacts$Fact")), Cond.fieldLink RX2 11 "Dimfacts$KeyedFacts" "firsts" "[LDimfacts$Fact;", Cond.fieldLink RX2 29 "Dimfacts$Fact" "filing" "I", Cond.fieldLink RX2 25 "Dimfacts$Fact" "next" "LDimfacts$Fact;", Cond.selects RX3 ⟨"Dimfacts$FactStore", "holding", "(II)LDimfacts$Fact;"⟩ yX3_holding, Cond.instanceMethod yX3_holding, Cond.initialized RX3, Cond.code yX3_holding cX3_holding 6 (some (.object "Dimfacts$Fact")), Cond.fieldLink RX3 17 "Dimfacts$ListedFacts" "count" "I", Cond.fieldLink RX3 11 "Dimfacts$ListedFacts" "facts" "[LDimfacts$Fact;", Cond.fieldLink RX3 21 "Dimfacts$Fact" "key" "I", Cond.fieldLink RX3 24 "Dimfacts$Fact" "filing" "I", Cond.methodLink RX3 27 yX0_replaces, Cond.instanceMethod yX0_replaces]
def wsL_isRoll_r3 : List Cond := [Cond.selects RX0 yX0_replaces yX0_replaces, Cond.initialized RX0, Cond.code yX0_replaces cX0_replaces 2 (some .boolean), Cond.fieldLink RX0 13 "Dimfacts$Fact" "filing" "I", Cond.fieldLink RX0 19 "Dimfacts$Fact" "doubt" "I", Cond.methodLink RX4 199 yX4_isApart, Cond.static yX4_isApart, Cond.code yX4_isApart cX4_isApart 3 (some .boolean), Cond.methodLink RX4 203 Lib.Math.abs.name, Cond.static Lib.Math.abs.name, Cond.initialized "java/lang/Math", Cond.code Lib.Math.abs.name Lib.Math.abs.code 1 (some .int), Cond.methodLink RL 41 yL_held, Cond.static yL_held, Cond.initialized RL, Cond.codeWith yL_held cL_held 7 (some .int) [(0, 27, 28, 19)], Cond.classLink RL 19 "java/util/NoSuchElementException", Cond.methodLink RL 10 yX4_doubt, Cond.instanceMethod yX4_doubt, Cond.selects RX4 yX4_doubt yX4_doubt, Cond.code yX4_doubt cX4_doubt 5 (some .int), Cond.methodLink RX4 131 yX4_heldFact, Cond.instanceMethod yX4_heldFact, Cond.selects RX4 yX4_heldFact yX4_heldFact]
def wsL_isRoll_r4 : List Cond := [Cond.code yX4_heldFact cX4_heldFact 6 (some (.object "Dimfacts$Fact")), Cond.classLink RX4 153 "java/util/NoSuchElementException", Cond.initialized "java/util/NoSuchElementException", Cond.methodLink RX4 78 yX4_checkKey, Cond.instanceMethod yX4_checkKey, Cond.selects RX4 yX4_checkKey yX4_checkKey, Cond.code yX4_checkKey cX4_checkKey 4 none, Cond.methodLink RX4 53 yX4_checkConcept, Cond.instanceMethod yX4_checkConcept, Cond.selects RX4 yX4_checkConcept yX4_checkConcept, Cond.code yX4_checkConcept cX4_checkConcept 2 none, Cond.fieldLink RX4 42 "Dimfacts" "conceptCount" "I", Cond.methodLink RX4 145 yX2_holding, Cond.selects RX2 yX2_holding yX2_holding, Cond.methodLink RL 16 yX4_value, Cond.instanceMethod yX4_value, Cond.selects RX4 yX4_value yX4_value, Cond.code yX4_value cX4_value 5 (some .int), Cond.methodLink RL 57 yL_isFar, Cond.static yL_isFar, Cond.code yL_isFar cL_isFar 4 (some .boolean)]
def wsL_isRoll : List Cond := .code yL_isRoll cL_isRoll 11 (some .boolean) :: ((wsL_isRoll_r1 ++ (wsL_isRoll_r2 ++ (wsL_isRoll_r3 ++ wsL_isRoll_r4))) ++ wsX40 ++ wsX00 ++ wsX20 ++ wsX30 ++ (vx_atS RX4 170 "java/lang/IndexOutOfBoundsException" ["java/lang/RuntimeException", "java/lang/Exception"]).filter goodWord ++ (nx_at RX4 157).filter goodWord)
def wsL_areFaults_r1 : List Cond := [Cond.methodLink RL 64 yX4_isSumOff, Cond.instanceMethod yX4_isSumOff, Cond.selects RX4 yX4_isSumOff yX4_isSumOff, Cond.initialized RX4, Cond.code yX4_isSumOff cX4_isSumOff 5 (some .boolean), Cond.fieldLink RX4 32 "Dimfacts" "keyed" "LDimfacts$KeyedFacts;", Cond.methodLink RX4 78 yX4_checkKey, Cond.instanceMethod yX4_checkKey, Cond.selects RX4 yX4_checkKey yX4_checkKey, Cond.code yX4_checkKey cX4_checkKey 4 none, Cond.methodLink RX4 53 yX4_checkConcept, Cond.instanceMethod yX4_checkConcept, Cond.selects RX4 yX4_checkConcept yX4_checkConcept, Cond.code yX4_checkConcept cX4_checkConcept 2 none, Cond.classLink RX4 166 "java/lang/IndexOutOfBoundsException", Cond.initialized "java/lang/IndexOutOfBoundsException", Cond.fieldLink RX4 42 "Dimfacts" "conceptCount" "I", Cond.methodLink RX4 171 yX4_checkPeriodAndMember, Cond.static yX4_checkPeriodAndMember, Cond.code yX4_checkPeriodAndMember cX4_checkPeriodAndMember 2 none, Cond.methodLink RX4 114 yX4_checkFiling, Cond.instanceMethod yX4_checkFiling, Cond.selects RX4 yX4_checkFiling yX4_checkFiling, Cond.code yX4_checkFiling cX4_checkFiling 2 none]
def wsL_areFaults_r2 : List Cond := [Cond.fieldLink RX4 73 "Dimfacts" "latest" "I", Cond.methodLink RX4 158 yX4_sumFails, Cond.instanceMethod yX4_sumFails, Cond.selects RX4 yX4_sumFails yX4_sumFails, Cond.code yX4_sumFails cX4_sumFails 12 (some .boolean), Cond.fieldLink RX4 138 "Dimfacts$Fact" "doubt" "I", Cond.fieldLink RX4 13 "Dimfacts" "weights" "[I", Cond.fieldLink RX4 135 "Dimfacts$Fact" "value" "I", Cond.methodLink RX4 96 yX4_keyOf, Cond.static yX4_keyOf, Cond.code yX4_keyOf cX4_keyOf 3 (some .int), Cond.methodLink RX4 196 ⟨"Dimfacts$FactStore", "holding", "(II)LDimfacts$Fact;"⟩, Cond.sameMethod "Dimfacts$FactStore" "Dimfacts$FactStore" "holding" "(II)LDimfacts$Fact;", Cond.selects RX2 ⟨"Dimfacts$FactStore", "holding", "(II)LDimfacts$Fact;"⟩ yX2_holding, Cond.instanceMethod yX2_holding, Cond.initialized RX2, Cond.code yX2_holding cX2_holding 4 (some (.object "Dimfacts$Fact")), Cond.fieldLink RX2 11 "Dimfacts$KeyedFacts" "firsts" "[LDimfacts$Fact;", Cond.fieldLink RX2 29 "Dimfacts$Fact" "filing" "I", Cond.fieldLink RX2 25 "Dimfacts$Fact" "next" "LDimfacts$Fact;", Cond.selects RX3 ⟨"Dimfacts$FactStore", "holding", "(II)LDimfacts$Fact;"⟩ yX3_holding, Cond.instanceMethod yX3_holding, Cond.initialized RX3, Cond.code yX3_holding cX3_holding 6 (some (.object "Dimfacts$Fact"))]
def wsL_areFaults_r3 : List Cond := [Cond.fieldLink RX3 17 "Dimfacts$ListedFacts" "count" "I", Cond.fieldLink RX3 11 "Dimfacts$ListedFacts" "facts" "[LDimfacts$Fact;", Cond.fieldLink RX3 21 "Dimfacts$Fact" "key" "I", Cond.fieldLink RX3 24 "Dimfacts$Fact" "filing" "I", Cond.methodLink RX3 27 yX0_replaces, Cond.instanceMethod yX0_replaces, Cond.selects RX0 yX0_replaces yX0_replaces, Cond.initialized RX0, Cond.code yX0_replaces cX0_replaces 2 (some .boolean), Cond.fieldLink RX0 13 "Dimfacts$Fact" "filing" "I", Cond.fieldLink RX0 19 "Dimfacts$Fact" "doubt" "I", Cond.methodLink RX4 141 yX4_partHolding, Cond.instanceMethod yX4_partHolding, Cond.selects RX4 yX4_partHolding yX4_partHolding, Cond.code yX4_partHolding cX4_partHolding 6 (some (.object "Dimfacts$Fact")), Cond.fieldLink RX4 9 "Dimfacts" "parents" "[I", Cond.methodLink RX4 199 yX4_isApart, Cond.static yX4_isApart, Cond.code yX4_isApart cX4_isApart 3 (some .boolean), Cond.methodLink RX4 203 Lib.Math.abs.name, Cond.static Lib.Math.abs.name, Cond.initialized "java/lang/Math", Cond.code Lib.Math.abs.name Lib.Math.abs.code 1 (some .int), Cond.methodLink RL 68 yX4_areMembersOff]
def wsL_areFaults_r4 : List Cond := [Cond.instanceMethod yX4_areMembersOff, Cond.selects RX4 yX4_areMembersOff yX4_areMembersOff, Cond.code yX4_areMembersOff cX4_areMembersOff 4 (some .boolean), Cond.methodLink RX4 162 yX4_membersFail, Cond.static yX4_membersFail, Cond.code yX4_membersFail cX4_membersFail 9 (some .boolean), Cond.methodLink RL 71 yX4_isRollOff, Cond.instanceMethod yX4_isRollOff, Cond.selects RX4 yX4_isRollOff yX4_isRollOff, Cond.code yX4_isRollOff cX4_isRollOff 5 (some .boolean), Cond.fieldLink RX4 68 "Dimfacts" "ruleCount" "I", Cond.methodLink RX4 175 yX4_rollFails, Cond.instanceMethod yX4_rollFails, Cond.selects RX4 yX4_rollFails yX4_rollFails, Cond.code yX4_rollFails cX4_rollFails 9 (some .boolean), Cond.fieldLink RX4 16 "Dimfacts" "stocks" "[I", Cond.fieldLink RX4 19 "Dimfacts" "flows" "[I", Cond.methodLink RL 74 yX4_faults, Cond.instanceMethod yX4_faults, Cond.selects RX4 yX4_faults yX4_faults, Cond.code yX4_faults cX4_faults 4 (some .int), Cond.methodLink RX4 145 yX2_holding, Cond.selects RX2 yX2_holding yX2_holding, Cond.methodLink RX4 178 yX4_faultsAt]
def wsL_areFaults_r5 : List Cond := [Cond.instanceMethod yX4_faultsAt, Cond.selects RX4 yX4_faultsAt yX4_faultsAt, Cond.code yX4_faultsAt cX4_faultsAt 9 (some .int), Cond.methodLink RL 78 yX4_faultsByList, Cond.instanceMethod yX4_faultsByList, Cond.selects RX4 yX4_faultsByList yX4_faultsByList, Cond.code yX4_faultsByList cX4_faultsByList 5 (some .int), Cond.fieldLink RX4 25 "Dimfacts" "listed" "LDimfacts$ListedFacts;", Cond.fieldLink RX4 111 "Dimfacts$ListedFacts" "count" "I", Cond.fieldLink RX4 117 "Dimfacts$ListedFacts" "facts" "[LDimfacts$Fact;", Cond.fieldLink RX4 182 "Dimfacts$Fact" "key" "I", Cond.methodLink RX4 185 yX3_holding, Cond.selects RX3 yX3_holding yX3_holding]
def wsL_areFaults : List Cond := .code yL_areFaults cL_areFaults 6 (some .boolean) :: ((wsL_areFaults_r1 ++ (wsL_areFaults_r2 ++ (wsL_areFaults_r3 ++ (wsL_areFaults_r4 ++ wsL_areFaults_r5)))) ++ wsX40 ++ wsX00 ++ wsX20 ++ wsX30 ++ (vx_atS RX4 170 "java/lang/IndexOutOfBoundsException" ["java/lang/RuntimeException", "java/lang/Exception"]).filter goodWord)
def wsL_hangsUnder : List Cond := .code yL_hangsUnder cL_hangsUnder 4 (some .boolean) :: ([.methodLink RL 47 yL_under, .static yL_under, .initialized RL, .code yL_under cL_under 2 (some .int)])
def wsL_tells_r1 : List Cond := [Cond.constant RL 81 (2000001), Cond.constant RL 82 (1000000), Cond.methodLink RL 41 yL_held, Cond.static yL_held, Cond.initialized RL, Cond.codeWith yL_held cL_held 7 (some .int) [(0, 27, 28, 19)], Cond.classLink RL 19 "java/util/NoSuchElementException", Cond.constant RL 21 (-99000000), Cond.methodLink RL 10 yX4_doubt, Cond.instanceMethod yX4_doubt, Cond.selects RX4 yX4_doubt yX4_doubt, Cond.initialized RX4, Cond.code yX4_doubt cX4_doubt 5 (some .int), Cond.fieldLink RX4 138 "Dimfacts$Fact" "doubt" "I", Cond.methodLink RX4 131 yX4_heldFact, Cond.instanceMethod yX4_heldFact, Cond.selects RX4 yX4_heldFact yX4_heldFact, Cond.code yX4_heldFact cX4_heldFact 6 (some (.object "Dimfacts$Fact")), Cond.classLink RX4 153 "java/util/NoSuchElementException", Cond.initialized "java/util/NoSuchElementException", Cond.fieldLink RX4 32 "Dimfacts" "keyed" "LDimfacts$KeyedFacts;", Cond.methodLink RX4 78 yX4_checkKey, Cond.instanceMethod yX4_checkKey, Cond.selects RX4 yX4_checkKey yX4_checkKey]
def wsL_tells_r2 : List Cond := [Cond.code yX4_checkKey cX4_checkKey 4 none, Cond.methodLink RX4 53 yX4_checkConcept, Cond.instanceMethod yX4_checkConcept, Cond.selects RX4 yX4_checkConcept yX4_checkConcept, Cond.code yX4_checkConcept cX4_checkConcept 2 none, Cond.classLink RX4 166 "java/lang/IndexOutOfBoundsException", Cond.initialized "java/lang/IndexOutOfBoundsException", Cond.fieldLink RX4 42 "Dimfacts" "conceptCount" "I", Cond.methodLink RX4 171 yX4_checkPeriodAndMember, Cond.static yX4_checkPeriodAndMember, Cond.code yX4_checkPeriodAndMember cX4_checkPeriodAndMember 2 none, Cond.methodLink RX4 114 yX4_checkFiling, Cond.instanceMethod yX4_checkFiling, Cond.selects RX4 yX4_checkFiling yX4_checkFiling, Cond.code yX4_checkFiling cX4_checkFiling 2 none, Cond.fieldLink RX4 73 "Dimfacts" "latest" "I", Cond.methodLink RX4 96 yX4_keyOf, Cond.static yX4_keyOf, Cond.code yX4_keyOf cX4_keyOf 3 (some .int), Cond.methodLink RX4 145 yX2_holding, Cond.instanceMethod yX2_holding, Cond.selects RX2 yX2_holding yX2_holding, Cond.initialized RX2, Cond.code yX2_holding cX2_holding 4 (some (.object "Dimfacts$Fact"))]
def wsL_tells_r3 : List Cond := [Cond.fieldLink RX2 11 "Dimfacts$KeyedFacts" "firsts" "[LDimfacts$Fact;", Cond.fieldLink RX2 29 "Dimfacts$Fact" "filing" "I", Cond.fieldLink RX2 25 "Dimfacts$Fact" "next" "LDimfacts$Fact;", Cond.methodLink RL 16 yX4_value, Cond.instanceMethod yX4_value, Cond.selects RX4 yX4_value yX4_value, Cond.code yX4_value cX4_value 5 (some .int), Cond.fieldLink RX4 135 "Dimfacts$Fact" "value" "I", Cond.methodLink RL 83 yX4_disagreements, Cond.instanceMethod yX4_disagreements, Cond.selects RX4 yX4_disagreements yX4_disagreements, Cond.code yX4_disagreements cX4_disagreements 5 (some .int), Cond.fieldLink RX4 25 "Dimfacts" "listed" "LDimfacts$ListedFacts;", Cond.fieldLink RX4 111 "Dimfacts$ListedFacts" "count" "I", Cond.fieldLink RX4 117 "Dimfacts$ListedFacts" "facts" "[LDimfacts$Fact;", Cond.fieldLink RX4 121 "Dimfacts$Fact" "filing" "I", Cond.methodLink RX4 124 yX3_countAgainst, Cond.instanceMethod yX3_countAgainst, Cond.selects RX3 yX3_countAgainst yX3_countAgainst, Cond.initialized RX3, Cond.code yX3_countAgainst cX3_countAgainst 6 (some .int), Cond.fieldLink RX3 11 "Dimfacts$ListedFacts" "facts" "[LDimfacts$Fact;", Cond.methodLink RX3 31 yX0_disagreesWith, Cond.instanceMethod yX0_disagreesWith]
def wsL_tells_r4 : List Cond := [Cond.selects RX0 yX0_disagreesWith yX0_disagreesWith, Cond.initialized RX0, Cond.code yX0_disagreesWith cX0_disagreesWith 2 (some .boolean), Cond.fieldLink RX0 13 "Dimfacts$Fact" "filing" "I", Cond.fieldLink RX0 7 "Dimfacts$Fact" "key" "I", Cond.fieldLink RX0 16 "Dimfacts$Fact" "value" "I", Cond.fieldLink RX0 19 "Dimfacts$Fact" "doubt" "I", Cond.static yX4_isApart, Cond.code yX4_isApart cX4_isApart 3 (some .boolean), Cond.methodLink RX4 203 Lib.Math.abs.name, Cond.static Lib.Math.abs.name, Cond.initialized "java/lang/Math", Cond.code Lib.Math.abs.name Lib.Math.abs.code 1 (some .int), Cond.methodLink RL 86 yX4_tell, Cond.instanceMethod yX4_tell, Cond.selects RX4 yX4_tell yX4_tell, Cond.code yX4_tell cX4_tell 7 (some .int), Cond.classLink RX4 61 "java/lang/IllegalArgumentException", Cond.initialized "java/lang/IllegalArgumentException", Cond.classLink RX4 46 "java/lang/IllegalStateException", Cond.initialized "java/lang/IllegalStateException", Cond.constant RX4 82 (-1000000), Cond.constant RX4 83 (1000000), Cond.classLink RX4 94 RX0]
def wsL_tells_r5 : List Cond := [Cond.instantiable RX0 5, Cond.fieldLink RX4 100 "Dimfacts" "DOUBTS" "[I", Cond.methodLink RX4 88 yX3_isFull, Cond.instanceMethod yX3_isFull, Cond.selects RX3 yX3_isFull yX3_isFull, Cond.code yX3_isFull cX3_isFull 1 (some .boolean), Cond.fieldLink RX3 17 "Dimfacts$ListedFacts" "count" "I", Cond.methodLink RX4 103 yX0_init, Cond.instanceMethod yX0_init, Cond.code yX0_init cX0_init 5 none, Cond.methodLink RX0 1 objectInit, Cond.instanceMethod objectInit, Cond.code objectInit ⟨#[0xb1]⟩ 1 none, Cond.methodLink RX4 106 yX3_keep, Cond.instanceMethod yX3_keep, Cond.selects RX3 yX3_keep yX3_keep, Cond.code yX3_keep cX3_keep 2 none, Cond.methodLink RX4 110 yX2_keep, Cond.instanceMethod yX2_keep, Cond.selects RX2 yX2_keep yX2_keep, Cond.code yX2_keep cX2_keep 3 none, Cond.fieldLink RX2 17 "Dimfacts$Fact" "key" "I", Cond.methodLink RX2 21 yX0_replaces, Cond.instanceMethod yX0_replaces]
def wsL_tells_r6 : List Cond := [Cond.selects RX0 yX0_replaces yX0_replaces, Cond.code yX0_replaces cX0_replaces 2 (some .boolean)]
def wsL_tells : List Cond := .code yL_tells cL_tells 17 (some .boolean) :: ((wsL_tells_r1 ++ (wsL_tells_r2 ++ (wsL_tells_r3 ++ (wsL_tells_r4 ++ (wsL_tells_r5 ++ wsL_tells_r6))))) ++ wsX00 ++ wsX40 ++ wsX20 ++ wsX30 ++ (nx_at RX4 157).filter goodWord ++ (vx_atS RX4 170 "java/lang/IndexOutOfBoundsException" ["java/lang/RuntimeException", "java/lang/Exception"]).filter goodWord ++ (vx_atS RX4 65 "java/lang/IllegalArgumentException" ["java/lang/RuntimeException", "java/lang/Exception"]).filter goodWord ++ (vx_atS RX4 50 "java/lang/IllegalStateException" ["java/lang/RuntimeException", "java/lang/Exception"]).filter goodWord)
def wsL_step_r1 : List Cond := [Cond.methodLink RL 90 yX4_addConcept, Cond.instanceMethod yX4_addConcept, Cond.selects RX4 yX4_addConcept yX4_addConcept, Cond.initialized RX4, Cond.code yX4_addConcept cX4_addConcept 2 (some .int), Cond.classLink RX4 46 "java/lang/IllegalStateException", Cond.initialized "java/lang/IllegalStateException", Cond.fieldLink RX4 42 "Dimfacts" "conceptCount" "I", Cond.fieldLink RX4 9 "Dimfacts" "parents" "[I", Cond.methodLink RL 93 yL_hangsUnder, Cond.static yL_hangsUnder, Cond.initialized RL, Cond.code yL_hangsUnder cL_hangsUnder 4 (some .boolean), Cond.methodLink RL 47 yL_under, Cond.static yL_under, Cond.code yL_under cL_under 2 (some .int), Cond.methodLink RL 97 yL_hangs, Cond.static yL_hangs, Cond.codeWith yL_hangs cL_hangs 5 (some .int) [(0, 7, 8, 29)], Cond.classLink RL 29 "java/lang/IllegalArgumentException", Cond.methodLink RL 25 yX4_hang, Cond.instanceMethod yX4_hang, Cond.selects RX4 yX4_hang yX4_hang, Cond.code yX4_hang cX4_hang 5 (some .int)]
def wsL_step_r2 : List Cond := [Cond.classLink RX4 61 "java/lang/IllegalArgumentException", Cond.initialized "java/lang/IllegalArgumentException", Cond.fieldLink RX4 13 "Dimfacts" "weights" "[I", Cond.methodLink RX4 53 yX4_checkConcept, Cond.instanceMethod yX4_checkConcept, Cond.selects RX4 yX4_checkConcept yX4_checkConcept, Cond.code yX4_checkConcept cX4_checkConcept 2 none, Cond.classLink RX4 166 "java/lang/IndexOutOfBoundsException", Cond.initialized "java/lang/IndexOutOfBoundsException", Cond.methodLink RX4 57 yX4_isAtOrUnder, Cond.instanceMethod yX4_isAtOrUnder, Cond.selects RX4 yX4_isAtOrUnder yX4_isAtOrUnder, Cond.code yX4_isAtOrUnder cX4_isAtOrUnder 5 (some .boolean), Cond.methodLink RL 101 yX4_unhang, Cond.instanceMethod yX4_unhang, Cond.selects RX4 yX4_unhang yX4_unhang, Cond.code yX4_unhang cX4_unhang 3 (some .int), Cond.methodLink RL 104 yL_rolls, Cond.static yL_rolls, Cond.codeWith yL_rolls cL_rolls 4 (some .int) [(0, 6, 7, 29), (0, 6, 11, 35)], Cond.classLink RL 35 "java/lang/IllegalStateException", Cond.methodLink RL 31 yX4_addRoll, Cond.instanceMethod yX4_addRoll, Cond.selects RX4 yX4_addRoll yX4_addRoll]
def wsL_step_r3 : List Cond := [Cond.code yX4_addRoll cX4_addRoll 4 (some .int), Cond.fieldLink RX4 68 "Dimfacts" "ruleCount" "I", Cond.fieldLink RX4 16 "Dimfacts" "stocks" "[I", Cond.fieldLink RX4 19 "Dimfacts" "flows" "[I", Cond.methodLink RL 108 yL_files, Cond.static yL_files, Cond.codeWith yL_files cL_files 2 (some .int) [(0, 4, 5, 35)], Cond.methodLink RL 37 yX4_file, Cond.instanceMethod yX4_file, Cond.selects RX4 yX4_file yX4_file, Cond.code yX4_file cX4_file 1 (some .int), Cond.fieldLink RX4 73 "Dimfacts" "latest" "I", Cond.methodLink RL 83 yX4_disagreements, Cond.instanceMethod yX4_disagreements, Cond.selects RX4 yX4_disagreements yX4_disagreements, Cond.code yX4_disagreements cX4_disagreements 5 (some .int), Cond.fieldLink RX4 25 "Dimfacts" "listed" "LDimfacts$ListedFacts;", Cond.fieldLink RX4 111 "Dimfacts$ListedFacts" "count" "I", Cond.fieldLink RX4 117 "Dimfacts$ListedFacts" "facts" "[LDimfacts$Fact;", Cond.fieldLink RX4 121 "Dimfacts$Fact" "filing" "I", Cond.methodLink RX4 114 yX4_checkFiling, Cond.instanceMethod yX4_checkFiling, Cond.selects RX4 yX4_checkFiling yX4_checkFiling, Cond.code yX4_checkFiling cX4_checkFiling 2 none]
def wsL_step_r4 : List Cond := [Cond.methodLink RX4 124 yX3_countAgainst, Cond.instanceMethod yX3_countAgainst, Cond.selects RX3 yX3_countAgainst yX3_countAgainst, Cond.initialized RX3, Cond.code yX3_countAgainst cX3_countAgainst 6 (some .int), Cond.fieldLink RX3 11 "Dimfacts$ListedFacts" "facts" "[LDimfacts$Fact;", Cond.methodLink RX3 31 yX0_disagreesWith, Cond.instanceMethod yX0_disagreesWith, Cond.selects RX0 yX0_disagreesWith yX0_disagreesWith, Cond.initialized RX0, Cond.code yX0_disagreesWith cX0_disagreesWith 2 (some .boolean), Cond.fieldLink RX0 13 "Dimfacts$Fact" "filing" "I", Cond.fieldLink RX0 7 "Dimfacts$Fact" "key" "I", Cond.fieldLink RX0 16 "Dimfacts$Fact" "value" "I", Cond.fieldLink RX0 19 "Dimfacts$Fact" "doubt" "I", Cond.static yX4_isApart, Cond.code yX4_isApart cX4_isApart 3 (some .boolean), Cond.methodLink RX4 203 Lib.Math.abs.name, Cond.static Lib.Math.abs.name, Cond.initialized "java/lang/Math", Cond.code Lib.Math.abs.name Lib.Math.abs.code 1 (some .int), Cond.methodLink RL 112 yX4_restated, Cond.instanceMethod yX4_restated, Cond.selects RX4 yX4_restated yX4_restated]
def wsL_step_r5 : List Cond := [Cond.code yX4_restated cX4_restated 4 (some .int), Cond.methodLink RX4 128 yX4_isRestated, Cond.instanceMethod yX4_isRestated, Cond.selects RX4 yX4_isRestated yX4_isRestated, Cond.code yX4_isRestated cX4_isRestated 5 (some .boolean), Cond.fieldLink RX4 32 "Dimfacts" "keyed" "LDimfacts$KeyedFacts;", Cond.fieldLink RX4 135 "Dimfacts$Fact" "value" "I", Cond.methodLink RX4 145 yX2_holding, Cond.instanceMethod yX2_holding, Cond.selects RX2 yX2_holding yX2_holding, Cond.initialized RX2, Cond.code yX2_holding cX2_holding 4 (some (.object "Dimfacts$Fact")), Cond.fieldLink RX2 11 "Dimfacts$KeyedFacts" "firsts" "[LDimfacts$Fact;", Cond.fieldLink RX2 29 "Dimfacts$Fact" "filing" "I", Cond.fieldLink RX2 25 "Dimfacts$Fact" "next" "LDimfacts$Fact;", Cond.methodLink RL 115 yL_tells, Cond.static yL_tells, Cond.code yL_tells cL_tells 17 (some .boolean), Cond.constant RL 81 (2000001), Cond.constant RL 82 (1000000), Cond.methodLink RL 41 yL_held, Cond.static yL_held, Cond.codeWith yL_held cL_held 7 (some .int) [(0, 27, 28, 19)], Cond.classLink RL 19 "java/util/NoSuchElementException"]
def wsL_step_r6 : List Cond := [Cond.constant RL 21 (-99000000), Cond.methodLink RL 10 yX4_doubt, Cond.instanceMethod yX4_doubt, Cond.selects RX4 yX4_doubt yX4_doubt, Cond.code yX4_doubt cX4_doubt 5 (some .int), Cond.fieldLink RX4 138 "Dimfacts$Fact" "doubt" "I", Cond.methodLink RX4 131 yX4_heldFact, Cond.instanceMethod yX4_heldFact, Cond.selects RX4 yX4_heldFact yX4_heldFact, Cond.code yX4_heldFact cX4_heldFact 6 (some (.object "Dimfacts$Fact")), Cond.classLink RX4 153 "java/util/NoSuchElementException", Cond.initialized "java/util/NoSuchElementException", Cond.methodLink RX4 78 yX4_checkKey, Cond.instanceMethod yX4_checkKey, Cond.selects RX4 yX4_checkKey yX4_checkKey, Cond.code yX4_checkKey cX4_checkKey 4 none, Cond.methodLink RX4 171 yX4_checkPeriodAndMember, Cond.static yX4_checkPeriodAndMember, Cond.code yX4_checkPeriodAndMember cX4_checkPeriodAndMember 2 none, Cond.methodLink RX4 96 yX4_keyOf, Cond.static yX4_keyOf, Cond.code yX4_keyOf cX4_keyOf 3 (some .int), Cond.methodLink RL 16 yX4_value, Cond.instanceMethod yX4_value]
def wsL_step_r7 : List Cond := [Cond.selects RX4 yX4_value yX4_value, Cond.code yX4_value cX4_value 5 (some .int), Cond.methodLink RL 86 yX4_tell, Cond.instanceMethod yX4_tell, Cond.selects RX4 yX4_tell yX4_tell, Cond.code yX4_tell cX4_tell 7 (some .int), Cond.constant RX4 82 (-1000000), Cond.constant RX4 83 (1000000), Cond.classLink RX4 94 RX0, Cond.instantiable RX0 5, Cond.fieldLink RX4 100 "Dimfacts" "DOUBTS" "[I", Cond.methodLink RX4 88 yX3_isFull, Cond.instanceMethod yX3_isFull, Cond.selects RX3 yX3_isFull yX3_isFull, Cond.code yX3_isFull cX3_isFull 1 (some .boolean), Cond.fieldLink RX3 17 "Dimfacts$ListedFacts" "count" "I", Cond.methodLink RX4 103 yX0_init, Cond.instanceMethod yX0_init, Cond.code yX0_init cX0_init 5 none, Cond.methodLink RX0 1 objectInit, Cond.instanceMethod objectInit, Cond.code objectInit ⟨#[0xb1]⟩ 1 none, Cond.methodLink RX4 106 yX3_keep, Cond.instanceMethod yX3_keep]
def wsL_step_r8 : List Cond := [Cond.selects RX3 yX3_keep yX3_keep, Cond.code yX3_keep cX3_keep 2 none, Cond.methodLink RX4 110 yX2_keep, Cond.instanceMethod yX2_keep, Cond.selects RX2 yX2_keep yX2_keep, Cond.code yX2_keep cX2_keep 3 none, Cond.fieldLink RX2 17 "Dimfacts$Fact" "key" "I", Cond.methodLink RX2 21 yX0_replaces, Cond.instanceMethod yX0_replaces, Cond.selects RX0 yX0_replaces yX0_replaces, Cond.code yX0_replaces cX0_replaces 2 (some .boolean)]
def wsL_step : List Cond := .code yL_step cL_step 12 (some .boolean) :: ((wsL_step_r1 ++ (wsL_step_r2 ++ (wsL_step_r3 ++ (wsL_step_r4 ++ (wsL_step_r5 ++ (wsL_step_r6 ++ (wsL_step_r7 ++ wsL_step_r8))))))) ++ wsX40 ++ wsX30 ++ wsX00 ++ wsX20 ++ (vx_atS RX4 50 "java/lang/IllegalStateException" ["java/lang/RuntimeException", "java/lang/Exception"]).filter goodWord ++ (vx_atS RX4 65 "java/lang/IllegalArgumentException" ["java/lang/RuntimeException", "java/lang/Exception"]).filter goodWord ++ (vx_atS RX4 170 "java/lang/IndexOutOfBoundsException" ["java/lang/RuntimeException", "java/lang/Exception"]).filter goodWord ++ (nx_at RX4 157).filter goodWord)
def wsL_checker_r1 : List Cond := [Cond.classLink RL 11 RX4, Cond.instantiable RX4 11, Cond.initialized RX4, Cond.arrayClass .int, Cond.constant RL 120 (1073741824), Cond.methodLink RL 119 yX4_init, Cond.instanceMethod yX4_init, Cond.code yX4_init cX4_init 1 none, Cond.methodLink RX4 3 objectInit, Cond.instanceMethod objectInit, Cond.code objectInit ⟨#[0xb1]⟩ 1 none, Cond.fieldLink RX4 9 "Dimfacts" "parents" "[I", Cond.fieldLink RX4 13 "Dimfacts" "weights" "[I", Cond.fieldLink RX4 16 "Dimfacts" "stocks" "[I", Cond.fieldLink RX4 19 "Dimfacts" "flows" "[I", Cond.classLink RX4 22 RX3, Cond.instantiable RX3 2, Cond.initialized RX3, Cond.fieldLink RX4 25 "Dimfacts" "listed" "LDimfacts$ListedFacts;", Cond.classLink RX4 29 RX2, Cond.instantiable RX2 1, Cond.initialized RX2, Cond.fieldLink RX4 32 "Dimfacts" "keyed" "LDimfacts$KeyedFacts;", Cond.fieldLink RX4 36 "Dimfacts" "reached" "[I"]
def wsL_checker_r2 : List Cond := [Cond.fieldLink RX4 39 "Dimfacts" "signs" "[I", Cond.instanceMethod yX3_init, Cond.code yX3_init cX3_init 1 none, Cond.classLink RX3 9 RX0, Cond.fieldLink RX3 11 "Dimfacts$ListedFacts" "facts" "[LDimfacts$Fact;", Cond.instanceMethod yX1_init, Cond.initialized RX1, Cond.code yX1_init cX1_init 1 none, Cond.methodLink RX1 1 objectInit, Cond.instanceMethod yX2_init, Cond.code yX2_init cX2_init 1 none, Cond.classLink RX2 9 RX0, Cond.fieldLink RX2 11 "Dimfacts$KeyedFacts" "firsts" "[LDimfacts$Fact;", Cond.methodLink RL 121 yL_draw, Cond.static yL_draw, Cond.initialized RL, Cond.code yL_draw cL_draw 4 (some .int), Cond.constant RL 7 (904384969), Cond.constant RL 8 (1254486961), Cond.constant RL 9 (2147483647), Cond.methodLink RL 125 yL_step, Cond.static yL_step, Cond.code yL_step cL_step 12 (some .boolean), Cond.methodLink RL 90 yX4_addConcept]
def wsL_checker_r3 : List Cond := [Cond.instanceMethod yX4_addConcept, Cond.selects RX4 yX4_addConcept yX4_addConcept, Cond.code yX4_addConcept cX4_addConcept 2 (some .int), Cond.classLink RX4 46 "java/lang/IllegalStateException", Cond.initialized "java/lang/IllegalStateException", Cond.fieldLink RX4 42 "Dimfacts" "conceptCount" "I", Cond.methodLink RL 93 yL_hangsUnder, Cond.static yL_hangsUnder, Cond.code yL_hangsUnder cL_hangsUnder 4 (some .boolean), Cond.methodLink RL 47 yL_under, Cond.static yL_under, Cond.code yL_under cL_under 2 (some .int), Cond.methodLink RL 97 yL_hangs, Cond.static yL_hangs, Cond.codeWith yL_hangs cL_hangs 5 (some .int) [(0, 7, 8, 29)], Cond.classLink RL 29 "java/lang/IllegalArgumentException", Cond.methodLink RL 25 yX4_hang, Cond.instanceMethod yX4_hang, Cond.selects RX4 yX4_hang yX4_hang, Cond.code yX4_hang cX4_hang 5 (some .int), Cond.classLink RX4 61 "java/lang/IllegalArgumentException", Cond.initialized "java/lang/IllegalArgumentException", Cond.methodLink RX4 53 yX4_checkConcept, Cond.instanceMethod yX4_checkConcept]
def wsL_checker_r4 : List Cond := [Cond.selects RX4 yX4_checkConcept yX4_checkConcept, Cond.code yX4_checkConcept cX4_checkConcept 2 none, Cond.classLink RX4 166 "java/lang/IndexOutOfBoundsException", Cond.initialized "java/lang/IndexOutOfBoundsException", Cond.methodLink RX4 57 yX4_isAtOrUnder, Cond.instanceMethod yX4_isAtOrUnder, Cond.selects RX4 yX4_isAtOrUnder yX4_isAtOrUnder, Cond.code yX4_isAtOrUnder cX4_isAtOrUnder 5 (some .boolean), Cond.methodLink RL 101 yX4_unhang, Cond.instanceMethod yX4_unhang, Cond.selects RX4 yX4_unhang yX4_unhang, Cond.code yX4_unhang cX4_unhang 3 (some .int), Cond.methodLink RL 104 yL_rolls, Cond.static yL_rolls, Cond.codeWith yL_rolls cL_rolls 4 (some .int) [(0, 6, 7, 29), (0, 6, 11, 35)], Cond.classLink RL 35 "java/lang/IllegalStateException", Cond.methodLink RL 31 yX4_addRoll, Cond.instanceMethod yX4_addRoll, Cond.selects RX4 yX4_addRoll yX4_addRoll, Cond.code yX4_addRoll cX4_addRoll 4 (some .int), Cond.fieldLink RX4 68 "Dimfacts" "ruleCount" "I", Cond.methodLink RL 108 yL_files, Cond.static yL_files, Cond.codeWith yL_files cL_files 2 (some .int) [(0, 4, 5, 35)]]
def wsL_checker_r5 : List Cond := [Cond.methodLink RL 37 yX4_file, Cond.instanceMethod yX4_file, Cond.selects RX4 yX4_file yX4_file, Cond.code yX4_file cX4_file 1 (some .int), Cond.fieldLink RX4 73 "Dimfacts" "latest" "I", Cond.methodLink RL 83 yX4_disagreements, Cond.instanceMethod yX4_disagreements, Cond.selects RX4 yX4_disagreements yX4_disagreements, Cond.code yX4_disagreements cX4_disagreements 5 (some .int), Cond.fieldLink RX4 111 "Dimfacts$ListedFacts" "count" "I", Cond.fieldLink RX4 117 "Dimfacts$ListedFacts" "facts" "[LDimfacts$Fact;", Cond.fieldLink RX4 121 "Dimfacts$Fact" "filing" "I", Cond.methodLink RX4 114 yX4_checkFiling, Cond.instanceMethod yX4_checkFiling, Cond.selects RX4 yX4_checkFiling yX4_checkFiling, Cond.code yX4_checkFiling cX4_checkFiling 2 none, Cond.methodLink RX4 124 yX3_countAgainst, Cond.instanceMethod yX3_countAgainst, Cond.selects RX3 yX3_countAgainst yX3_countAgainst, Cond.code yX3_countAgainst cX3_countAgainst 6 (some .int), Cond.methodLink RX3 31 yX0_disagreesWith, Cond.instanceMethod yX0_disagreesWith, Cond.selects RX0 yX0_disagreesWith yX0_disagreesWith, Cond.initialized RX0]
def wsL_checker_r6 : List Cond := [Cond.code yX0_disagreesWith cX0_disagreesWith 2 (some .boolean), Cond.fieldLink RX0 13 "Dimfacts$Fact" "filing" "I", Cond.fieldLink RX0 7 "Dimfacts$Fact" "key" "I", Cond.fieldLink RX0 16 "Dimfacts$Fact" "value" "I", Cond.fieldLink RX0 19 "Dimfacts$Fact" "doubt" "I", Cond.static yX4_isApart, Cond.code yX4_isApart cX4_isApart 3 (some .boolean), Cond.methodLink RX4 203 Lib.Math.abs.name, Cond.static Lib.Math.abs.name, Cond.initialized "java/lang/Math", Cond.code Lib.Math.abs.name Lib.Math.abs.code 1 (some .int), Cond.methodLink RL 112 yX4_restated, Cond.instanceMethod yX4_restated, Cond.selects RX4 yX4_restated yX4_restated, Cond.code yX4_restated cX4_restated 4 (some .int), Cond.methodLink RX4 128 yX4_isRestated, Cond.instanceMethod yX4_isRestated, Cond.selects RX4 yX4_isRestated yX4_isRestated, Cond.code yX4_isRestated cX4_isRestated 5 (some .boolean), Cond.fieldLink RX4 135 "Dimfacts$Fact" "value" "I", Cond.methodLink RX4 145 yX2_holding, Cond.instanceMethod yX2_holding, Cond.selects RX2 yX2_holding yX2_holding, Cond.code yX2_holding cX2_holding 4 (some (.object "Dimfacts$Fact"))]
def wsL_checker_r7 : List Cond := [Cond.fieldLink RX2 29 "Dimfacts$Fact" "filing" "I", Cond.fieldLink RX2 25 "Dimfacts$Fact" "next" "LDimfacts$Fact;", Cond.methodLink RL 115 yL_tells, Cond.static yL_tells, Cond.code yL_tells cL_tells 17 (some .boolean), Cond.constant RL 81 (2000001), Cond.constant RL 82 (1000000), Cond.methodLink RL 41 yL_held, Cond.static yL_held, Cond.codeWith yL_held cL_held 7 (some .int) [(0, 27, 28, 19)], Cond.classLink RL 19 "java/util/NoSuchElementException", Cond.constant RL 21 (-99000000), Cond.methodLink RL 10 yX4_doubt, Cond.instanceMethod yX4_doubt, Cond.selects RX4 yX4_doubt yX4_doubt, Cond.code yX4_doubt cX4_doubt 5 (some .int), Cond.fieldLink RX4 138 "Dimfacts$Fact" "doubt" "I", Cond.methodLink RX4 131 yX4_heldFact, Cond.instanceMethod yX4_heldFact, Cond.selects RX4 yX4_heldFact yX4_heldFact, Cond.code yX4_heldFact cX4_heldFact 6 (some (.object "Dimfacts$Fact")), Cond.classLink RX4 153 "java/util/NoSuchElementException", Cond.initialized "java/util/NoSuchElementException", Cond.methodLink RX4 78 yX4_checkKey]
def wsL_checker_r8 : List Cond := [Cond.instanceMethod yX4_checkKey, Cond.selects RX4 yX4_checkKey yX4_checkKey, Cond.code yX4_checkKey cX4_checkKey 4 none, Cond.methodLink RX4 171 yX4_checkPeriodAndMember, Cond.static yX4_checkPeriodAndMember, Cond.code yX4_checkPeriodAndMember cX4_checkPeriodAndMember 2 none, Cond.methodLink RX4 96 yX4_keyOf, Cond.static yX4_keyOf, Cond.code yX4_keyOf cX4_keyOf 3 (some .int), Cond.methodLink RL 16 yX4_value, Cond.instanceMethod yX4_value, Cond.selects RX4 yX4_value yX4_value, Cond.code yX4_value cX4_value 5 (some .int), Cond.methodLink RL 86 yX4_tell, Cond.instanceMethod yX4_tell, Cond.selects RX4 yX4_tell yX4_tell, Cond.code yX4_tell cX4_tell 7 (some .int), Cond.constant RX4 82 (-1000000), Cond.constant RX4 83 (1000000), Cond.classLink RX4 94 RX0, Cond.instantiable RX0 5, Cond.fieldLink RX4 100 "Dimfacts" "DOUBTS" "[I", Cond.methodLink RX4 88 yX3_isFull, Cond.instanceMethod yX3_isFull]
def wsL_checker_r9 : List Cond := [Cond.selects RX3 yX3_isFull yX3_isFull, Cond.code yX3_isFull cX3_isFull 1 (some .boolean), Cond.fieldLink RX3 17 "Dimfacts$ListedFacts" "count" "I", Cond.methodLink RX4 103 yX0_init, Cond.instanceMethod yX0_init, Cond.code yX0_init cX0_init 5 none, Cond.methodLink RX0 1 objectInit, Cond.methodLink RX4 106 yX3_keep, Cond.instanceMethod yX3_keep, Cond.selects RX3 yX3_keep yX3_keep, Cond.code yX3_keep cX3_keep 2 none, Cond.methodLink RX4 110 yX2_keep, Cond.instanceMethod yX2_keep, Cond.selects RX2 yX2_keep yX2_keep, Cond.code yX2_keep cX2_keep 3 none, Cond.fieldLink RX2 17 "Dimfacts$Fact" "key" "I", Cond.methodLink RX2 21 yX0_replaces, Cond.instanceMethod yX0_replaces, Cond.selects RX0 yX0_replaces yX0_replaces, Cond.code yX0_replaces cX0_replaces 2 (some .boolean), Cond.methodLink RL 129 yL_isKey, Cond.static yL_isKey, Cond.code yL_isKey cL_isKey 17 (some .boolean), Cond.methodLink RL 51 yL_derived]
def wsL_checker_r10 : List Cond := [Cond.static yL_derived, Cond.codeWith yL_derived cL_derived 6 (some .int) [(0, 9, 10, 19)], Cond.methodLink RL 22 yX4_derived, Cond.instanceMethod yX4_derived, Cond.selects RX4 yX4_derived yX4_derived, Cond.code yX4_derived cX4_derived 10 (some .int), Cond.methodLink RX4 149 yX4_reachParts, Cond.instanceMethod yX4_reachParts, Cond.selects RX4 yX4_reachParts yX4_reachParts, Cond.code yX4_reachParts cX4_reachParts 5 (some .int), Cond.methodLink RL 54 yL_weight, Cond.static yL_weight, Cond.code yL_weight cL_weight 2 (some .int), Cond.methodLink RL 57 yL_isFar, Cond.static yL_isFar, Cond.code yL_isFar cL_isFar 4 (some .boolean), Cond.methodLink RL 61 yX4_sum, Cond.instanceMethod yX4_sum, Cond.selects RX4 yX4_sum yX4_sum, Cond.code yX4_sum cX4_sum 8 (some .int), Cond.methodLink RX4 141 yX4_partHolding, Cond.instanceMethod yX4_partHolding, Cond.selects RX4 yX4_partHolding yX4_partHolding, Cond.code yX4_partHolding cX4_partHolding 6 (some (.object "Dimfacts$Fact"))]
def wsL_checker_r11 : List Cond := [Cond.methodLink RX4 196 ⟨"Dimfacts$FactStore", "holding", "(II)LDimfacts$Fact;"⟩, Cond.sameMethod "Dimfacts$FactStore" "Dimfacts$FactStore" "holding" "(II)LDimfacts$Fact;", Cond.selects RX2 ⟨"Dimfacts$FactStore", "holding", "(II)LDimfacts$Fact;"⟩ yX2_holding, Cond.selects RX3 ⟨"Dimfacts$FactStore", "holding", "(II)LDimfacts$Fact;"⟩ yX3_holding, Cond.instanceMethod yX3_holding, Cond.code yX3_holding cX3_holding 6 (some (.object "Dimfacts$Fact")), Cond.fieldLink RX3 21 "Dimfacts$Fact" "key" "I", Cond.fieldLink RX3 24 "Dimfacts$Fact" "filing" "I", Cond.methodLink RX3 27 yX0_replaces, Cond.methodLink RL 64 yX4_isSumOff, Cond.instanceMethod yX4_isSumOff, Cond.selects RX4 yX4_isSumOff yX4_isSumOff, Cond.code yX4_isSumOff cX4_isSumOff 5 (some .boolean), Cond.methodLink RX4 158 yX4_sumFails, Cond.instanceMethod yX4_sumFails, Cond.selects RX4 yX4_sumFails yX4_sumFails, Cond.code yX4_sumFails cX4_sumFails 12 (some .boolean), Cond.methodLink RX4 199 yX4_isApart, Cond.methodLink RL 133 yL_areMembers, Cond.static yL_areMembers, Cond.code yL_areMembers cL_areMembers 9 (some .boolean), Cond.methodLink RL 68 yX4_areMembersOff, Cond.instanceMethod yX4_areMembersOff, Cond.selects RX4 yX4_areMembersOff yX4_areMembersOff]
def wsL_checker_r12 : List Cond := [Cond.code yX4_areMembersOff cX4_areMembersOff 4 (some .boolean), Cond.methodLink RX4 162 yX4_membersFail, Cond.static yX4_membersFail, Cond.code yX4_membersFail cX4_membersFail 9 (some .boolean), Cond.methodLink RL 137 yL_isRoll, Cond.static yL_isRoll, Cond.code yL_isRoll cL_isRoll 11 (some .boolean), Cond.methodLink RL 71 yX4_isRollOff, Cond.instanceMethod yX4_isRollOff, Cond.selects RX4 yX4_isRollOff yX4_isRollOff, Cond.code yX4_isRollOff cX4_isRollOff 5 (some .boolean), Cond.methodLink RX4 175 yX4_rollFails, Cond.instanceMethod yX4_rollFails, Cond.selects RX4 yX4_rollFails yX4_rollFails, Cond.code yX4_rollFails cX4_rollFails 9 (some .boolean), Cond.methodLink RL 141 yL_areFaults, Cond.static yL_areFaults, Cond.code yL_areFaults cL_areFaults 6 (some .boolean), Cond.methodLink RL 74 yX4_faults, Cond.instanceMethod yX4_faults, Cond.selects RX4 yX4_faults yX4_faults, Cond.code yX4_faults cX4_faults 4 (some .int), Cond.methodLink RX4 178 yX4_faultsAt, Cond.instanceMethod yX4_faultsAt]
def wsL_checker_r13 : List Cond := [Cond.selects RX4 yX4_faultsAt yX4_faultsAt, Cond.code yX4_faultsAt cX4_faultsAt 9 (some .int), Cond.methodLink RL 78 yX4_faultsByList, Cond.instanceMethod yX4_faultsByList, Cond.selects RX4 yX4_faultsByList yX4_faultsByList, Cond.code yX4_faultsByList cX4_faultsByList 5 (some .int), Cond.fieldLink RX4 182 "Dimfacts$Fact" "key" "I", Cond.methodLink RX4 185 yX3_holding, Cond.selects RX3 yX3_holding yX3_holding]
def wsL_checker : List Cond := .code yL_checker cL_checker 13 (some .boolean) :: ((wsL_checker_r1 ++ (wsL_checker_r2 ++ (wsL_checker_r3 ++ (wsL_checker_r4 ++ (wsL_checker_r5 ++ (wsL_checker_r6 ++ (wsL_checker_r7 ++ (wsL_checker_r8 ++ (wsL_checker_r9 ++ (wsL_checker_r10 ++ (wsL_checker_r11 ++ (wsL_checker_r12 ++ wsL_checker_r13)))))))))))) ++ wsX40 ++ wsX30 ++ wsX20 ++ wsX00 ++ (vx_atS RX4 50 "java/lang/IllegalStateException" ["java/lang/RuntimeException", "java/lang/Exception"]).filter goodWord ++ (vx_atS RX4 65 "java/lang/IllegalArgumentException" ["java/lang/RuntimeException", "java/lang/Exception"]).filter goodWord ++ (vx_atS RX4 170 "java/lang/IndexOutOfBoundsException" ["java/lang/RuntimeException", "java/lang/Exception"]).filter goodWord ++ (nx_at RX4 157).filter goodWord)
def wsL_law0_r1 : List Cond := [Cond.methodLink RL 145 yL_checker, Cond.static yL_checker, Cond.initialized RL, Cond.code yL_checker cL_checker 13 (some .boolean), Cond.classLink RL 11 RX4, Cond.instantiable RX4 11, Cond.initialized RX4, Cond.arrayClass .int, Cond.constant RL 120 (1073741824), Cond.methodLink RL 119 yX4_init, Cond.instanceMethod yX4_init, Cond.code yX4_init cX4_init 1 none, Cond.methodLink RX4 3 objectInit, Cond.instanceMethod objectInit, Cond.code objectInit ⟨#[0xb1]⟩ 1 none, Cond.fieldLink RX4 9 "Dimfacts" "parents" "[I", Cond.fieldLink RX4 13 "Dimfacts" "weights" "[I", Cond.fieldLink RX4 16 "Dimfacts" "stocks" "[I", Cond.fieldLink RX4 19 "Dimfacts" "flows" "[I", Cond.classLink RX4 22 RX3, Cond.instantiable RX3 2, Cond.initialized RX3, Cond.fieldLink RX4 25 "Dimfacts" "listed" "LDimfacts$ListedFacts;", Cond.classLink RX4 29 RX2]
def wsL_law0_r2 : List Cond := [Cond.instantiable RX2 1, Cond.initialized RX2, Cond.fieldLink RX4 32 "Dimfacts" "keyed" "LDimfacts$KeyedFacts;", Cond.fieldLink RX4 36 "Dimfacts" "reached" "[I", Cond.fieldLink RX4 39 "Dimfacts" "signs" "[I", Cond.instanceMethod yX3_init, Cond.code yX3_init cX3_init 1 none, Cond.classLink RX3 9 RX0, Cond.fieldLink RX3 11 "Dimfacts$ListedFacts" "facts" "[LDimfacts$Fact;", Cond.instanceMethod yX1_init, Cond.initialized RX1, Cond.code yX1_init cX1_init 1 none, Cond.methodLink RX1 1 objectInit, Cond.instanceMethod yX2_init, Cond.code yX2_init cX2_init 1 none, Cond.classLink RX2 9 RX0, Cond.fieldLink RX2 11 "Dimfacts$KeyedFacts" "firsts" "[LDimfacts$Fact;", Cond.methodLink RL 121 yL_draw, Cond.static yL_draw, Cond.code yL_draw cL_draw 4 (some .int), Cond.constant RL 7 (904384969), Cond.constant RL 8 (1254486961), Cond.constant RL 9 (2147483647), Cond.methodLink RL 125 yL_step]
def wsL_law0_r3 : List Cond := [Cond.static yL_step, Cond.code yL_step cL_step 12 (some .boolean), Cond.methodLink RL 90 yX4_addConcept, Cond.instanceMethod yX4_addConcept, Cond.selects RX4 yX4_addConcept yX4_addConcept, Cond.code yX4_addConcept cX4_addConcept 2 (some .int), Cond.classLink RX4 46 "java/lang/IllegalStateException", Cond.initialized "java/lang/IllegalStateException", Cond.fieldLink RX4 42 "Dimfacts" "conceptCount" "I", Cond.methodLink RL 93 yL_hangsUnder, Cond.static yL_hangsUnder, Cond.code yL_hangsUnder cL_hangsUnder 4 (some .boolean), Cond.methodLink RL 47 yL_under, Cond.static yL_under, Cond.code yL_under cL_under 2 (some .int), Cond.methodLink RL 97 yL_hangs, Cond.static yL_hangs, Cond.codeWith yL_hangs cL_hangs 5 (some .int) [(0, 7, 8, 29)], Cond.classLink RL 29 "java/lang/IllegalArgumentException", Cond.methodLink RL 25 yX4_hang, Cond.instanceMethod yX4_hang, Cond.selects RX4 yX4_hang yX4_hang, Cond.code yX4_hang cX4_hang 5 (some .int), Cond.classLink RX4 61 "java/lang/IllegalArgumentException"]
def wsL_law0_r4 : List Cond := [Cond.initialized "java/lang/IllegalArgumentException", Cond.methodLink RX4 53 yX4_checkConcept, Cond.instanceMethod yX4_checkConcept, Cond.selects RX4 yX4_checkConcept yX4_checkConcept, Cond.code yX4_checkConcept cX4_checkConcept 2 none, Cond.classLink RX4 166 "java/lang/IndexOutOfBoundsException", Cond.initialized "java/lang/IndexOutOfBoundsException", Cond.methodLink RX4 57 yX4_isAtOrUnder, Cond.instanceMethod yX4_isAtOrUnder, Cond.selects RX4 yX4_isAtOrUnder yX4_isAtOrUnder, Cond.code yX4_isAtOrUnder cX4_isAtOrUnder 5 (some .boolean), Cond.methodLink RL 101 yX4_unhang, Cond.instanceMethod yX4_unhang, Cond.selects RX4 yX4_unhang yX4_unhang, Cond.code yX4_unhang cX4_unhang 3 (some .int), Cond.methodLink RL 104 yL_rolls, Cond.static yL_rolls, Cond.codeWith yL_rolls cL_rolls 4 (some .int) [(0, 6, 7, 29), (0, 6, 11, 35)], Cond.classLink RL 35 "java/lang/IllegalStateException", Cond.methodLink RL 31 yX4_addRoll, Cond.instanceMethod yX4_addRoll, Cond.selects RX4 yX4_addRoll yX4_addRoll, Cond.code yX4_addRoll cX4_addRoll 4 (some .int), Cond.fieldLink RX4 68 "Dimfacts" "ruleCount" "I"]
def wsL_law0_r5 : List Cond := [Cond.methodLink RL 108 yL_files, Cond.static yL_files, Cond.codeWith yL_files cL_files 2 (some .int) [(0, 4, 5, 35)], Cond.methodLink RL 37 yX4_file, Cond.instanceMethod yX4_file, Cond.selects RX4 yX4_file yX4_file, Cond.code yX4_file cX4_file 1 (some .int), Cond.fieldLink RX4 73 "Dimfacts" "latest" "I", Cond.methodLink RL 83 yX4_disagreements, Cond.instanceMethod yX4_disagreements, Cond.selects RX4 yX4_disagreements yX4_disagreements, Cond.code yX4_disagreements cX4_disagreements 5 (some .int), Cond.fieldLink RX4 111 "Dimfacts$ListedFacts" "count" "I", Cond.fieldLink RX4 117 "Dimfacts$ListedFacts" "facts" "[LDimfacts$Fact;", Cond.fieldLink RX4 121 "Dimfacts$Fact" "filing" "I", Cond.methodLink RX4 114 yX4_checkFiling, Cond.instanceMethod yX4_checkFiling, Cond.selects RX4 yX4_checkFiling yX4_checkFiling, Cond.code yX4_checkFiling cX4_checkFiling 2 none, Cond.methodLink RX4 124 yX3_countAgainst, Cond.instanceMethod yX3_countAgainst, Cond.selects RX3 yX3_countAgainst yX3_countAgainst, Cond.code yX3_countAgainst cX3_countAgainst 6 (some .int), Cond.methodLink RX3 31 yX0_disagreesWith]
def wsL_law0_r6 : List Cond := [Cond.instanceMethod yX0_disagreesWith, Cond.selects RX0 yX0_disagreesWith yX0_disagreesWith, Cond.initialized RX0, Cond.code yX0_disagreesWith cX0_disagreesWith 2 (some .boolean), Cond.fieldLink RX0 13 "Dimfacts$Fact" "filing" "I", Cond.fieldLink RX0 7 "Dimfacts$Fact" "key" "I", Cond.fieldLink RX0 16 "Dimfacts$Fact" "value" "I", Cond.fieldLink RX0 19 "Dimfacts$Fact" "doubt" "I", Cond.static yX4_isApart, Cond.code yX4_isApart cX4_isApart 3 (some .boolean), Cond.methodLink RX4 203 Lib.Math.abs.name, Cond.static Lib.Math.abs.name, Cond.initialized "java/lang/Math", Cond.code Lib.Math.abs.name Lib.Math.abs.code 1 (some .int), Cond.methodLink RL 112 yX4_restated, Cond.instanceMethod yX4_restated, Cond.selects RX4 yX4_restated yX4_restated, Cond.code yX4_restated cX4_restated 4 (some .int), Cond.methodLink RX4 128 yX4_isRestated, Cond.instanceMethod yX4_isRestated, Cond.selects RX4 yX4_isRestated yX4_isRestated, Cond.code yX4_isRestated cX4_isRestated 5 (some .boolean), Cond.fieldLink RX4 135 "Dimfacts$Fact" "value" "I", Cond.methodLink RX4 145 yX2_holding]
def wsL_law0_r7 : List Cond := [Cond.instanceMethod yX2_holding, Cond.selects RX2 yX2_holding yX2_holding, Cond.code yX2_holding cX2_holding 4 (some (.object "Dimfacts$Fact")), Cond.fieldLink RX2 29 "Dimfacts$Fact" "filing" "I", Cond.fieldLink RX2 25 "Dimfacts$Fact" "next" "LDimfacts$Fact;", Cond.methodLink RL 115 yL_tells, Cond.static yL_tells, Cond.code yL_tells cL_tells 17 (some .boolean), Cond.constant RL 81 (2000001), Cond.constant RL 82 (1000000), Cond.methodLink RL 41 yL_held, Cond.static yL_held, Cond.codeWith yL_held cL_held 7 (some .int) [(0, 27, 28, 19)], Cond.classLink RL 19 "java/util/NoSuchElementException", Cond.constant RL 21 (-99000000), Cond.methodLink RL 10 yX4_doubt, Cond.instanceMethod yX4_doubt, Cond.selects RX4 yX4_doubt yX4_doubt, Cond.code yX4_doubt cX4_doubt 5 (some .int), Cond.fieldLink RX4 138 "Dimfacts$Fact" "doubt" "I", Cond.methodLink RX4 131 yX4_heldFact, Cond.instanceMethod yX4_heldFact, Cond.selects RX4 yX4_heldFact yX4_heldFact, Cond.code yX4_heldFact cX4_heldFact 6 (some (.object "Dimfacts$Fact"))]
def wsL_law0_r8 : List Cond := [Cond.classLink RX4 153 "java/util/NoSuchElementException", Cond.initialized "java/util/NoSuchElementException", Cond.methodLink RX4 78 yX4_checkKey, Cond.instanceMethod yX4_checkKey, Cond.selects RX4 yX4_checkKey yX4_checkKey, Cond.code yX4_checkKey cX4_checkKey 4 none, Cond.methodLink RX4 171 yX4_checkPeriodAndMember, Cond.static yX4_checkPeriodAndMember, Cond.code yX4_checkPeriodAndMember cX4_checkPeriodAndMember 2 none, Cond.methodLink RX4 96 yX4_keyOf, Cond.static yX4_keyOf, Cond.code yX4_keyOf cX4_keyOf 3 (some .int), Cond.methodLink RL 16 yX4_value, Cond.instanceMethod yX4_value, Cond.selects RX4 yX4_value yX4_value, Cond.code yX4_value cX4_value 5 (some .int), Cond.methodLink RL 86 yX4_tell, Cond.instanceMethod yX4_tell, Cond.selects RX4 yX4_tell yX4_tell, Cond.code yX4_tell cX4_tell 7 (some .int), Cond.constant RX4 82 (-1000000), Cond.constant RX4 83 (1000000), Cond.classLink RX4 94 RX0, Cond.instantiable RX0 5]
def wsL_law0_r9 : List Cond := [Cond.fieldLink RX4 100 "Dimfacts" "DOUBTS" "[I", Cond.methodLink RX4 88 yX3_isFull, Cond.instanceMethod yX3_isFull, Cond.selects RX3 yX3_isFull yX3_isFull, Cond.code yX3_isFull cX3_isFull 1 (some .boolean), Cond.fieldLink RX3 17 "Dimfacts$ListedFacts" "count" "I", Cond.methodLink RX4 103 yX0_init, Cond.instanceMethod yX0_init, Cond.code yX0_init cX0_init 5 none, Cond.methodLink RX0 1 objectInit, Cond.methodLink RX4 106 yX3_keep, Cond.instanceMethod yX3_keep, Cond.selects RX3 yX3_keep yX3_keep, Cond.code yX3_keep cX3_keep 2 none, Cond.methodLink RX4 110 yX2_keep, Cond.instanceMethod yX2_keep, Cond.selects RX2 yX2_keep yX2_keep, Cond.code yX2_keep cX2_keep 3 none, Cond.fieldLink RX2 17 "Dimfacts$Fact" "key" "I", Cond.methodLink RX2 21 yX0_replaces, Cond.instanceMethod yX0_replaces, Cond.selects RX0 yX0_replaces yX0_replaces, Cond.code yX0_replaces cX0_replaces 2 (some .boolean), Cond.methodLink RL 129 yL_isKey]
def wsL_law0_r10 : List Cond := [Cond.static yL_isKey, Cond.code yL_isKey cL_isKey 17 (some .boolean), Cond.methodLink RL 51 yL_derived, Cond.static yL_derived, Cond.codeWith yL_derived cL_derived 6 (some .int) [(0, 9, 10, 19)], Cond.methodLink RL 22 yX4_derived, Cond.instanceMethod yX4_derived, Cond.selects RX4 yX4_derived yX4_derived, Cond.code yX4_derived cX4_derived 10 (some .int), Cond.methodLink RX4 149 yX4_reachParts, Cond.instanceMethod yX4_reachParts, Cond.selects RX4 yX4_reachParts yX4_reachParts, Cond.code yX4_reachParts cX4_reachParts 5 (some .int), Cond.methodLink RL 54 yL_weight, Cond.static yL_weight, Cond.code yL_weight cL_weight 2 (some .int), Cond.methodLink RL 57 yL_isFar, Cond.static yL_isFar, Cond.code yL_isFar cL_isFar 4 (some .boolean), Cond.methodLink RL 61 yX4_sum, Cond.instanceMethod yX4_sum, Cond.selects RX4 yX4_sum yX4_sum, Cond.code yX4_sum cX4_sum 8 (some .int), Cond.methodLink RX4 141 yX4_partHolding]
def wsL_law0_r11 : List Cond := [Cond.instanceMethod yX4_partHolding, Cond.selects RX4 yX4_partHolding yX4_partHolding, Cond.code yX4_partHolding cX4_partHolding 6 (some (.object "Dimfacts$Fact")), Cond.methodLink RX4 196 ⟨"Dimfacts$FactStore", "holding", "(II)LDimfacts$Fact;"⟩, Cond.sameMethod "Dimfacts$FactStore" "Dimfacts$FactStore" "holding" "(II)LDimfacts$Fact;", Cond.selects RX2 ⟨"Dimfacts$FactStore", "holding", "(II)LDimfacts$Fact;"⟩ yX2_holding, Cond.selects RX3 ⟨"Dimfacts$FactStore", "holding", "(II)LDimfacts$Fact;"⟩ yX3_holding, Cond.instanceMethod yX3_holding, Cond.code yX3_holding cX3_holding 6 (some (.object "Dimfacts$Fact")), Cond.fieldLink RX3 21 "Dimfacts$Fact" "key" "I", Cond.fieldLink RX3 24 "Dimfacts$Fact" "filing" "I", Cond.methodLink RX3 27 yX0_replaces, Cond.methodLink RL 64 yX4_isSumOff, Cond.instanceMethod yX4_isSumOff, Cond.selects RX4 yX4_isSumOff yX4_isSumOff, Cond.code yX4_isSumOff cX4_isSumOff 5 (some .boolean), Cond.methodLink RX4 158 yX4_sumFails, Cond.instanceMethod yX4_sumFails, Cond.selects RX4 yX4_sumFails yX4_sumFails, Cond.code yX4_sumFails cX4_sumFails 12 (some .boolean), Cond.methodLink RX4 199 yX4_isApart, Cond.methodLink RL 133 yL_areMembers, Cond.static yL_areMembers, Cond.code yL_areMembers cL_areMembers 9 (some .boolean)]
def wsL_law0_r12 : List Cond := [Cond.methodLink RL 68 yX4_areMembersOff, Cond.instanceMethod yX4_areMembersOff, Cond.selects RX4 yX4_areMembersOff yX4_areMembersOff, Cond.code yX4_areMembersOff cX4_areMembersOff 4 (some .boolean), Cond.methodLink RX4 162 yX4_membersFail, Cond.static yX4_membersFail, Cond.code yX4_membersFail cX4_membersFail 9 (some .boolean), Cond.methodLink RL 137 yL_isRoll, Cond.static yL_isRoll, Cond.code yL_isRoll cL_isRoll 11 (some .boolean), Cond.methodLink RL 71 yX4_isRollOff, Cond.instanceMethod yX4_isRollOff, Cond.selects RX4 yX4_isRollOff yX4_isRollOff, Cond.code yX4_isRollOff cX4_isRollOff 5 (some .boolean), Cond.methodLink RX4 175 yX4_rollFails, Cond.instanceMethod yX4_rollFails, Cond.selects RX4 yX4_rollFails yX4_rollFails, Cond.code yX4_rollFails cX4_rollFails 9 (some .boolean), Cond.methodLink RL 141 yL_areFaults, Cond.static yL_areFaults, Cond.code yL_areFaults cL_areFaults 6 (some .boolean), Cond.methodLink RL 74 yX4_faults, Cond.instanceMethod yX4_faults, Cond.selects RX4 yX4_faults yX4_faults]
def wsL_law0_r13 : List Cond := [Cond.code yX4_faults cX4_faults 4 (some .int), Cond.methodLink RX4 178 yX4_faultsAt, Cond.instanceMethod yX4_faultsAt, Cond.selects RX4 yX4_faultsAt yX4_faultsAt, Cond.code yX4_faultsAt cX4_faultsAt 9 (some .int), Cond.methodLink RL 78 yX4_faultsByList, Cond.instanceMethod yX4_faultsByList, Cond.selects RX4 yX4_faultsByList yX4_faultsByList, Cond.code yX4_faultsByList cX4_faultsByList 5 (some .int), Cond.fieldLink RX4 182 "Dimfacts$Fact" "key" "I", Cond.methodLink RX4 185 yX3_holding, Cond.selects RX3 yX3_holding yX3_holding]
def wsL_law0 : List Cond := (wsL_law0_r1 ++ (wsL_law0_r2 ++ (wsL_law0_r3 ++ (wsL_law0_r4 ++ (wsL_law0_r5 ++ (wsL_law0_r6 ++ (wsL_law0_r7 ++ (wsL_law0_r8 ++ (wsL_law0_r9 ++ (wsL_law0_r10 ++ (wsL_law0_r11 ++ (wsL_law0_r12 ++ wsL_law0_r13)))))))))))) ++ wsX40 ++ wsX30 ++ wsX20 ++ wsX00 ++ ([] : List Cond)
def wsL_law : List Cond := wsL_law0 ++ (vx_atS RX4 50 "java/lang/IllegalStateException" ["java/lang/RuntimeException", "java/lang/Exception"]).filter goodWord ++ (vx_atS RX4 65 "java/lang/IllegalArgumentException" ["java/lang/RuntimeException", "java/lang/Exception"]).filter goodWord ++ (vx_atS RX4 170 "java/lang/IndexOutOfBoundsException" ["java/lang/RuntimeException", "java/lang/Exception"]).filter goodWord ++ (nx_at RX4 157).filter goodWord
set_option maxRecDepth 20000 in
theorem inJx145de : ∀ w ∈ wsJx145de0, w ∈ lw_tbl := by decide +kernel
theorem inJ9 : ∀ w ∈ wsJ90, w ∈ lw_tbl := by decide +kernel
theorem inJ0 : ∀ w ∈ wsJ00, w ∈ lw_tbl := by decide +kernel
theorem dX0_init_0 : decode cX0_init 0 = .ok (.aload_n 0, 1) := by decide +kernel
theorem dX0_init_1 : decode cX0_init 1 = .ok (.invokespecial 1, 3) := by decide +kernel
theorem dX0_init_4 : decode cX0_init 4 = .ok (.aload_n 0, 1) := by decide +kernel
theorem dX0_init_5 : decode cX0_init 5 = .ok (.iload_n 1, 1) := by decide +kernel
theorem dX0_init_6 : decode cX0_init 6 = .ok (.putfield 7, 3) := by decide +kernel
theorem dX0_init_9 : decode cX0_init 9 = .ok (.aload_n 0, 1) := by decide +kernel
theorem dX0_init_10 : decode cX0_init 10 = .ok (.iload_n 2, 1) := by decide +kernel
theorem dX0_init_11 : decode cX0_init 11 = .ok (.putfield 13, 3) := by decide +kernel
theorem dX0_init_14 : decode cX0_init 14 = .ok (.aload_n 0, 1) := by decide +kernel
theorem dX0_init_15 : decode cX0_init 15 = .ok (.iload_n 3, 1) := by decide +kernel
theorem dX0_init_16 : decode cX0_init 16 = .ok (.putfield 16, 3) := by decide +kernel
theorem dX0_init_19 : decode cX0_init 19 = .ok (.aload_n 0, 1) := by decide +kernel
theorem dX0_init_20 : decode cX0_init 20 = .ok (.iload 4, 2) := by decide +kernel
theorem dX0_init_22 : decode cX0_init 22 = .ok (.putfield 19, 3) := by decide +kernel
theorem dX0_init_25 : decode cX0_init 25 = .ok (.return_, 1) := by decide +kernel
theorem dX0_replaces_0 : decode cX0_replaces 0 = .ok (.aload_n 0, 1) := by decide +kernel
theorem dX0_replaces_1 : decode cX0_replaces 1 = .ok (.getfield 13, 3) := by decide +kernel
theorem dX0_replaces_4 : decode cX0_replaces 4 = .ok (.aload_n 1, 1) := by decide +kernel
theorem dX0_replaces_5 : decode cX0_replaces 5 = .ok (.getfield 13, 3) := by decide +kernel
theorem dX0_replaces_8 : decode cX0_replaces 8 = .ok (.if_icmp .gt 25, 3) := by decide +kernel
theorem dX0_replaces_11 : decode cX0_replaces 11 = .ok (.aload_n 0, 1) := by decide +kernel
theorem dX0_replaces_12 : decode cX0_replaces 12 = .ok (.getfield 13, 3) := by decide +kernel
theorem dX0_replaces_15 : decode cX0_replaces 15 = .ok (.aload_n 1, 1) := by decide +kernel
theorem dX0_replaces_16 : decode cX0_replaces 16 = .ok (.getfield 13, 3) := by decide +kernel
theorem dX0_replaces_19 : decode cX0_replaces 19 = .ok (.if_icmp .ne 18, 3) := by decide +kernel
theorem dX0_replaces_22 : decode cX0_replaces 22 = .ok (.aload_n 0, 1) := by decide +kernel
theorem dX0_replaces_23 : decode cX0_replaces 23 = .ok (.getfield 19, 3) := by decide +kernel
theorem dX0_replaces_26 : decode cX0_replaces 26 = .ok (.aload_n 1, 1) := by decide +kernel
theorem dX0_replaces_27 : decode cX0_replaces 27 = .ok (.getfield 19, 3) := by decide +kernel
theorem dX0_replaces_30 : decode cX0_replaces 30 = .ok (.if_icmp .ge 7, 3) := by decide +kernel
theorem dX0_replaces_33 : decode cX0_replaces 33 = .ok (.iconst 1, 1) := by decide +kernel
theorem dX0_replaces_34 : decode cX0_replaces 34 = .ok (.goto 4, 3) := by decide +kernel
theorem dX0_replaces_37 : decode cX0_replaces 37 = .ok (.iconst 0, 1) := by decide +kernel
theorem dX0_replaces_38 : decode cX0_replaces 38 = .ok (.ireturn, 1) := by decide +kernel
set_option maxRecDepth 20000 in
theorem ggX0_disagreesWith_X4_isApart : GoodIn wsX0_disagreesWith wsX4_isApart := goodIn_r _ [7, 8, 9, 10, 11] (by decide +kernel) (by decide +kernel)
set_option maxRecDepth 20000 in
theorem gX0_disagreesWith_X4_isApart_n22 : GoodIn wsX0_disagreesWith (wsX4_isApart) := ggX0_disagreesWith_X4_isApart
theorem dX0_disagreesWith_0 : decode cX0_disagreesWith 0 = .ok (.aload_n 0, 1) := by decide +kernel
theorem dX0_disagreesWith_1 : decode cX0_disagreesWith 1 = .ok (.getfield 13, 3) := by decide +kernel
theorem dX0_disagreesWith_4 : decode cX0_disagreesWith 4 = .ok (.aload_n 1, 1) := by decide +kernel
theorem dX0_disagreesWith_5 : decode cX0_disagreesWith 5 = .ok (.getfield 13, 3) := by decide +kernel
theorem dX0_disagreesWith_8 : decode cX0_disagreesWith 8 = .ok (.if_icmp .ne 41, 3) := by decide +kernel
theorem dX0_disagreesWith_11 : decode cX0_disagreesWith 11 = .ok (.aload_n 0, 1) := by decide +kernel
theorem dX0_disagreesWith_12 : decode cX0_disagreesWith 12 = .ok (.getfield 7, 3) := by decide +kernel
theorem dX0_disagreesWith_15 : decode cX0_disagreesWith 15 = .ok (.aload_n 1, 1) := by decide +kernel
theorem dX0_disagreesWith_16 : decode cX0_disagreesWith 16 = .ok (.getfield 7, 3) := by decide +kernel
theorem dX0_disagreesWith_19 : decode cX0_disagreesWith 19 = .ok (.if_icmp .ne 30, 3) := by decide +kernel
theorem dX0_disagreesWith_22 : decode cX0_disagreesWith 22 = .ok (.aload_n 0, 1) := by decide +kernel
theorem dX0_disagreesWith_23 : decode cX0_disagreesWith 23 = .ok (.getfield 16, 3) := by decide +kernel
theorem dX0_disagreesWith_26 : decode cX0_disagreesWith 26 = .ok (.aload_n 1, 1) := by decide +kernel
theorem dX0_disagreesWith_27 : decode cX0_disagreesWith 27 = .ok (.getfield 16, 3) := by decide +kernel
theorem dX0_disagreesWith_30 : decode cX0_disagreesWith 30 = .ok (.aload_n 0, 1) := by decide +kernel
theorem dX0_disagreesWith_31 : decode cX0_disagreesWith 31 = .ok (.getfield 19, 3) := by decide +kernel
theorem dX0_disagreesWith_34 : decode cX0_disagreesWith 34 = .ok (.aload_n 1, 1) := by decide +kernel
theorem dX0_disagreesWith_35 : decode cX0_disagreesWith 35 = .ok (.getfield 19, 3) := by decide +kernel
theorem dX0_disagreesWith_38 : decode cX0_disagreesWith 38 = .ok (.iadd, 1) := by decide +kernel
theorem dX0_disagreesWith_39 : decode cX0_disagreesWith 39 = .ok (.invokestatic 22, 3) := by decide +kernel
theorem dX0_disagreesWith_42 : decode cX0_disagreesWith 42 = .ok (.ifCond .eq 7, 3) := by decide +kernel
theorem dX0_disagreesWith_45 : decode cX0_disagreesWith 45 = .ok (.iconst 1, 1) := by decide +kernel
theorem dX0_disagreesWith_46 : decode cX0_disagreesWith 46 = .ok (.goto 4, 3) := by decide +kernel
theorem dX0_disagreesWith_49 : decode cX0_disagreesWith 49 = .ok (.iconst 0, 1) := by decide +kernel
theorem dX0_disagreesWith_50 : decode cX0_disagreesWith 50 = .ok (.ireturn, 1) := by decide +kernel
theorem dX1_init_0 : decode cX1_init 0 = .ok (.aload_n 0, 1) := by decide +kernel
theorem dX1_init_1 : decode cX1_init 1 = .ok (.invokespecial 1, 3) := by decide +kernel
theorem dX1_init_4 : decode cX1_init 4 = .ok (.return_, 1) := by decide +kernel
set_option maxRecDepth 20000 in
theorem ggX2_init_X1_init : GoodIn wsX2_init wsX1_init := goodIn_r _ [5, 6, 7, 8] (by decide +kernel) (by decide +kernel)
set_option maxRecDepth 20000 in
theorem gX2_init_X1_init_n3 : GoodIn wsX2_init (wsX1_init) := ggX2_init_X1_init
theorem dX2_init_0 : decode cX2_init 0 = .ok (.aload_n 0, 1) := by decide +kernel
theorem dX2_init_1 : decode cX2_init 1 = .ok (.invokespecial 3, 3) := by decide +kernel
theorem dX2_init_4 : decode cX2_init 4 = .ok (.aload_n 0, 1) := by decide +kernel
theorem dX2_init_5 : decode cX2_init 5 = .ok (.sipush 480, 3) := by decide +kernel
theorem dX2_init_8 : decode cX2_init 8 = .ok (.anewarray 9, 3) := by decide +kernel
theorem dX2_init_11 : decode cX2_init 11 = .ok (.putfield 11, 3) := by decide +kernel
theorem dX2_init_14 : decode cX2_init 14 = .ok (.return_, 1) := by decide +kernel
set_option maxRecDepth 20000 in
theorem ggX2_keep_X0_replaces : GoodIn wsX2_keep wsX0_replaces := goodIn_r _ [8, 9, 10, 12, 13, 14, 15, 16] (by decide +kernel) (by decide +kernel)
set_option maxRecDepth 20000 in
theorem gX2_keep_X0_replaces : GoodIn wsX2_keep (wsV RX2 21 RX0 yX0_replaces wsX0_replaces) := goodIn_app (goodIn_of _ (by decide +kernel)) ggX2_keep_X0_replaces
theorem dX2_keep_0 : decode cX2_keep 0 = .ok (.aload_n 0, 1) := by decide +kernel
theorem dX2_keep_1 : decode cX2_keep 1 = .ok (.getfield 11, 3) := by decide +kernel
theorem dX2_keep_4 : decode cX2_keep 4 = .ok (.aload_n 1, 1) := by decide +kernel
theorem dX2_keep_5 : decode cX2_keep 5 = .ok (.getfield 17, 3) := by decide +kernel
theorem dX2_keep_8 : decode cX2_keep 8 = .ok (.aaload, 1) := by decide +kernel
theorem dX2_keep_9 : decode cX2_keep 9 = .ok (.astore_n 2, 1) := by decide +kernel
theorem dX2_keep_10 : decode cX2_keep 10 = .ok (.aload_n 2, 1) := by decide +kernel
theorem dX2_keep_11 : decode cX2_keep 11 = .ok (.ifnull 11, 3) := by decide +kernel
theorem dX2_keep_14 : decode cX2_keep 14 = .ok (.aload_n 1, 1) := by decide +kernel
theorem dX2_keep_15 : decode cX2_keep 15 = .ok (.aload_n 2, 1) := by decide +kernel
theorem dX2_keep_16 : decode cX2_keep 16 = .ok (.invokevirtual 21, 3) := by decide +kernel
theorem dX2_keep_19 : decode cX2_keep 19 = .ok (.ifCond .eq 18, 3) := by decide +kernel
theorem dX2_keep_22 : decode cX2_keep 22 = .ok (.aload_n 1, 1) := by decide +kernel
theorem dX2_keep_23 : decode cX2_keep 23 = .ok (.aload_n 2, 1) := by decide +kernel
theorem dX2_keep_24 : decode cX2_keep 24 = .ok (.putfield 25, 3) := by decide +kernel
theorem dX2_keep_27 : decode cX2_keep 27 = .ok (.aload_n 0, 1) := by decide +kernel
theorem dX2_keep_28 : decode cX2_keep 28 = .ok (.getfield 11, 3) := by decide +kernel
theorem dX2_keep_31 : decode cX2_keep 31 = .ok (.aload_n 1, 1) := by decide +kernel
theorem dX2_keep_32 : decode cX2_keep 32 = .ok (.getfield 17, 3) := by decide +kernel
theorem dX2_keep_35 : decode cX2_keep 35 = .ok (.aload_n 1, 1) := by decide +kernel
theorem dX2_keep_36 : decode cX2_keep 36 = .ok (.aastore, 1) := by decide +kernel
theorem dX2_keep_37 : decode cX2_keep 37 = .ok (.return_, 1) := by decide +kernel
theorem dX2_holding_0 : decode cX2_holding 0 = .ok (.aload_n 0, 1) := by decide +kernel
theorem dX2_holding_1 : decode cX2_holding 1 = .ok (.getfield 11, 3) := by decide +kernel
theorem dX2_holding_4 : decode cX2_holding 4 = .ok (.iload_n 1, 1) := by decide +kernel
theorem dX2_holding_5 : decode cX2_holding 5 = .ok (.aaload, 1) := by decide +kernel
theorem dX2_holding_6 : decode cX2_holding 6 = .ok (.astore_n 3, 1) := by decide +kernel
theorem dX2_holding_7 : decode cX2_holding 7 = .ok (.aload_n 3, 1) := by decide +kernel
theorem dX2_holding_8 : decode cX2_holding 8 = .ok (.ifnull 19, 3) := by decide +kernel
theorem dX2_holding_11 : decode cX2_holding 11 = .ok (.aload_n 3, 1) := by decide +kernel
theorem dX2_holding_12 : decode cX2_holding 12 = .ok (.getfield 29, 3) := by decide +kernel
theorem dX2_holding_15 : decode cX2_holding 15 = .ok (.iload_n 2, 1) := by decide +kernel
theorem dX2_holding_16 : decode cX2_holding 16 = .ok (.if_icmp .le 11, 3) := by decide +kernel
theorem dX2_holding_19 : decode cX2_holding 19 = .ok (.aload_n 3, 1) := by decide +kernel
theorem dX2_holding_20 : decode cX2_holding 20 = .ok (.getfield 25, 3) := by decide +kernel
theorem dX2_holding_23 : decode cX2_holding 23 = .ok (.astore_n 3, 1) := by decide +kernel
theorem dX2_holding_24 : decode cX2_holding 24 = .ok (.goto (-17), 3) := by decide +kernel
theorem dX2_holding_27 : decode cX2_holding 27 = .ok (.aload_n 3, 1) := by decide +kernel
theorem dX2_holding_28 : decode cX2_holding 28 = .ok (.areturn, 1) := by decide +kernel
set_option maxRecDepth 20000 in
theorem ggX3_init_X1_init : GoodIn wsX3_init wsX1_init := goodIn_r _ [5, 6, 7, 8] (by decide +kernel) (by decide +kernel)
set_option maxRecDepth 20000 in
theorem gX3_init_X1_init_n3 : GoodIn wsX3_init (wsX1_init) := ggX3_init_X1_init
theorem dX3_init_0 : decode cX3_init 0 = .ok (.aload_n 0, 1) := by decide +kernel
theorem dX3_init_1 : decode cX3_init 1 = .ok (.invokespecial 3, 3) := by decide +kernel
theorem dX3_init_4 : decode cX3_init 4 = .ok (.aload_n 0, 1) := by decide +kernel
theorem dX3_init_5 : decode cX3_init 5 = .ok (.bipush 80, 2) := by decide +kernel
theorem dX3_init_7 : decode cX3_init 7 = .ok (.anewarray 9, 3) := by decide +kernel
theorem dX3_init_10 : decode cX3_init 10 = .ok (.putfield 11, 3) := by decide +kernel
theorem dX3_init_13 : decode cX3_init 13 = .ok (.return_, 1) := by decide +kernel
theorem dX3_isFull_0 : decode cX3_isFull 0 = .ok (.aload_n 0, 1) := by decide +kernel
theorem dX3_isFull_1 : decode cX3_isFull 1 = .ok (.getfield 17, 3) := by decide +kernel
theorem dX3_isFull_4 : decode cX3_isFull 4 = .ok (.bipush 80, 2) := by decide +kernel
theorem dX3_isFull_6 : decode cX3_isFull 6 = .ok (.if_icmp .lt 7, 3) := by decide +kernel
theorem dX3_isFull_9 : decode cX3_isFull 9 = .ok (.iconst 1, 1) := by decide +kernel
theorem dX3_isFull_10 : decode cX3_isFull 10 = .ok (.goto 4, 3) := by decide +kernel
theorem dX3_isFull_13 : decode cX3_isFull 13 = .ok (.iconst 0, 1) := by decide +kernel
theorem dX3_isFull_14 : decode cX3_isFull 14 = .ok (.ireturn, 1) := by decide +kernel
theorem dX3_keep_0 : decode cX3_keep 0 = .ok (.aload_n 0, 1) := by decide +kernel
theorem dX3_keep_1 : decode cX3_keep 1 = .ok (.getfield 17, 3) := by decide +kernel
theorem dX3_keep_4 : decode cX3_keep 4 = .ok (.bipush 80, 2) := by decide +kernel
theorem dX3_keep_6 : decode cX3_keep 6 = .ok (.if_icmp .ge 23, 3) := by decide +kernel
theorem dX3_keep_9 : decode cX3_keep 9 = .ok (.aload_n 0, 1) := by decide +kernel
theorem dX3_keep_10 : decode cX3_keep 10 = .ok (.getfield 11, 3) := by decide +kernel
theorem dX3_keep_13 : decode cX3_keep 13 = .ok (.aload_n 0, 1) := by decide +kernel
theorem dX3_keep_14 : decode cX3_keep 14 = .ok (.getfield 17, 3) := by decide +kernel
theorem dX3_keep_17 : decode cX3_keep 17 = .ok (.aload_n 1, 1) := by decide +kernel
theorem dX3_keep_18 : decode cX3_keep 18 = .ok (.aastore, 1) := by decide +kernel
theorem dX3_keep_19 : decode cX3_keep 19 = .ok (.aload_n 0, 1) := by decide +kernel
theorem dX3_keep_20 : decode cX3_keep 20 = .ok (.dup, 1) := by decide +kernel
theorem dX3_keep_21 : decode cX3_keep 21 = .ok (.getfield 17, 3) := by decide +kernel
theorem dX3_keep_24 : decode cX3_keep 24 = .ok (.iconst 1, 1) := by decide +kernel
theorem dX3_keep_25 : decode cX3_keep 25 = .ok (.iadd, 1) := by decide +kernel
theorem dX3_keep_26 : decode cX3_keep 26 = .ok (.putfield 17, 3) := by decide +kernel
theorem dX3_keep_29 : decode cX3_keep 29 = .ok (.return_, 1) := by decide +kernel
set_option maxRecDepth 20000 in
theorem ggX3_holding_X0_replaces : GoodIn wsX3_holding wsX0_replaces := goodIn_r _ [9, 10, 11, 14, 15, 16, 17, 18] (by decide +kernel) (by decide +kernel)
set_option maxRecDepth 20000 in
theorem gX3_holding_X0_replaces : GoodIn wsX3_holding (wsV RX3 27 RX0 yX0_replaces wsX0_replaces) := goodIn_app (goodIn_of _ (by decide +kernel)) ggX3_holding_X0_replaces
theorem dX3_holding_0 : decode cX3_holding 0 = .ok (.aconst_null, 1) := by decide +kernel
theorem dX3_holding_1 : decode cX3_holding 1 = .ok (.astore_n 3, 1) := by decide +kernel
theorem dX3_holding_2 : decode cX3_holding 2 = .ok (.iconst 0, 1) := by decide +kernel
theorem dX3_holding_3 : decode cX3_holding 3 = .ok (.istore 4, 2) := by decide +kernel
theorem dX3_holding_5 : decode cX3_holding 5 = .ok (.iload 4, 2) := by decide +kernel
theorem dX3_holding_7 : decode cX3_holding 7 = .ok (.aload_n 0, 1) := by decide +kernel
theorem dX3_holding_8 : decode cX3_holding 8 = .ok (.getfield 17, 3) := by decide +kernel
theorem dX3_holding_11 : decode cX3_holding 11 = .ok (.if_icmp .ge 57, 3) := by decide +kernel
theorem dX3_holding_14 : decode cX3_holding 14 = .ok (.aload_n 0, 1) := by decide +kernel
theorem dX3_holding_15 : decode cX3_holding 15 = .ok (.getfield 11, 3) := by decide +kernel
theorem dX3_holding_18 : decode cX3_holding 18 = .ok (.iload 4, 2) := by decide +kernel
theorem dX3_holding_20 : decode cX3_holding 20 = .ok (.aaload, 1) := by decide +kernel
theorem dX3_holding_21 : decode cX3_holding 21 = .ok (.astore 5, 2) := by decide +kernel
theorem dX3_holding_23 : decode cX3_holding 23 = .ok (.aload 5, 2) := by decide +kernel
theorem dX3_holding_25 : decode cX3_holding 25 = .ok (.ifnull 37, 3) := by decide +kernel
theorem dX3_holding_28 : decode cX3_holding 28 = .ok (.aload 5, 2) := by decide +kernel
theorem dX3_holding_30 : decode cX3_holding 30 = .ok (.getfield 21, 3) := by decide +kernel
theorem dX3_holding_33 : decode cX3_holding 33 = .ok (.iload_n 1, 1) := by decide +kernel
theorem dX3_holding_34 : decode cX3_holding 34 = .ok (.if_icmp .ne 28, 3) := by decide +kernel
theorem dX3_holding_37 : decode cX3_holding 37 = .ok (.aload 5, 2) := by decide +kernel
theorem dX3_holding_39 : decode cX3_holding 39 = .ok (.getfield 24, 3) := by decide +kernel
theorem dX3_holding_42 : decode cX3_holding 42 = .ok (.iload_n 2, 1) := by decide +kernel
theorem dX3_holding_43 : decode cX3_holding 43 = .ok (.if_icmp .gt 19, 3) := by decide +kernel
theorem dX3_holding_46 : decode cX3_holding 46 = .ok (.aload_n 3, 1) := by decide +kernel
theorem dX3_holding_47 : decode cX3_holding 47 = .ok (.ifnull 12, 3) := by decide +kernel
theorem dX3_holding_50 : decode cX3_holding 50 = .ok (.aload 5, 2) := by decide +kernel
theorem dX3_holding_52 : decode cX3_holding 52 = .ok (.aload_n 3, 1) := by decide +kernel
theorem dX3_holding_53 : decode cX3_holding 53 = .ok (.invokevirtual 27, 3) := by decide +kernel
theorem dX3_holding_56 : decode cX3_holding 56 = .ok (.ifCond .eq 6, 3) := by decide +kernel
theorem dX3_holding_59 : decode cX3_holding 59 = .ok (.aload 5, 2) := by decide +kernel
theorem dX3_holding_61 : decode cX3_holding 61 = .ok (.astore_n 3, 1) := by decide +kernel
theorem dX3_holding_62 : decode cX3_holding 62 = .ok (.iinc 4 1, 3) := by decide +kernel
theorem dX3_holding_65 : decode cX3_holding 65 = .ok (.goto (-60), 3) := by decide +kernel
theorem dX3_holding_68 : decode cX3_holding 68 = .ok (.aload_n 3, 1) := by decide +kernel
theorem dX3_holding_69 : decode cX3_holding 69 = .ok (.areturn, 1) := by decide +kernel
set_option maxRecDepth 20000 in
theorem ggX3_countAgainst_X0_disagreesWith : GoodIn wsX3_countAgainst wsX0_disagreesWith := goodIn_r _ [6, 7, 8, 9, 10, 11, 12, 13, 14, 15, 16, 17, 20, 21, 22, 23, 24] (by decide +kernel) (by decide +kernel)
set_option maxRecDepth 20000 in
theorem gX3_countAgainst_X0_disagreesWith : GoodIn wsX3_countAgainst (wsV RX3 31 RX0 yX0_disagreesWith wsX0_disagreesWith) := goodIn_app (goodIn_of _ (by decide +kernel)) ggX3_countAgainst_X0_disagreesWith
theorem dX3_countAgainst_0 : decode cX3_countAgainst 0 = .ok (.iconst 0, 1) := by decide +kernel
theorem dX3_countAgainst_1 : decode cX3_countAgainst 1 = .ok (.istore_n 3, 1) := by decide +kernel
theorem dX3_countAgainst_2 : decode cX3_countAgainst 2 = .ok (.iconst 0, 1) := by decide +kernel
theorem dX3_countAgainst_3 : decode cX3_countAgainst 3 = .ok (.istore 4, 2) := by decide +kernel
theorem dX3_countAgainst_5 : decode cX3_countAgainst 5 = .ok (.iload 4, 2) := by decide +kernel
theorem dX3_countAgainst_7 : decode cX3_countAgainst 7 = .ok (.iload_n 2, 1) := by decide +kernel
theorem dX3_countAgainst_8 : decode cX3_countAgainst 8 = .ok (.if_icmp .ge 35, 3) := by decide +kernel
theorem dX3_countAgainst_11 : decode cX3_countAgainst 11 = .ok (.aload_n 0, 1) := by decide +kernel
theorem dX3_countAgainst_12 : decode cX3_countAgainst 12 = .ok (.getfield 11, 3) := by decide +kernel
theorem dX3_countAgainst_15 : decode cX3_countAgainst 15 = .ok (.iload 4, 2) := by decide +kernel
theorem dX3_countAgainst_17 : decode cX3_countAgainst 17 = .ok (.aaload, 1) := by decide +kernel
theorem dX3_countAgainst_18 : decode cX3_countAgainst 18 = .ok (.astore 5, 2) := by decide +kernel
theorem dX3_countAgainst_20 : decode cX3_countAgainst 20 = .ok (.aload 5, 2) := by decide +kernel
theorem dX3_countAgainst_22 : decode cX3_countAgainst 22 = .ok (.ifnull 15, 3) := by decide +kernel
theorem dX3_countAgainst_25 : decode cX3_countAgainst 25 = .ok (.aload_n 1, 1) := by decide +kernel
theorem dX3_countAgainst_26 : decode cX3_countAgainst 26 = .ok (.aload 5, 2) := by decide +kernel
theorem dX3_countAgainst_28 : decode cX3_countAgainst 28 = .ok (.invokevirtual 31, 3) := by decide +kernel
theorem dX3_countAgainst_31 : decode cX3_countAgainst 31 = .ok (.ifCond .eq 6, 3) := by decide +kernel
theorem dX3_countAgainst_34 : decode cX3_countAgainst 34 = .ok (.iinc 3 1, 3) := by decide +kernel
theorem dX3_countAgainst_37 : decode cX3_countAgainst 37 = .ok (.iinc 4 1, 3) := by decide +kernel
theorem dX3_countAgainst_40 : decode cX3_countAgainst 40 = .ok (.goto (-35), 3) := by decide +kernel
theorem dX3_countAgainst_43 : decode cX3_countAgainst 43 = .ok (.iload_n 3, 1) := by decide +kernel
theorem dX3_countAgainst_44 : decode cX3_countAgainst 44 = .ok (.ireturn, 1) := by decide +kernel
set_option maxRecDepth 20000 in
theorem ggX4_init_X3_init : GoodIn wsX4_init wsX3_init := goodIn_r _ [20, 21, 22, 23, 24, 25, 26, 2, 3, 42, 43] (by decide +kernel) (by decide +kernel)
set_option maxRecDepth 20000 in
theorem gX4_init_X3_init_n24 : GoodIn wsX4_init (wsX3_init) := ggX4_init_X3_init
set_option maxRecDepth 20000 in
theorem ggX4_init_X2_init : GoodIn wsX4_init wsX2_init := goodIn_r _ [28, 29, 30, 23, 24, 25, 26, 2, 3, 44] (by decide +kernel) (by decide +kernel)
set_option maxRecDepth 20000 in
theorem gX4_init_X2_init_n31 : GoodIn wsX4_init (wsX2_init) := ggX4_init_X2_init
theorem dX4_init_0 : decode cX4_init 0 = .ok (.aload_n 0, 1) := by decide +kernel
theorem dX4_init_1 : decode cX4_init 1 = .ok (.invokespecial 3, 3) := by decide +kernel
theorem dX4_init_4 : decode cX4_init 4 = .ok (.aload_n 0, 1) := by decide +kernel
theorem dX4_init_5 : decode cX4_init 5 = .ok (.bipush 12, 2) := by decide +kernel
theorem dX4_init_7 : decode cX4_init 7 = .ok (.newarray .int, 2) := by decide +kernel
theorem dX4_init_9 : decode cX4_init 9 = .ok (.putfield 9, 3) := by decide +kernel
theorem dX4_init_12 : decode cX4_init 12 = .ok (.aload_n 0, 1) := by decide +kernel
theorem dX4_init_13 : decode cX4_init 13 = .ok (.bipush 12, 2) := by decide +kernel
theorem dX4_init_15 : decode cX4_init 15 = .ok (.newarray .int, 2) := by decide +kernel
theorem dX4_init_17 : decode cX4_init 17 = .ok (.putfield 13, 3) := by decide +kernel
theorem dX4_init_20 : decode cX4_init 20 = .ok (.aload_n 0, 1) := by decide +kernel
theorem dX4_init_21 : decode cX4_init 21 = .ok (.iconst 5, 1) := by decide +kernel
theorem dX4_init_22 : decode cX4_init 22 = .ok (.newarray .int, 2) := by decide +kernel
theorem dX4_init_24 : decode cX4_init 24 = .ok (.putfield 16, 3) := by decide +kernel
theorem dX4_init_27 : decode cX4_init 27 = .ok (.aload_n 0, 1) := by decide +kernel
theorem dX4_init_28 : decode cX4_init 28 = .ok (.iconst 5, 1) := by decide +kernel
theorem dX4_init_29 : decode cX4_init 29 = .ok (.newarray .int, 2) := by decide +kernel
theorem dX4_init_31 : decode cX4_init 31 = .ok (.putfield 19, 3) := by decide +kernel
theorem dX4_init_34 : decode cX4_init 34 = .ok (.aload_n 0, 1) := by decide +kernel
theorem dX4_init_35 : decode cX4_init 35 = .ok (.new 22, 3) := by decide +kernel
theorem dX4_init_38 : decode cX4_init 38 = .ok (.dup, 1) := by decide +kernel
theorem dX4_init_39 : decode cX4_init 39 = .ok (.invokespecial 24, 3) := by decide +kernel
theorem dX4_init_42 : decode cX4_init 42 = .ok (.putfield 25, 3) := by decide +kernel
theorem dX4_init_45 : decode cX4_init 45 = .ok (.aload_n 0, 1) := by decide +kernel
theorem dX4_init_46 : decode cX4_init 46 = .ok (.new 29, 3) := by decide +kernel
theorem dX4_init_49 : decode cX4_init 49 = .ok (.dup, 1) := by decide +kernel
theorem dX4_init_50 : decode cX4_init 50 = .ok (.invokespecial 31, 3) := by decide +kernel
theorem dX4_init_53 : decode cX4_init 53 = .ok (.putfield 32, 3) := by decide +kernel
theorem dX4_init_56 : decode cX4_init 56 = .ok (.aload_n 0, 1) := by decide +kernel
theorem dX4_init_57 : decode cX4_init 57 = .ok (.bipush 12, 2) := by decide +kernel
theorem dX4_init_59 : decode cX4_init 59 = .ok (.newarray .int, 2) := by decide +kernel
theorem dX4_init_61 : decode cX4_init 61 = .ok (.putfield 36, 3) := by decide +kernel
theorem dX4_init_64 : decode cX4_init 64 = .ok (.aload_n 0, 1) := by decide +kernel
theorem dX4_init_65 : decode cX4_init 65 = .ok (.bipush 12, 2) := by decide +kernel
theorem dX4_init_67 : decode cX4_init 67 = .ok (.newarray .int, 2) := by decide +kernel
theorem dX4_init_69 : decode cX4_init 69 = .ok (.putfield 39, 3) := by decide +kernel
theorem dX4_init_72 : decode cX4_init 72 = .ok (.return_, 1) := by decide +kernel
theorem dX4_addConcept_0 : decode cX4_addConcept 0 = .ok (.aload_n 0, 1) := by decide +kernel
theorem dX4_addConcept_1 : decode cX4_addConcept 1 = .ok (.getfield 42, 3) := by decide +kernel
theorem dX4_addConcept_4 : decode cX4_addConcept 4 = .ok (.bipush 12, 2) := by decide +kernel
theorem dX4_addConcept_6 : decode cX4_addConcept 6 = .ok (.if_icmp .lt 13, 3) := by decide +kernel
theorem dX4_addConcept_9 : decode cX4_addConcept 9 = .ok (.new 46, 3) := by decide +kernel
theorem dX4_addConcept_12 : decode cX4_addConcept 12 = .ok (.dup, 1) := by decide +kernel
theorem dX4_addConcept_13 : decode cX4_addConcept 13 = .ok (.ldc 48, 2) := by decide +kernel
theorem dX4_addConcept_15 : decode cX4_addConcept 15 = .ok (.invokespecial 50, 3) := by decide +kernel
theorem dX4_addConcept_18 : decode cX4_addConcept 18 = .ok (.athrow, 1) := by decide +kernel
theorem dX4_addConcept_19 : decode cX4_addConcept 19 = .ok (.aload_n 0, 1) := by decide +kernel
theorem dX4_addConcept_20 : decode cX4_addConcept 20 = .ok (.getfield 42, 3) := by decide +kernel
theorem dX4_addConcept_23 : decode cX4_addConcept 23 = .ok (.istore_n 1, 1) := by decide +kernel
theorem dX4_addConcept_24 : decode cX4_addConcept 24 = .ok (.aload_n 0, 1) := by decide +kernel
theorem dX4_addConcept_25 : decode cX4_addConcept 25 = .ok (.getfield 9, 3) := by decide +kernel
theorem dX4_addConcept_28 : decode cX4_addConcept 28 = .ok (.iload_n 1, 1) := by decide +kernel
theorem dX4_addConcept_29 : decode cX4_addConcept 29 = .ok (.iconst (-1), 1) := by decide +kernel
theorem dX4_addConcept_30 : decode cX4_addConcept 30 = .ok (.iastore, 1) := by decide +kernel
theorem dX4_addConcept_31 : decode cX4_addConcept 31 = .ok (.aload_n 0, 1) := by decide +kernel
theorem dX4_addConcept_32 : decode cX4_addConcept 32 = .ok (.dup, 1) := by decide +kernel
theorem dX4_addConcept_33 : decode cX4_addConcept 33 = .ok (.getfield 42, 3) := by decide +kernel
theorem dX4_addConcept_36 : decode cX4_addConcept 36 = .ok (.iconst 1, 1) := by decide +kernel
theorem dX4_addConcept_37 : decode cX4_addConcept 37 = .ok (.iadd, 1) := by decide +kernel
theorem dX4_addConcept_38 : decode cX4_addConcept 38 = .ok (.putfield 42, 3) := by decide +kernel
theorem dX4_addConcept_41 : decode cX4_addConcept 41 = .ok (.iload_n 1, 1) := by decide +kernel
theorem dX4_addConcept_42 : decode cX4_addConcept 42 = .ok (.ireturn, 1) := by decide +kernel
set_option maxRecDepth 20000 in
theorem ggX4_hang_X4_checkConcept : GoodIn wsX4_hang wsX4_checkConcept := goodIn_ca (goodIn_r _ [9, 10, 11, 12, 17, 18, 19, 20, 21, 22, 23, 24, 25, 26, 27] (by decide +kernel) (by decide +kernel)) (goodIn_sub (fun _ h => List.mem_cons_of_mem _ (List.mem_append_right _ h)) (by decide +kernel))
set_option maxRecDepth 20000 in
theorem gX4_hang_X4_checkConcept : GoodIn wsX4_hang (wsV RX4 53 RX4 yX4_checkConcept wsX4_checkConcept) := goodIn_app (goodIn_of _ (by decide +kernel)) ggX4_hang_X4_checkConcept
set_option maxRecDepth 20000 in
theorem ggX4_hang_X4_isAtOrUnder : GoodIn wsX4_hang wsX4_isAtOrUnder := goodIn_r _ [16, 3, 17, 18, 19, 20, 21, 22, 23, 24, 25, 26, 27] (by decide +kernel) (by decide +kernel)
set_option maxRecDepth 20000 in
theorem gX4_hang_X4_isAtOrUnder : GoodIn wsX4_hang (wsV RX4 57 RX4 yX4_isAtOrUnder wsX4_isAtOrUnder) := goodIn_app (goodIn_of _ (by decide +kernel)) ggX4_hang_X4_isAtOrUnder
theorem dX4_hang_0 : decode cX4_hang 0 = .ok (.aload_n 0, 1) := by decide +kernel
theorem dX4_hang_1 : decode cX4_hang 1 = .ok (.iload_n 1, 1) := by decide +kernel
theorem dX4_hang_2 : decode cX4_hang 2 = .ok (.invokevirtual 53, 3) := by decide +kernel
theorem dX4_hang_5 : decode cX4_hang 5 = .ok (.aload_n 0, 1) := by decide +kernel
theorem dX4_hang_6 : decode cX4_hang 6 = .ok (.iload_n 2, 1) := by decide +kernel
theorem dX4_hang_7 : decode cX4_hang 7 = .ok (.invokevirtual 53, 3) := by decide +kernel
theorem dX4_hang_10 : decode cX4_hang 10 = .ok (.aload_n 0, 1) := by decide +kernel
theorem dX4_hang_11 : decode cX4_hang 11 = .ok (.iload_n 2, 1) := by decide +kernel
theorem dX4_hang_12 : decode cX4_hang 12 = .ok (.iload_n 1, 1) := by decide +kernel
theorem dX4_hang_13 : decode cX4_hang 13 = .ok (.invokevirtual 57, 3) := by decide +kernel
theorem dX4_hang_16 : decode cX4_hang 16 = .ok (.ifCond .eq 13, 3) := by decide +kernel
theorem dX4_hang_19 : decode cX4_hang 19 = .ok (.new 61, 3) := by decide +kernel
theorem dX4_hang_22 : decode cX4_hang 22 = .ok (.dup, 1) := by decide +kernel
theorem dX4_hang_23 : decode cX4_hang 23 = .ok (.ldc 63, 2) := by decide +kernel
theorem dX4_hang_25 : decode cX4_hang 25 = .ok (.invokespecial 65, 3) := by decide +kernel
theorem dX4_hang_28 : decode cX4_hang 28 = .ok (.athrow, 1) := by decide +kernel
theorem dX4_hang_29 : decode cX4_hang 29 = .ok (.aload_n 0, 1) := by decide +kernel
theorem dX4_hang_30 : decode cX4_hang 30 = .ok (.getfield 9, 3) := by decide +kernel
theorem dX4_hang_33 : decode cX4_hang 33 = .ok (.iload_n 1, 1) := by decide +kernel
theorem dX4_hang_34 : decode cX4_hang 34 = .ok (.iaload, 1) := by decide +kernel
theorem dX4_hang_35 : decode cX4_hang 35 = .ok (.istore 4, 2) := by decide +kernel
theorem dX4_hang_37 : decode cX4_hang 37 = .ok (.aload_n 0, 1) := by decide +kernel
theorem dX4_hang_38 : decode cX4_hang 38 = .ok (.getfield 9, 3) := by decide +kernel
theorem dX4_hang_41 : decode cX4_hang 41 = .ok (.iload_n 1, 1) := by decide +kernel
theorem dX4_hang_42 : decode cX4_hang 42 = .ok (.iload_n 2, 1) := by decide +kernel
theorem dX4_hang_43 : decode cX4_hang 43 = .ok (.iastore, 1) := by decide +kernel
theorem dX4_hang_44 : decode cX4_hang 44 = .ok (.aload_n 0, 1) := by decide +kernel
theorem dX4_hang_45 : decode cX4_hang 45 = .ok (.getfield 13, 3) := by decide +kernel
theorem dX4_hang_48 : decode cX4_hang 48 = .ok (.iload_n 1, 1) := by decide +kernel
theorem dX4_hang_49 : decode cX4_hang 49 = .ok (.iload_n 3, 1) := by decide +kernel
theorem dX4_hang_50 : decode cX4_hang 50 = .ok (.ifCond .eq 7, 3) := by decide +kernel
theorem dX4_hang_53 : decode cX4_hang 53 = .ok (.iconst 1, 1) := by decide +kernel
theorem dX4_hang_54 : decode cX4_hang 54 = .ok (.goto 4, 3) := by decide +kernel
theorem dX4_hang_57 : decode cX4_hang 57 = .ok (.iconst (-1), 1) := by decide +kernel
theorem dX4_hang_58 : decode cX4_hang 58 = .ok (.iastore, 1) := by decide +kernel
theorem dX4_hang_59 : decode cX4_hang 59 = .ok (.iload 4, 2) := by decide +kernel
theorem dX4_hang_61 : decode cX4_hang 61 = .ok (.ireturn, 1) := by decide +kernel
set_option maxRecDepth 20000 in
theorem ggX4_unhang_X4_checkConcept : GoodIn wsX4_unhang wsX4_checkConcept := goodIn_ca (goodIn_r _ [6, 7, 8, 9, 10, 11, 12, 13, 14, 15, 16, 17, 18, 19, 20] (by decide +kernel) (by decide +kernel)) (goodIn_sub (fun _ h => List.mem_cons_of_mem _ (List.mem_append_right _ h)) (by decide +kernel))
set_option maxRecDepth 20000 in
theorem gX4_unhang_X4_checkConcept : GoodIn wsX4_unhang (wsV RX4 53 RX4 yX4_checkConcept wsX4_checkConcept) := goodIn_app (goodIn_of _ (by decide +kernel)) ggX4_unhang_X4_checkConcept
theorem dX4_unhang_0 : decode cX4_unhang 0 = .ok (.aload_n 0, 1) := by decide +kernel
theorem dX4_unhang_1 : decode cX4_unhang 1 = .ok (.iload_n 1, 1) := by decide +kernel
theorem dX4_unhang_2 : decode cX4_unhang 2 = .ok (.invokevirtual 53, 3) := by decide +kernel
theorem dX4_unhang_5 : decode cX4_unhang 5 = .ok (.aload_n 0, 1) := by decide +kernel
theorem dX4_unhang_6 : decode cX4_unhang 6 = .ok (.getfield 9, 3) := by decide +kernel
theorem dX4_unhang_9 : decode cX4_unhang 9 = .ok (.iload_n 1, 1) := by decide +kernel
theorem dX4_unhang_10 : decode cX4_unhang 10 = .ok (.iaload, 1) := by decide +kernel
theorem dX4_unhang_11 : decode cX4_unhang 11 = .ok (.istore_n 2, 1) := by decide +kernel
theorem dX4_unhang_12 : decode cX4_unhang 12 = .ok (.aload_n 0, 1) := by decide +kernel
theorem dX4_unhang_13 : decode cX4_unhang 13 = .ok (.getfield 9, 3) := by decide +kernel
theorem dX4_unhang_16 : decode cX4_unhang 16 = .ok (.iload_n 1, 1) := by decide +kernel
theorem dX4_unhang_17 : decode cX4_unhang 17 = .ok (.iconst (-1), 1) := by decide +kernel
theorem dX4_unhang_18 : decode cX4_unhang 18 = .ok (.iastore, 1) := by decide +kernel
theorem dX4_unhang_19 : decode cX4_unhang 19 = .ok (.iload_n 2, 1) := by decide +kernel
theorem dX4_unhang_20 : decode cX4_unhang 20 = .ok (.ireturn, 1) := by decide +kernel
set_option maxRecDepth 20000 in
theorem ggX4_addRoll_X4_checkConcept : GoodIn wsX4_addRoll wsX4_checkConcept := goodIn_ca (goodIn_r _ [12, 13, 14, 15, 16, 17, 18, 19, 20, 21, 22, 23, 24, 25, 26] (by decide +kernel) (by decide +kernel)) (goodIn_sub (fun _ h => List.mem_cons_of_mem _ (List.mem_append_right _ h)) (by decide +kernel))
set_option maxRecDepth 20000 in
theorem gX4_addRoll_X4_checkConcept : GoodIn wsX4_addRoll (wsV RX4 53 RX4 yX4_checkConcept wsX4_checkConcept) := goodIn_app (goodIn_of _ (by decide +kernel)) ggX4_addRoll_X4_checkConcept
theorem dX4_addRoll_0 : decode cX4_addRoll 0 = .ok (.aload_n 0, 1) := by decide +kernel
theorem dX4_addRoll_1 : decode cX4_addRoll 1 = .ok (.iload_n 1, 1) := by decide +kernel
theorem dX4_addRoll_2 : decode cX4_addRoll 2 = .ok (.invokevirtual 53, 3) := by decide +kernel
theorem dX4_addRoll_5 : decode cX4_addRoll 5 = .ok (.aload_n 0, 1) := by decide +kernel
theorem dX4_addRoll_6 : decode cX4_addRoll 6 = .ok (.iload_n 2, 1) := by decide +kernel
theorem dX4_addRoll_7 : decode cX4_addRoll 7 = .ok (.invokevirtual 53, 3) := by decide +kernel
theorem dX4_addRoll_10 : decode cX4_addRoll 10 = .ok (.iload_n 1, 1) := by decide +kernel
theorem dX4_addRoll_11 : decode cX4_addRoll 11 = .ok (.iload_n 2, 1) := by decide +kernel
theorem dX4_addRoll_12 : decode cX4_addRoll 12 = .ok (.if_icmp .ne 13, 3) := by decide +kernel
theorem dX4_addRoll_15 : decode cX4_addRoll 15 = .ok (.new 61, 3) := by decide +kernel
theorem dX4_addRoll_18 : decode cX4_addRoll 18 = .ok (.dup, 1) := by decide +kernel
theorem dX4_addRoll_19 : decode cX4_addRoll 19 = .ok (.ldc 66, 2) := by decide +kernel
theorem dX4_addRoll_21 : decode cX4_addRoll 21 = .ok (.invokespecial 65, 3) := by decide +kernel
theorem dX4_addRoll_24 : decode cX4_addRoll 24 = .ok (.athrow, 1) := by decide +kernel
theorem dX4_addRoll_25 : decode cX4_addRoll 25 = .ok (.aload_n 0, 1) := by decide +kernel
theorem dX4_addRoll_26 : decode cX4_addRoll 26 = .ok (.getfield 68, 3) := by decide +kernel
theorem dX4_addRoll_29 : decode cX4_addRoll 29 = .ok (.iconst 5, 1) := by decide +kernel
theorem dX4_addRoll_30 : decode cX4_addRoll 30 = .ok (.if_icmp .lt 13, 3) := by decide +kernel
theorem dX4_addRoll_33 : decode cX4_addRoll 33 = .ok (.new 46, 3) := by decide +kernel
theorem dX4_addRoll_36 : decode cX4_addRoll 36 = .ok (.dup, 1) := by decide +kernel
theorem dX4_addRoll_37 : decode cX4_addRoll 37 = .ok (.ldc 71, 2) := by decide +kernel
theorem dX4_addRoll_39 : decode cX4_addRoll 39 = .ok (.invokespecial 50, 3) := by decide +kernel
theorem dX4_addRoll_42 : decode cX4_addRoll 42 = .ok (.athrow, 1) := by decide +kernel
theorem dX4_addRoll_43 : decode cX4_addRoll 43 = .ok (.aload_n 0, 1) := by decide +kernel
theorem dX4_addRoll_44 : decode cX4_addRoll 44 = .ok (.getfield 68, 3) := by decide +kernel
theorem dX4_addRoll_47 : decode cX4_addRoll 47 = .ok (.istore_n 3, 1) := by decide +kernel
theorem dX4_addRoll_48 : decode cX4_addRoll 48 = .ok (.aload_n 0, 1) := by decide +kernel
theorem dX4_addRoll_49 : decode cX4_addRoll 49 = .ok (.getfield 16, 3) := by decide +kernel
theorem dX4_addRoll_52 : decode cX4_addRoll 52 = .ok (.iload_n 3, 1) := by decide +kernel
theorem dX4_addRoll_53 : decode cX4_addRoll 53 = .ok (.iload_n 1, 1) := by decide +kernel
theorem dX4_addRoll_54 : decode cX4_addRoll 54 = .ok (.iastore, 1) := by decide +kernel
theorem dX4_addRoll_55 : decode cX4_addRoll 55 = .ok (.aload_n 0, 1) := by decide +kernel
theorem dX4_addRoll_56 : decode cX4_addRoll 56 = .ok (.getfield 19, 3) := by decide +kernel
theorem dX4_addRoll_59 : decode cX4_addRoll 59 = .ok (.iload_n 3, 1) := by decide +kernel
theorem dX4_addRoll_60 : decode cX4_addRoll 60 = .ok (.iload_n 2, 1) := by decide +kernel
theorem dX4_addRoll_61 : decode cX4_addRoll 61 = .ok (.iastore, 1) := by decide +kernel
theorem dX4_addRoll_62 : decode cX4_addRoll 62 = .ok (.aload_n 0, 1) := by decide +kernel
theorem dX4_addRoll_63 : decode cX4_addRoll 63 = .ok (.dup, 1) := by decide +kernel
theorem dX4_addRoll_64 : decode cX4_addRoll 64 = .ok (.getfield 68, 3) := by decide +kernel
theorem dX4_addRoll_67 : decode cX4_addRoll 67 = .ok (.iconst 1, 1) := by decide +kernel
theorem dX4_addRoll_68 : decode cX4_addRoll 68 = .ok (.iadd, 1) := by decide +kernel
theorem dX4_addRoll_69 : decode cX4_addRoll 69 = .ok (.putfield 68, 3) := by decide +kernel
theorem dX4_addRoll_72 : decode cX4_addRoll 72 = .ok (.iload_n 3, 1) := by decide +kernel
theorem dX4_addRoll_73 : decode cX4_addRoll 73 = .ok (.ireturn, 1) := by decide +kernel
theorem dX4_file_0 : decode cX4_file 0 = .ok (.aload_n 0, 1) := by decide +kernel
theorem dX4_file_1 : decode cX4_file 1 = .ok (.getfield 73, 3) := by decide +kernel
theorem dX4_file_4 : decode cX4_file 4 = .ok (.bipush 7, 2) := by decide +kernel
theorem dX4_file_6 : decode cX4_file 6 = .ok (.if_icmp .lt 13, 3) := by decide +kernel
theorem dX4_file_9 : decode cX4_file 9 = .ok (.new 46, 3) := by decide +kernel
theorem dX4_file_12 : decode cX4_file 12 = .ok (.dup, 1) := by decide +kernel
theorem dX4_file_13 : decode cX4_file 13 = .ok (.ldc 76, 2) := by decide +kernel
theorem dX4_file_15 : decode cX4_file 15 = .ok (.invokespecial 50, 3) := by decide +kernel
theorem dX4_file_18 : decode cX4_file 18 = .ok (.athrow, 1) := by decide +kernel
theorem dX4_file_19 : decode cX4_file 19 = .ok (.aload_n 0, 1) := by decide +kernel
theorem dX4_file_20 : decode cX4_file 20 = .ok (.dup, 1) := by decide +kernel
theorem dX4_file_21 : decode cX4_file 21 = .ok (.getfield 73, 3) := by decide +kernel
theorem dX4_file_24 : decode cX4_file 24 = .ok (.iconst 1, 1) := by decide +kernel
theorem dX4_file_25 : decode cX4_file 25 = .ok (.iadd, 1) := by decide +kernel
theorem dX4_file_26 : decode cX4_file 26 = .ok (.putfield 73, 3) := by decide +kernel
theorem dX4_file_29 : decode cX4_file 29 = .ok (.aload_n 0, 1) := by decide +kernel
theorem dX4_file_30 : decode cX4_file 30 = .ok (.getfield 73, 3) := by decide +kernel
theorem dX4_file_33 : decode cX4_file 33 = .ok (.ireturn, 1) := by decide +kernel
set_option maxRecDepth 20000 in
theorem ggX4_tell_X4_checkKey : GoodIn wsX4_tell wsX4_checkKey := goodIn_ca (goodIn_r _ [19, 20, 21, 22, 18, 23, 24, 25, 26, 27, 28, 29, 66, 67, 68, 69, 70, 71, 72, 73, 74, 75, 76] (by decide +kernel) (by decide +kernel)) (goodIn_sub (fun _ h => List.mem_cons_of_mem _ (List.mem_append_right _ h)) (by decide +kernel))
set_option maxRecDepth 20000 in
theorem gX4_tell_X4_checkKey : GoodIn wsX4_tell (wsV RX4 78 RX4 yX4_checkKey wsX4_checkKey) := goodIn_app (goodIn_of _ (by decide +kernel)) ggX4_tell_X4_checkKey
set_option maxRecDepth 20000 in
theorem ggX4_tell_X3_isFull : GoodIn wsX4_tell wsX3_isFull := goodIn_r _ [34, 35, 82, 83] (by decide +kernel) (by decide +kernel)
set_option maxRecDepth 20000 in
theorem gX4_tell_X3_isFull : GoodIn wsX4_tell (wsV RX4 88 RX3 yX3_isFull wsX3_isFull) := goodIn_app (goodIn_of _ (by decide +kernel)) ggX4_tell_X3_isFull
set_option maxRecDepth 20000 in
theorem ggX4_tell_X4_keyOf : GoodIn wsX4_tell wsX4_keyOf := goodIn_r _ [38] (by decide +kernel) (by decide +kernel)
set_option maxRecDepth 20000 in
theorem gX4_tell_X4_keyOf : GoodIn wsX4_tell (va_wsS RX4 96 yX4_keyOf wsX4_keyOf) := goodIn_app (goodIn_of _ (by decide +kernel)) ggX4_tell_X4_keyOf
set_option maxRecDepth 20000 in
theorem ggX4_tell_X0_init : GoodIn wsX4_tell wsX0_init := goodIn_r _ [41, 42, 43, 44, 45, 46, 47, 48, 77, 78, 79, 80, 81] (by decide +kernel) (by decide +kernel)
set_option maxRecDepth 20000 in
theorem gX4_tell_X0_init : GoodIn wsX4_tell (wsX0_init) := ggX4_tell_X0_init
set_option maxRecDepth 20000 in
theorem ggX4_tell_X3_keep : GoodIn wsX4_tell wsX3_keep := goodIn_r _ [52, 35, 53, 82, 83] (by decide +kernel) (by decide +kernel)
set_option maxRecDepth 20000 in
theorem gX4_tell_X3_keep : GoodIn wsX4_tell (wsV RX4 106 RX3 yX3_keep wsX3_keep) := goodIn_app (goodIn_of _ (by decide +kernel)) ggX4_tell_X3_keep
set_option maxRecDepth 20000 in
theorem ggX4_tell_X2_keep : GoodIn wsX4_tell wsX2_keep := goodIn_r _ [58, 59, 60, 61, 62, 63, 64, 10, 65, 46, 48, 84, 77, 78, 79, 80, 81] (by decide +kernel) (by decide +kernel)
set_option maxRecDepth 20000 in
theorem gX4_tell_X2_keep : GoodIn wsX4_tell (wsV RX4 110 RX2 yX2_keep wsX2_keep) := goodIn_app (goodIn_of _ (by decide +kernel)) ggX4_tell_X2_keep
theorem dX4_tell_0 : decode cX4_tell 0 = .ok (.aload_n 0, 1) := by decide +kernel
theorem dX4_tell_1 : decode cX4_tell 1 = .ok (.iload_n 1, 1) := by decide +kernel
theorem dX4_tell_2 : decode cX4_tell 2 = .ok (.iload_n 2, 1) := by decide +kernel
theorem dX4_tell_3 : decode cX4_tell 3 = .ok (.iload_n 3, 1) := by decide +kernel
theorem dX4_tell_4 : decode cX4_tell 4 = .ok (.invokevirtual 78, 3) := by decide +kernel
theorem dX4_tell_7 : decode cX4_tell 7 = .ok (.iload 4, 2) := by decide +kernel
theorem dX4_tell_9 : decode cX4_tell 9 = .ok (.ldc 82, 2) := by decide +kernel
theorem dX4_tell_11 : decode cX4_tell 11 = .ok (.if_icmp .lt 10, 3) := by decide +kernel
theorem dX4_tell_14 : decode cX4_tell 14 = .ok (.iload 4, 2) := by decide +kernel
theorem dX4_tell_16 : decode cX4_tell 16 = .ok (.ldc 83, 2) := by decide +kernel
theorem dX4_tell_18 : decode cX4_tell 18 = .ok (.if_icmp .le 13, 3) := by decide +kernel
theorem dX4_tell_21 : decode cX4_tell 21 = .ok (.new 61, 3) := by decide +kernel
theorem dX4_tell_24 : decode cX4_tell 24 = .ok (.dup, 1) := by decide +kernel
theorem dX4_tell_25 : decode cX4_tell 25 = .ok (.ldc 84, 2) := by decide +kernel
theorem dX4_tell_27 : decode cX4_tell 27 = .ok (.invokespecial 65, 3) := by decide +kernel
theorem dX4_tell_30 : decode cX4_tell 30 = .ok (.athrow, 1) := by decide +kernel
theorem dX4_tell_31 : decode cX4_tell 31 = .ok (.iload 5, 2) := by decide +kernel
theorem dX4_tell_33 : decode cX4_tell 33 = .ok (.ifCond .lt 9, 3) := by decide +kernel
theorem dX4_tell_36 : decode cX4_tell 36 = .ok (.iload 5, 2) := by decide +kernel
theorem dX4_tell_38 : decode cX4_tell 38 = .ok (.iconst 4, 1) := by decide +kernel
theorem dX4_tell_39 : decode cX4_tell 39 = .ok (.if_icmp .le 13, 3) := by decide +kernel
theorem dX4_tell_42 : decode cX4_tell 42 = .ok (.new 61, 3) := by decide +kernel
theorem dX4_tell_45 : decode cX4_tell 45 = .ok (.dup, 1) := by decide +kernel
theorem dX4_tell_46 : decode cX4_tell 46 = .ok (.ldc 86, 2) := by decide +kernel
theorem dX4_tell_48 : decode cX4_tell 48 = .ok (.invokespecial 65, 3) := by decide +kernel
theorem dX4_tell_51 : decode cX4_tell 51 = .ok (.athrow, 1) := by decide +kernel
theorem dX4_tell_52 : decode cX4_tell 52 = .ok (.aload_n 0, 1) := by decide +kernel
theorem dX4_tell_53 : decode cX4_tell 53 = .ok (.getfield 25, 3) := by decide +kernel
theorem dX4_tell_56 : decode cX4_tell 56 = .ok (.invokevirtual 88, 3) := by decide +kernel
theorem dX4_tell_59 : decode cX4_tell 59 = .ok (.ifCond .eq 13, 3) := by decide +kernel
theorem dX4_tell_62 : decode cX4_tell 62 = .ok (.new 46, 3) := by decide +kernel
theorem dX4_tell_65 : decode cX4_tell 65 = .ok (.dup, 1) := by decide +kernel
theorem dX4_tell_66 : decode cX4_tell 66 = .ok (.ldc 92, 2) := by decide +kernel
theorem dX4_tell_68 : decode cX4_tell 68 = .ok (.invokespecial 50, 3) := by decide +kernel
theorem dX4_tell_71 : decode cX4_tell 71 = .ok (.athrow, 1) := by decide +kernel
theorem dX4_tell_72 : decode cX4_tell 72 = .ok (.new 94, 3) := by decide +kernel
theorem dX4_tell_75 : decode cX4_tell 75 = .ok (.dup, 1) := by decide +kernel
theorem dX4_tell_76 : decode cX4_tell 76 = .ok (.iload_n 1, 1) := by decide +kernel
theorem dX4_tell_77 : decode cX4_tell 77 = .ok (.iload_n 2, 1) := by decide +kernel
theorem dX4_tell_78 : decode cX4_tell 78 = .ok (.iload_n 3, 1) := by decide +kernel
theorem dX4_tell_79 : decode cX4_tell 79 = .ok (.invokestatic 96, 3) := by decide +kernel
theorem dX4_tell_82 : decode cX4_tell 82 = .ok (.aload_n 0, 1) := by decide +kernel
theorem dX4_tell_83 : decode cX4_tell 83 = .ok (.getfield 73, 3) := by decide +kernel
theorem dX4_tell_86 : decode cX4_tell 86 = .ok (.iload 4, 2) := by decide +kernel
theorem dX4_tell_88 : decode cX4_tell 88 = .ok (.getstatic 100, 3) := by decide +kernel
theorem dX4_tell_91 : decode cX4_tell 91 = .ok (.iload 5, 2) := by decide +kernel
theorem dX4_tell_93 : decode cX4_tell 93 = .ok (.iaload, 1) := by decide +kernel
theorem dX4_tell_94 : decode cX4_tell 94 = .ok (.invokespecial 103, 3) := by decide +kernel
theorem dX4_tell_97 : decode cX4_tell 97 = .ok (.astore 6, 2) := by decide +kernel
theorem dX4_tell_99 : decode cX4_tell 99 = .ok (.aload_n 0, 1) := by decide +kernel
theorem dX4_tell_100 : decode cX4_tell 100 = .ok (.getfield 25, 3) := by decide +kernel
theorem dX4_tell_103 : decode cX4_tell 103 = .ok (.aload 6, 2) := by decide +kernel
theorem dX4_tell_105 : decode cX4_tell 105 = .ok (.invokevirtual 106, 3) := by decide +kernel
theorem dX4_tell_108 : decode cX4_tell 108 = .ok (.aload_n 0, 1) := by decide +kernel
theorem dX4_tell_109 : decode cX4_tell 109 = .ok (.getfield 32, 3) := by decide +kernel
theorem dX4_tell_112 : decode cX4_tell 112 = .ok (.aload 6, 2) := by decide +kernel
theorem dX4_tell_114 : decode cX4_tell 114 = .ok (.invokevirtual 110, 3) := by decide +kernel
theorem dX4_tell_117 : decode cX4_tell 117 = .ok (.aload_n 0, 1) := by decide +kernel
theorem dX4_tell_118 : decode cX4_tell 118 = .ok (.getfield 25, 3) := by decide +kernel
theorem dX4_tell_121 : decode cX4_tell 121 = .ok (.getfield 111, 3) := by decide +kernel
theorem dX4_tell_124 : decode cX4_tell 124 = .ok (.ireturn, 1) := by decide +kernel
set_option maxRecDepth 20000 in
theorem ggX4_disagreements_X4_checkFiling : GoodIn wsX4_disagreements wsX4_checkFiling := goodIn_ca (goodIn_r _ [9, 10, 11, 12, 34, 35, 36, 37, 38, 39, 40, 41, 42, 43, 44] (by decide +kernel) (by decide +kernel)) (goodIn_sub (fun _ h => List.mem_cons_of_mem _ (List.mem_append_right _ h)) (by decide +kernel))
set_option maxRecDepth 20000 in
theorem gX4_disagreements_X4_checkFiling : GoodIn wsX4_disagreements (wsV RX4 114 RX4 yX4_checkFiling wsX4_checkFiling) := goodIn_app (goodIn_of _ (by decide +kernel)) ggX4_disagreements_X4_checkFiling
set_option maxRecDepth 20000 in
theorem ggX4_disagreements_X3_countAgainst : GoodIn wsX4_disagreements wsX3_countAgainst := goodIn_r _ [17, 18, 19, 20, 21, 22, 23, 24, 25, 26, 27, 28, 8, 29, 30, 31, 32, 33, 45, 46, 47, 48, 49, 50, 51] (by decide +kernel) (by decide +kernel)
set_option maxRecDepth 20000 in
theorem gX4_disagreements_X3_countAgainst : GoodIn wsX4_disagreements (wsV RX4 124 RX3 yX3_countAgainst wsX3_countAgainst) := goodIn_app (goodIn_of _ (by decide +kernel)) ggX4_disagreements_X3_countAgainst
theorem dX4_disagreements_0 : decode cX4_disagreements 0 = .ok (.aload_n 0, 1) := by decide +kernel
theorem dX4_disagreements_1 : decode cX4_disagreements 1 = .ok (.iload_n 1, 1) := by decide +kernel
theorem dX4_disagreements_2 : decode cX4_disagreements 2 = .ok (.invokevirtual 114, 3) := by decide +kernel
theorem dX4_disagreements_5 : decode cX4_disagreements 5 = .ok (.iconst 0, 1) := by decide +kernel
theorem dX4_disagreements_6 : decode cX4_disagreements 6 = .ok (.istore_n 2, 1) := by decide +kernel
theorem dX4_disagreements_7 : decode cX4_disagreements 7 = .ok (.iconst 0, 1) := by decide +kernel
theorem dX4_disagreements_8 : decode cX4_disagreements 8 = .ok (.istore_n 3, 1) := by decide +kernel
theorem dX4_disagreements_9 : decode cX4_disagreements 9 = .ok (.iload_n 3, 1) := by decide +kernel
theorem dX4_disagreements_10 : decode cX4_disagreements 10 = .ok (.aload_n 0, 1) := by decide +kernel
theorem dX4_disagreements_11 : decode cX4_disagreements 11 = .ok (.getfield 25, 3) := by decide +kernel
theorem dX4_disagreements_14 : decode cX4_disagreements 14 = .ok (.getfield 111, 3) := by decide +kernel
theorem dX4_disagreements_17 : decode cX4_disagreements 17 = .ok (.if_icmp .ge 47, 3) := by decide +kernel
theorem dX4_disagreements_20 : decode cX4_disagreements 20 = .ok (.aload_n 0, 1) := by decide +kernel
theorem dX4_disagreements_21 : decode cX4_disagreements 21 = .ok (.getfield 25, 3) := by decide +kernel
theorem dX4_disagreements_24 : decode cX4_disagreements 24 = .ok (.getfield 117, 3) := by decide +kernel
theorem dX4_disagreements_27 : decode cX4_disagreements 27 = .ok (.iload_n 3, 1) := by decide +kernel
theorem dX4_disagreements_28 : decode cX4_disagreements 28 = .ok (.aaload, 1) := by decide +kernel
theorem dX4_disagreements_29 : decode cX4_disagreements 29 = .ok (.astore 4, 2) := by decide +kernel
theorem dX4_disagreements_31 : decode cX4_disagreements 31 = .ok (.aload 4, 2) := by decide +kernel
theorem dX4_disagreements_33 : decode cX4_disagreements 33 = .ok (.ifnull 25, 3) := by decide +kernel
theorem dX4_disagreements_36 : decode cX4_disagreements 36 = .ok (.aload 4, 2) := by decide +kernel
theorem dX4_disagreements_38 : decode cX4_disagreements 38 = .ok (.getfield 121, 3) := by decide +kernel
theorem dX4_disagreements_41 : decode cX4_disagreements 41 = .ok (.iload_n 1, 1) := by decide +kernel
theorem dX4_disagreements_42 : decode cX4_disagreements 42 = .ok (.if_icmp .ne 16, 3) := by decide +kernel
theorem dX4_disagreements_45 : decode cX4_disagreements 45 = .ok (.iload_n 2, 1) := by decide +kernel
theorem dX4_disagreements_46 : decode cX4_disagreements 46 = .ok (.aload_n 0, 1) := by decide +kernel
theorem dX4_disagreements_47 : decode cX4_disagreements 47 = .ok (.getfield 25, 3) := by decide +kernel
theorem dX4_disagreements_50 : decode cX4_disagreements 50 = .ok (.aload 4, 2) := by decide +kernel
theorem dX4_disagreements_52 : decode cX4_disagreements 52 = .ok (.iload_n 3, 1) := by decide +kernel
theorem dX4_disagreements_53 : decode cX4_disagreements 53 = .ok (.invokevirtual 124, 3) := by decide +kernel
theorem dX4_disagreements_56 : decode cX4_disagreements 56 = .ok (.iadd, 1) := by decide +kernel
theorem dX4_disagreements_57 : decode cX4_disagreements 57 = .ok (.istore_n 2, 1) := by decide +kernel
theorem dX4_disagreements_58 : decode cX4_disagreements 58 = .ok (.iinc 3 1, 3) := by decide +kernel
theorem dX4_disagreements_61 : decode cX4_disagreements 61 = .ok (.goto (-52), 3) := by decide +kernel
theorem dX4_disagreements_64 : decode cX4_disagreements 64 = .ok (.iload_n 2, 1) := by decide +kernel
theorem dX4_disagreements_65 : decode cX4_disagreements 65 = .ok (.ireturn, 1) := by decide +kernel
set_option maxRecDepth 20000 in
theorem ggX4_restated_X4_checkFiling : GoodIn wsX4_restated wsX4_checkFiling := goodIn_ca (goodIn_r _ [6, 7, 8, 9, 25, 26, 27, 28, 29, 30, 31, 32, 33, 34, 35] (by decide +kernel) (by decide +kernel)) (goodIn_sub (fun _ h => List.mem_cons_of_mem _ (List.mem_append_right _ h)) (by decide +kernel))
set_option maxRecDepth 20000 in
theorem gX4_restated_X4_checkFiling : GoodIn wsX4_restated (wsV RX4 114 RX4 yX4_checkFiling wsX4_checkFiling) := goodIn_app (goodIn_of _ (by decide +kernel)) ggX4_restated_X4_checkFiling
set_option maxRecDepth 20000 in
theorem ggX4_restated_X4_isRestated : GoodIn wsX4_restated wsX4_isRestated := goodIn_r _ [13, 14, 15, 16, 17, 18, 19, 20, 21, 22, 23, 24, 25, 26, 27, 28, 29, 30, 31, 32, 33, 34, 35, 36, 37, 38, 39, 40, 41] (by decide +kernel) (by decide +kernel)
set_option maxRecDepth 20000 in
theorem gX4_restated_X4_isRestated : GoodIn wsX4_restated (wsV RX4 128 RX4 yX4_isRestated wsX4_isRestated) := goodIn_app (goodIn_of _ (by decide +kernel)) ggX4_restated_X4_isRestated
theorem dX4_restated_0 : decode cX4_restated 0 = .ok (.aload_n 0, 1) := by decide +kernel
theorem dX4_restated_1 : decode cX4_restated 1 = .ok (.iload_n 1, 1) := by decide +kernel
theorem dX4_restated_2 : decode cX4_restated 2 = .ok (.invokevirtual 114, 3) := by decide +kernel
theorem dX4_restated_5 : decode cX4_restated 5 = .ok (.iconst 0, 1) := by decide +kernel
theorem dX4_restated_6 : decode cX4_restated 6 = .ok (.istore_n 2, 1) := by decide +kernel
theorem dX4_restated_7 : decode cX4_restated 7 = .ok (.iconst 0, 1) := by decide +kernel
theorem dX4_restated_8 : decode cX4_restated 8 = .ok (.istore_n 3, 1) := by decide +kernel
theorem dX4_restated_9 : decode cX4_restated 9 = .ok (.iload_n 3, 1) := by decide +kernel
theorem dX4_restated_10 : decode cX4_restated 10 = .ok (.aload_n 0, 1) := by decide +kernel
theorem dX4_restated_11 : decode cX4_restated 11 = .ok (.getfield 42, 3) := by decide +kernel
theorem dX4_restated_14 : decode cX4_restated 14 = .ok (.bipush 40, 2) := by decide +kernel
theorem dX4_restated_16 : decode cX4_restated 16 = .ok (.imul, 1) := by decide +kernel
theorem dX4_restated_17 : decode cX4_restated 17 = .ok (.if_icmp .ge 21, 3) := by decide +kernel
theorem dX4_restated_20 : decode cX4_restated 20 = .ok (.aload_n 0, 1) := by decide +kernel
theorem dX4_restated_21 : decode cX4_restated 21 = .ok (.iload_n 3, 1) := by decide +kernel
theorem dX4_restated_22 : decode cX4_restated 22 = .ok (.iload_n 1, 1) := by decide +kernel
theorem dX4_restated_23 : decode cX4_restated 23 = .ok (.invokevirtual 128, 3) := by decide +kernel
theorem dX4_restated_26 : decode cX4_restated 26 = .ok (.ifCond .eq 6, 3) := by decide +kernel
theorem dX4_restated_29 : decode cX4_restated 29 = .ok (.iinc 2 1, 3) := by decide +kernel
theorem dX4_restated_32 : decode cX4_restated 32 = .ok (.iinc 3 1, 3) := by decide +kernel
theorem dX4_restated_35 : decode cX4_restated 35 = .ok (.goto (-26), 3) := by decide +kernel
theorem dX4_restated_38 : decode cX4_restated 38 = .ok (.iload_n 2, 1) := by decide +kernel
theorem dX4_restated_39 : decode cX4_restated 39 = .ok (.ireturn, 1) := by decide +kernel
set_option maxRecDepth 20000 in
theorem ggX4_value_X4_heldFact : GoodIn wsX4_value wsX4_heldFact := goodIn_ca (goodIn_ca (goodIn_r _ [6, 7, 8, 9, 10, 11, 12, 5, 13, 14, 15, 16, 17, 18, 19, 20, 21, 22, 23, 24, 25, 26, 27, 28, 29, 30, 31, 32, 33, 34, 35, 36, 37, 38, 39, 45, 46, 47, 48, 49, 50, 51, 52, 53, 54, 55, 56, 40, 41, 42, 43, 44] (by decide +kernel) (by decide +kernel)) (goodIn_sub (fun _ h => List.mem_cons_of_mem _ (List.mem_append_left _ (List.mem_append_right _ h))) (by decide +kernel))) (goodIn_sub (fun _ h => List.mem_cons_of_mem _ (List.mem_append_right _ h)) (by decide +kernel))
set_option maxRecDepth 20000 in
theorem gX4_value_X4_heldFact : GoodIn wsX4_value (wsV RX4 131 RX4 yX4_heldFact wsX4_heldFact) := goodIn_app (goodIn_of _ (by decide +kernel)) ggX4_value_X4_heldFact
theorem dX4_value_0 : decode cX4_value 0 = .ok (.aload_n 0, 1) := by decide +kernel
theorem dX4_value_1 : decode cX4_value 1 = .ok (.iload_n 1, 1) := by decide +kernel
theorem dX4_value_2 : decode cX4_value 2 = .ok (.iload_n 2, 1) := by decide +kernel
theorem dX4_value_3 : decode cX4_value 3 = .ok (.iload_n 3, 1) := by decide +kernel
theorem dX4_value_4 : decode cX4_value 4 = .ok (.iload 4, 2) := by decide +kernel
theorem dX4_value_6 : decode cX4_value 6 = .ok (.invokevirtual 131, 3) := by decide +kernel
theorem dX4_value_9 : decode cX4_value 9 = .ok (.getfield 135, 3) := by decide +kernel
theorem dX4_value_12 : decode cX4_value 12 = .ok (.ireturn, 1) := by decide +kernel
set_option maxRecDepth 20000 in
theorem ggX4_doubt_X4_heldFact : GoodIn wsX4_doubt wsX4_heldFact := goodIn_ca (goodIn_ca (goodIn_r _ [6, 7, 8, 9, 10, 11, 12, 5, 13, 14, 15, 16, 17, 18, 19, 20, 21, 22, 23, 24, 25, 26, 27, 28, 29, 30, 31, 32, 33, 34, 35, 36, 37, 38, 39, 45, 46, 47, 48, 49, 50, 51, 52, 53, 54, 55, 56, 40, 41, 42, 43, 44] (by decide +kernel) (by decide +kernel)) (goodIn_sub (fun _ h => List.mem_cons_of_mem _ (List.mem_append_left _ (List.mem_append_right _ h))) (by decide +kernel))) (goodIn_sub (fun _ h => List.mem_cons_of_mem _ (List.mem_append_right _ h)) (by decide +kernel))
set_option maxRecDepth 20000 in
theorem gX4_doubt_X4_heldFact : GoodIn wsX4_doubt (wsV RX4 131 RX4 yX4_heldFact wsX4_heldFact) := goodIn_app (goodIn_of _ (by decide +kernel)) ggX4_doubt_X4_heldFact
theorem dX4_doubt_0 : decode cX4_doubt 0 = .ok (.aload_n 0, 1) := by decide +kernel
theorem dX4_doubt_1 : decode cX4_doubt 1 = .ok (.iload_n 1, 1) := by decide +kernel
theorem dX4_doubt_2 : decode cX4_doubt 2 = .ok (.iload_n 2, 1) := by decide +kernel
theorem dX4_doubt_3 : decode cX4_doubt 3 = .ok (.iload_n 3, 1) := by decide +kernel
theorem dX4_doubt_4 : decode cX4_doubt 4 = .ok (.iload 4, 2) := by decide +kernel
theorem dX4_doubt_6 : decode cX4_doubt 6 = .ok (.invokevirtual 131, 3) := by decide +kernel
theorem dX4_doubt_9 : decode cX4_doubt 9 = .ok (.getfield 138, 3) := by decide +kernel
theorem dX4_doubt_12 : decode cX4_doubt 12 = .ok (.ireturn, 1) := by decide +kernel
set_option maxRecDepth 20000 in
theorem ggX4_sum_X4_checkKey : GoodIn wsX4_sum wsX4_checkKey := goodIn_ca (goodIn_r _ [9, 10, 11, 12, 8, 13, 14, 15, 1, 16, 17, 18, 56, 57, 58, 59, 60, 61, 62, 63, 64, 65, 66] (by decide +kernel) (by decide +kernel)) (goodIn_sub (fun _ h => List.mem_cons_of_mem _ (List.mem_append_right _ h)) (by decide +kernel))
set_option maxRecDepth 20000 in
theorem gX4_sum_X4_checkKey : GoodIn wsX4_sum (wsV RX4 78 RX4 yX4_checkKey wsX4_checkKey) := goodIn_app (goodIn_of _ (by decide +kernel)) ggX4_sum_X4_checkKey
set_option maxRecDepth 20000 in
theorem ggX4_sum_X4_checkFiling : GoodIn wsX4_sum wsX4_checkFiling := goodIn_ca (goodIn_r _ [22, 14, 15, 23, 56, 57, 58, 59, 60, 61, 62, 63, 64, 65, 66] (by decide +kernel) (by decide +kernel)) (goodIn_sub (fun _ h => List.mem_cons_of_mem _ (List.mem_append_right _ h)) (by decide +kernel))
set_option maxRecDepth 20000 in
theorem gX4_sum_X4_checkFiling : GoodIn wsX4_sum (wsV RX4 114 RX4 yX4_checkFiling wsX4_checkFiling) := goodIn_app (goodIn_of _ (by decide +kernel)) ggX4_sum_X4_checkFiling
set_option maxRecDepth 20000 in
theorem ggX4_sum_X4_keyOf : GoodIn wsX4_sum wsX4_keyOf := goodIn_r _ [26] (by decide +kernel) (by decide +kernel)
set_option maxRecDepth 20000 in
theorem gX4_sum_X4_keyOf : GoodIn wsX4_sum (va_wsS RX4 96 yX4_keyOf wsX4_keyOf) := goodIn_app (goodIn_of _ (by decide +kernel)) ggX4_sum_X4_keyOf
set_option maxRecDepth 20000 in
theorem ggX4_sum_X4_partHolding : GoodIn wsX4_sum wsX4_partHolding := goodIn_r _ [30, 31, 32, 33, 34, 35, 36, 37, 38, 39, 40, 41, 42, 43, 44, 45, 46, 47, 48, 49, 50, 51, 52, 53, 54, 55, 56, 57, 58, 59, 60, 61, 62, 63, 64, 65, 66, 72, 67, 68, 69, 70, 71, 73, 74] (by decide +kernel) (by decide +kernel)
set_option maxRecDepth 20000 in
theorem gX4_sum_X4_partHolding : GoodIn wsX4_sum (wsV RX4 141 RX4 yX4_partHolding wsX4_partHolding) := goodIn_app (goodIn_of _ (by decide +kernel)) ggX4_sum_X4_partHolding
theorem dX4_sum_0 : decode cX4_sum 0 = .ok (.aload_n 0, 1) := by decide +kernel
theorem dX4_sum_1 : decode cX4_sum 1 = .ok (.iload_n 1, 1) := by decide +kernel
theorem dX4_sum_2 : decode cX4_sum 2 = .ok (.iload_n 2, 1) := by decide +kernel
theorem dX4_sum_3 : decode cX4_sum 3 = .ok (.iload_n 3, 1) := by decide +kernel
theorem dX4_sum_4 : decode cX4_sum 4 = .ok (.invokevirtual 78, 3) := by decide +kernel
theorem dX4_sum_7 : decode cX4_sum 7 = .ok (.aload_n 0, 1) := by decide +kernel
theorem dX4_sum_8 : decode cX4_sum 8 = .ok (.iload 4, 2) := by decide +kernel
theorem dX4_sum_10 : decode cX4_sum 10 = .ok (.invokevirtual 114, 3) := by decide +kernel
theorem dX4_sum_13 : decode cX4_sum 13 = .ok (.iconst 0, 1) := by decide +kernel
theorem dX4_sum_14 : decode cX4_sum 14 = .ok (.istore 5, 2) := by decide +kernel
theorem dX4_sum_16 : decode cX4_sum 16 = .ok (.iconst 0, 1) := by decide +kernel
theorem dX4_sum_17 : decode cX4_sum 17 = .ok (.istore 6, 2) := by decide +kernel
theorem dX4_sum_19 : decode cX4_sum 19 = .ok (.iload 6, 2) := by decide +kernel
theorem dX4_sum_21 : decode cX4_sum 21 = .ok (.aload_n 0, 1) := by decide +kernel
theorem dX4_sum_22 : decode cX4_sum 22 = .ok (.getfield 42, 3) := by decide +kernel
theorem dX4_sum_25 : decode cX4_sum 25 = .ok (.if_icmp .ge 54, 3) := by decide +kernel
theorem dX4_sum_28 : decode cX4_sum 28 = .ok (.aload_n 0, 1) := by decide +kernel
theorem dX4_sum_29 : decode cX4_sum 29 = .ok (.aload_n 0, 1) := by decide +kernel
theorem dX4_sum_30 : decode cX4_sum 30 = .ok (.getfield 32, 3) := by decide +kernel
theorem dX4_sum_33 : decode cX4_sum 33 = .ok (.iload_n 1, 1) := by decide +kernel
theorem dX4_sum_34 : decode cX4_sum 34 = .ok (.iload 6, 2) := by decide +kernel
theorem dX4_sum_36 : decode cX4_sum 36 = .ok (.iload 6, 2) := by decide +kernel
theorem dX4_sum_38 : decode cX4_sum 38 = .ok (.iload_n 2, 1) := by decide +kernel
theorem dX4_sum_39 : decode cX4_sum 39 = .ok (.iload_n 3, 1) := by decide +kernel
theorem dX4_sum_40 : decode cX4_sum 40 = .ok (.invokestatic 96, 3) := by decide +kernel
theorem dX4_sum_43 : decode cX4_sum 43 = .ok (.iload 4, 2) := by decide +kernel
theorem dX4_sum_45 : decode cX4_sum 45 = .ok (.invokevirtual 141, 3) := by decide +kernel
theorem dX4_sum_48 : decode cX4_sum 48 = .ok (.astore 7, 2) := by decide +kernel
theorem dX4_sum_50 : decode cX4_sum 50 = .ok (.aload 7, 2) := by decide +kernel
theorem dX4_sum_52 : decode cX4_sum 52 = .ok (.ifnull 21, 3) := by decide +kernel
theorem dX4_sum_55 : decode cX4_sum 55 = .ok (.iload 5, 2) := by decide +kernel
theorem dX4_sum_57 : decode cX4_sum 57 = .ok (.aload_n 0, 1) := by decide +kernel
theorem dX4_sum_58 : decode cX4_sum 58 = .ok (.getfield 13, 3) := by decide +kernel
theorem dX4_sum_61 : decode cX4_sum 61 = .ok (.iload 6, 2) := by decide +kernel
theorem dX4_sum_63 : decode cX4_sum 63 = .ok (.iaload, 1) := by decide +kernel
theorem dX4_sum_64 : decode cX4_sum 64 = .ok (.aload 7, 2) := by decide +kernel
theorem dX4_sum_66 : decode cX4_sum 66 = .ok (.getfield 135, 3) := by decide +kernel
theorem dX4_sum_69 : decode cX4_sum 69 = .ok (.imul, 1) := by decide +kernel
theorem dX4_sum_70 : decode cX4_sum 70 = .ok (.iadd, 1) := by decide +kernel
theorem dX4_sum_71 : decode cX4_sum 71 = .ok (.istore 5, 2) := by decide +kernel
theorem dX4_sum_73 : decode cX4_sum 73 = .ok (.iinc 6 1, 3) := by decide +kernel
theorem dX4_sum_76 : decode cX4_sum 76 = .ok (.goto (-57), 3) := by decide +kernel
theorem dX4_sum_79 : decode cX4_sum 79 = .ok (.iload 5, 2) := by decide +kernel
theorem dX4_sum_81 : decode cX4_sum 81 = .ok (.ireturn, 1) := by decide +kernel
set_option maxRecDepth 20000 in
theorem ggX4_derived_X4_checkKey : GoodIn wsX4_derived wsX4_checkKey := goodIn_ca (goodIn_r _ [11, 12, 13, 14, 10, 15, 16, 17, 18, 19, 20, 21, 44, 45, 46, 47, 48, 49, 50, 51, 52, 53, 54] (by decide +kernel) (by decide +kernel)) (goodIn_sub (fun _ h => List.mem_cons_of_mem _ (List.mem_append_right _ h)) (by decide +kernel))
set_option maxRecDepth 20000 in
theorem gX4_derived_X4_checkKey : GoodIn wsX4_derived (wsV RX4 78 RX4 yX4_checkKey wsX4_checkKey) := goodIn_app (goodIn_of _ (by decide +kernel)) ggX4_derived_X4_checkKey
set_option maxRecDepth 20000 in
theorem ggX4_derived_X4_checkFiling : GoodIn wsX4_derived wsX4_checkFiling := goodIn_ca (goodIn_r _ [25, 16, 17, 26, 44, 45, 46, 47, 48, 49, 50, 51, 52, 53, 54] (by decide +kernel) (by decide +kernel)) (goodIn_sub (fun _ h => List.mem_cons_of_mem _ (List.mem_append_right _ h)) (by decide +kernel))
set_option maxRecDepth 20000 in
theorem gX4_derived_X4_checkFiling : GoodIn wsX4_derived (wsV RX4 114 RX4 yX4_checkFiling wsX4_checkFiling) := goodIn_app (goodIn_of _ (by decide +kernel)) ggX4_derived_X4_checkFiling
set_option maxRecDepth 20000 in
theorem ggX4_derived_X4_keyOf : GoodIn wsX4_derived wsX4_keyOf := goodIn_r _ [29] (by decide +kernel) (by decide +kernel)
set_option maxRecDepth 20000 in
theorem gX4_derived_X4_keyOf : GoodIn wsX4_derived (va_wsS RX4 96 yX4_keyOf wsX4_keyOf) := goodIn_app (goodIn_of _ (by decide +kernel)) ggX4_derived_X4_keyOf
set_option maxRecDepth 20000 in
theorem ggX4_derived_X2_holding : GoodIn wsX4_derived wsX2_holding := goodIn_r _ [34, 35, 36, 37, 60, 55, 56, 57, 58, 59] (by decide +kernel) (by decide +kernel)
set_option maxRecDepth 20000 in
theorem gX4_derived_X2_holding : GoodIn wsX4_derived (wsV RX4 145 RX2 yX2_holding wsX2_holding) := goodIn_app (goodIn_of _ (by decide +kernel)) ggX4_derived_X2_holding
set_option maxRecDepth 20000 in
theorem ggX4_derived_X4_reachParts : GoodIn wsX4_derived wsX4_reachParts := goodIn_r _ [41, 18, 42, 3, 4, 43, 44, 45, 46, 47, 48, 49, 50, 51, 52, 53, 54] (by decide +kernel) (by decide +kernel)
set_option maxRecDepth 20000 in
theorem gX4_derived_X4_reachParts : GoodIn wsX4_derived (wsV RX4 149 RX4 yX4_reachParts wsX4_reachParts) := goodIn_app (goodIn_of _ (by decide +kernel)) ggX4_derived_X4_reachParts
theorem dX4_derived_0 : decode cX4_derived 0 = .ok (.aload_n 0, 1) := by decide +kernel
theorem dX4_derived_1 : decode cX4_derived 1 = .ok (.iload_n 1, 1) := by decide +kernel
theorem dX4_derived_2 : decode cX4_derived 2 = .ok (.iload_n 2, 1) := by decide +kernel
theorem dX4_derived_3 : decode cX4_derived 3 = .ok (.iload_n 3, 1) := by decide +kernel
theorem dX4_derived_4 : decode cX4_derived 4 = .ok (.invokevirtual 78, 3) := by decide +kernel
theorem dX4_derived_7 : decode cX4_derived 7 = .ok (.aload_n 0, 1) := by decide +kernel
theorem dX4_derived_8 : decode cX4_derived 8 = .ok (.iload 4, 2) := by decide +kernel
theorem dX4_derived_10 : decode cX4_derived 10 = .ok (.invokevirtual 114, 3) := by decide +kernel
theorem dX4_derived_13 : decode cX4_derived 13 = .ok (.aload_n 0, 1) := by decide +kernel
theorem dX4_derived_14 : decode cX4_derived 14 = .ok (.getfield 36, 3) := by decide +kernel
theorem dX4_derived_17 : decode cX4_derived 17 = .ok (.iconst 0, 1) := by decide +kernel
theorem dX4_derived_18 : decode cX4_derived 18 = .ok (.iload_n 1, 1) := by decide +kernel
theorem dX4_derived_19 : decode cX4_derived 19 = .ok (.iastore, 1) := by decide +kernel
theorem dX4_derived_20 : decode cX4_derived 20 = .ok (.aload_n 0, 1) := by decide +kernel
theorem dX4_derived_21 : decode cX4_derived 21 = .ok (.getfield 39, 3) := by decide +kernel
theorem dX4_derived_24 : decode cX4_derived 24 = .ok (.iconst 0, 1) := by decide +kernel
theorem dX4_derived_25 : decode cX4_derived 25 = .ok (.iconst 1, 1) := by decide +kernel
theorem dX4_derived_26 : decode cX4_derived 26 = .ok (.iastore, 1) := by decide +kernel
theorem dX4_derived_27 : decode cX4_derived 27 = .ok (.iconst 1, 1) := by decide +kernel
theorem dX4_derived_28 : decode cX4_derived 28 = .ok (.istore 5, 2) := by decide +kernel
theorem dX4_derived_30 : decode cX4_derived 30 = .ok (.iconst 0, 1) := by decide +kernel
theorem dX4_derived_31 : decode cX4_derived 31 = .ok (.istore 6, 2) := by decide +kernel
theorem dX4_derived_33 : decode cX4_derived 33 = .ok (.iconst 0, 1) := by decide +kernel
theorem dX4_derived_34 : decode cX4_derived 34 = .ok (.istore 7, 2) := by decide +kernel
theorem dX4_derived_36 : decode cX4_derived 36 = .ok (.iload 7, 2) := by decide +kernel
theorem dX4_derived_38 : decode cX4_derived 38 = .ok (.bipush 12, 2) := by decide +kernel
theorem dX4_derived_40 : decode cX4_derived 40 = .ok (.if_icmp .ge 96, 3) := by decide +kernel
theorem dX4_derived_43 : decode cX4_derived 43 = .ok (.iload 7, 2) := by decide +kernel
theorem dX4_derived_45 : decode cX4_derived 45 = .ok (.iload 5, 2) := by decide +kernel
theorem dX4_derived_47 : decode cX4_derived 47 = .ok (.if_icmp .ge 89, 3) := by decide +kernel
theorem dX4_derived_50 : decode cX4_derived 50 = .ok (.aload_n 0, 1) := by decide +kernel
theorem dX4_derived_51 : decode cX4_derived 51 = .ok (.getfield 32, 3) := by decide +kernel
theorem dX4_derived_54 : decode cX4_derived 54 = .ok (.aload_n 0, 1) := by decide +kernel
theorem dX4_derived_55 : decode cX4_derived 55 = .ok (.getfield 36, 3) := by decide +kernel
theorem dX4_derived_58 : decode cX4_derived 58 = .ok (.iload 7, 2) := by decide +kernel
theorem dX4_derived_60 : decode cX4_derived 60 = .ok (.iaload, 1) := by decide +kernel
theorem dX4_derived_61 : decode cX4_derived 61 = .ok (.iload_n 2, 1) := by decide +kernel
theorem dX4_derived_62 : decode cX4_derived 62 = .ok (.iload_n 3, 1) := by decide +kernel
theorem dX4_derived_63 : decode cX4_derived 63 = .ok (.invokestatic 96, 3) := by decide +kernel
theorem dX4_derived_66 : decode cX4_derived 66 = .ok (.iload 4, 2) := by decide +kernel
theorem dX4_derived_68 : decode cX4_derived 68 = .ok (.invokevirtual 145, 3) := by decide +kernel
theorem dX4_derived_71 : decode cX4_derived 71 = .ok (.astore 8, 2) := by decide +kernel
theorem dX4_derived_73 : decode cX4_derived 73 = .ok (.aload 8, 2) := by decide +kernel
theorem dX4_derived_75 : decode cX4_derived 75 = .ok (.ifnull 24, 3) := by decide +kernel
theorem dX4_derived_78 : decode cX4_derived 78 = .ok (.iload 6, 2) := by decide +kernel
theorem dX4_derived_80 : decode cX4_derived 80 = .ok (.aload_n 0, 1) := by decide +kernel
theorem dX4_derived_81 : decode cX4_derived 81 = .ok (.getfield 39, 3) := by decide +kernel
theorem dX4_derived_84 : decode cX4_derived 84 = .ok (.iload 7, 2) := by decide +kernel
theorem dX4_derived_86 : decode cX4_derived 86 = .ok (.iaload, 1) := by decide +kernel
theorem dX4_derived_87 : decode cX4_derived 87 = .ok (.aload 8, 2) := by decide +kernel
theorem dX4_derived_89 : decode cX4_derived 89 = .ok (.getfield 135, 3) := by decide +kernel
theorem dX4_derived_92 : decode cX4_derived 92 = .ok (.imul, 1) := by decide +kernel
theorem dX4_derived_93 : decode cX4_derived 93 = .ok (.iadd, 1) := by decide +kernel
theorem dX4_derived_94 : decode cX4_derived 94 = .ok (.istore 6, 2) := by decide +kernel
theorem dX4_derived_96 : decode cX4_derived 96 = .ok (.goto 34, 3) := by decide +kernel
theorem dX4_derived_99 : decode cX4_derived 99 = .ok (.aload_n 0, 1) := by decide +kernel
theorem dX4_derived_100 : decode cX4_derived 100 = .ok (.iload 7, 2) := by decide +kernel
theorem dX4_derived_102 : decode cX4_derived 102 = .ok (.iload 5, 2) := by decide +kernel
theorem dX4_derived_104 : decode cX4_derived 104 = .ok (.invokevirtual 149, 3) := by decide +kernel
theorem dX4_derived_107 : decode cX4_derived 107 = .ok (.istore 9, 2) := by decide +kernel
theorem dX4_derived_109 : decode cX4_derived 109 = .ok (.iload 9, 2) := by decide +kernel
theorem dX4_derived_111 : decode cX4_derived 111 = .ok (.iload 5, 2) := by decide +kernel
theorem dX4_derived_113 : decode cX4_derived 113 = .ok (.if_icmp .ne 13, 3) := by decide +kernel
theorem dX4_derived_116 : decode cX4_derived 116 = .ok (.new 153, 3) := by decide +kernel
theorem dX4_derived_119 : decode cX4_derived 119 = .ok (.dup, 1) := by decide +kernel
theorem dX4_derived_120 : decode cX4_derived 120 = .ok (.ldc 155, 2) := by decide +kernel
theorem dX4_derived_122 : decode cX4_derived 122 = .ok (.invokespecial 157, 3) := by decide +kernel
theorem dX4_derived_125 : decode cX4_derived 125 = .ok (.athrow, 1) := by decide +kernel
theorem dX4_derived_126 : decode cX4_derived 126 = .ok (.iload 9, 2) := by decide +kernel
theorem dX4_derived_128 : decode cX4_derived 128 = .ok (.istore 5, 2) := by decide +kernel
theorem dX4_derived_130 : decode cX4_derived 130 = .ok (.iinc 7 1, 3) := by decide +kernel
theorem dX4_derived_133 : decode cX4_derived 133 = .ok (.goto (-97), 3) := by decide +kernel
theorem dX4_derived_136 : decode cX4_derived 136 = .ok (.iload 6, 2) := by decide +kernel
theorem dX4_derived_138 : decode cX4_derived 138 = .ok (.ireturn, 1) := by decide +kernel
set_option maxRecDepth 20000 in
theorem ggX4_isSumOff_X4_checkKey : GoodIn wsX4_isSumOff wsX4_checkKey := goodIn_ca (goodIn_r _ [6, 7, 8, 9, 5, 10, 11, 12, 13, 14, 15, 16, 68, 69, 70, 71, 72, 73, 74, 75, 76, 77, 78] (by decide +kernel) (by decide +kernel)) (goodIn_sub (fun _ h => List.mem_cons_of_mem _ (List.mem_append_right _ h)) (by decide +kernel))
set_option maxRecDepth 20000 in
theorem gX4_isSumOff_X4_checkKey : GoodIn wsX4_isSumOff (wsV RX4 78 RX4 yX4_checkKey wsX4_checkKey) := goodIn_app (goodIn_of _ (by decide +kernel)) ggX4_isSumOff_X4_checkKey
set_option maxRecDepth 20000 in
theorem ggX4_isSumOff_X4_checkFiling : GoodIn wsX4_isSumOff wsX4_checkFiling := goodIn_ca (goodIn_r _ [20, 11, 12, 21, 68, 69, 70, 71, 72, 73, 74, 75, 76, 77, 78] (by decide +kernel) (by decide +kernel)) (goodIn_sub (fun _ h => List.mem_cons_of_mem _ (List.mem_append_right _ h)) (by decide +kernel))
set_option maxRecDepth 20000 in
theorem gX4_isSumOff_X4_checkFiling : GoodIn wsX4_isSumOff (wsV RX4 114 RX4 yX4_checkFiling wsX4_checkFiling) := goodIn_app (goodIn_of _ (by decide +kernel)) ggX4_isSumOff_X4_checkFiling
set_option maxRecDepth 20000 in
theorem ggX4_isSumOff_X4_sumFails : GoodIn wsX4_isSumOff wsX4_sumFails := goodIn_r _ [25, 26, 13, 27, 28, 29, 30, 5, 31, 32, 33, 34, 35, 36, 37, 38, 39, 40, 41, 42, 43, 44, 45, 46, 47, 48, 49, 50, 51, 52, 53, 54, 55, 56, 57, 58, 59, 60, 61, 62, 63, 64, 65, 66, 67, 79, 80, 81, 82, 83, 68, 69, 70, 71, 72, 73, 74, 75, 76, 77, 78, 84, 85, 86] (by decide +kernel) (by decide +kernel)
set_option maxRecDepth 20000 in
theorem gX4_isSumOff_X4_sumFails : GoodIn wsX4_isSumOff (wsV RX4 158 RX4 yX4_sumFails wsX4_sumFails) := goodIn_app (goodIn_of _ (by decide +kernel)) ggX4_isSumOff_X4_sumFails
theorem dX4_isSumOff_0 : decode cX4_isSumOff 0 = .ok (.aload_n 0, 1) := by decide +kernel
theorem dX4_isSumOff_1 : decode cX4_isSumOff 1 = .ok (.iload_n 1, 1) := by decide +kernel
theorem dX4_isSumOff_2 : decode cX4_isSumOff 2 = .ok (.iload_n 2, 1) := by decide +kernel
theorem dX4_isSumOff_3 : decode cX4_isSumOff 3 = .ok (.iload_n 3, 1) := by decide +kernel
theorem dX4_isSumOff_4 : decode cX4_isSumOff 4 = .ok (.invokevirtual 78, 3) := by decide +kernel
theorem dX4_isSumOff_7 : decode cX4_isSumOff 7 = .ok (.aload_n 0, 1) := by decide +kernel
theorem dX4_isSumOff_8 : decode cX4_isSumOff 8 = .ok (.iload 4, 2) := by decide +kernel
theorem dX4_isSumOff_10 : decode cX4_isSumOff 10 = .ok (.invokevirtual 114, 3) := by decide +kernel
theorem dX4_isSumOff_13 : decode cX4_isSumOff 13 = .ok (.aload_n 0, 1) := by decide +kernel
theorem dX4_isSumOff_14 : decode cX4_isSumOff 14 = .ok (.aload_n 0, 1) := by decide +kernel
theorem dX4_isSumOff_15 : decode cX4_isSumOff 15 = .ok (.getfield 32, 3) := by decide +kernel
theorem dX4_isSumOff_18 : decode cX4_isSumOff 18 = .ok (.iload_n 1, 1) := by decide +kernel
theorem dX4_isSumOff_19 : decode cX4_isSumOff 19 = .ok (.iload_n 2, 1) := by decide +kernel
theorem dX4_isSumOff_20 : decode cX4_isSumOff 20 = .ok (.iload_n 3, 1) := by decide +kernel
theorem dX4_isSumOff_21 : decode cX4_isSumOff 21 = .ok (.iload 4, 2) := by decide +kernel
theorem dX4_isSumOff_23 : decode cX4_isSumOff 23 = .ok (.invokevirtual 158, 3) := by decide +kernel
theorem dX4_isSumOff_26 : decode cX4_isSumOff 26 = .ok (.ireturn, 1) := by decide +kernel
set_option maxRecDepth 20000 in
theorem ggX4_areMembersOff_X4_checkKey : GoodIn wsX4_areMembersOff wsX4_checkKey := goodIn_ca (goodIn_r _ [6, 7, 8, 9, 5, 10, 11, 12, 13, 14, 15, 16, 61, 62, 63, 64, 65, 66, 67, 68, 69, 70, 71] (by decide +kernel) (by decide +kernel)) (goodIn_sub (fun _ h => List.mem_cons_of_mem _ (List.mem_append_right _ h)) (by decide +kernel))
set_option maxRecDepth 20000 in
theorem gX4_areMembersOff_X4_checkKey : GoodIn wsX4_areMembersOff (wsV RX4 78 RX4 yX4_checkKey wsX4_checkKey) := goodIn_app (goodIn_of _ (by decide +kernel)) ggX4_areMembersOff_X4_checkKey
set_option maxRecDepth 20000 in
theorem ggX4_areMembersOff_X4_checkFiling : GoodIn wsX4_areMembersOff wsX4_checkFiling := goodIn_ca (goodIn_r _ [20, 11, 12, 21, 61, 62, 63, 64, 65, 66, 67, 68, 69, 70, 71] (by decide +kernel) (by decide +kernel)) (goodIn_sub (fun _ h => List.mem_cons_of_mem _ (List.mem_append_right _ h)) (by decide +kernel))
set_option maxRecDepth 20000 in
theorem gX4_areMembersOff_X4_checkFiling : GoodIn wsX4_areMembersOff (wsV RX4 114 RX4 yX4_checkFiling wsX4_checkFiling) := goodIn_app (goodIn_of _ (by decide +kernel)) ggX4_areMembersOff_X4_checkFiling
set_option maxRecDepth 20000 in
theorem ggX4_areMembersOff_X4_membersFail : GoodIn wsX4_areMembersOff wsX4_membersFail := goodIn_r _ [24, 25, 26, 27, 28, 5, 29, 30, 31, 32, 33, 34, 35, 36, 37, 38, 39, 40, 41, 42, 43, 44, 45, 46, 47, 48, 49, 50, 51, 52, 53, 54, 55, 56, 57, 58, 59, 60, 72, 73, 74, 75, 76, 77, 78, 79] (by decide +kernel) (by decide +kernel)
set_option maxRecDepth 20000 in
theorem gX4_areMembersOff_X4_membersFail : GoodIn wsX4_areMembersOff (va_wsS RX4 162 yX4_membersFail wsX4_membersFail) := goodIn_app (goodIn_of _ (by decide +kernel)) ggX4_areMembersOff_X4_membersFail
theorem dX4_areMembersOff_0 : decode cX4_areMembersOff 0 = .ok (.aload_n 0, 1) := by decide +kernel
theorem dX4_areMembersOff_1 : decode cX4_areMembersOff 1 = .ok (.iload_n 1, 1) := by decide +kernel
theorem dX4_areMembersOff_2 : decode cX4_areMembersOff 2 = .ok (.iload_n 2, 1) := by decide +kernel
theorem dX4_areMembersOff_3 : decode cX4_areMembersOff 3 = .ok (.iconst 0, 1) := by decide +kernel
theorem dX4_areMembersOff_4 : decode cX4_areMembersOff 4 = .ok (.invokevirtual 78, 3) := by decide +kernel
theorem dX4_areMembersOff_7 : decode cX4_areMembersOff 7 = .ok (.aload_n 0, 1) := by decide +kernel
theorem dX4_areMembersOff_8 : decode cX4_areMembersOff 8 = .ok (.iload_n 3, 1) := by decide +kernel
theorem dX4_areMembersOff_9 : decode cX4_areMembersOff 9 = .ok (.invokevirtual 114, 3) := by decide +kernel
theorem dX4_areMembersOff_12 : decode cX4_areMembersOff 12 = .ok (.aload_n 0, 1) := by decide +kernel
theorem dX4_areMembersOff_13 : decode cX4_areMembersOff 13 = .ok (.getfield 32, 3) := by decide +kernel
theorem dX4_areMembersOff_16 : decode cX4_areMembersOff 16 = .ok (.iload_n 1, 1) := by decide +kernel
theorem dX4_areMembersOff_17 : decode cX4_areMembersOff 17 = .ok (.iload_n 2, 1) := by decide +kernel
theorem dX4_areMembersOff_18 : decode cX4_areMembersOff 18 = .ok (.iload_n 3, 1) := by decide +kernel
theorem dX4_areMembersOff_19 : decode cX4_areMembersOff 19 = .ok (.invokestatic 162, 3) := by decide +kernel
theorem dX4_areMembersOff_22 : decode cX4_areMembersOff 22 = .ok (.ireturn, 1) := by decide +kernel
set_option maxRecDepth 20000 in
theorem ggX4_isRollOff_X4_checkPeriodAndMember : GoodIn wsX4_isRollOff wsX4_checkPeriodAndMember := goodIn_ca (goodIn_r _ [8, 1, 2] (by decide +kernel) (by decide +kernel)) (goodIn_sub (fun _ h => List.mem_cons_of_mem _ (List.mem_append_right _ h)) (by decide +kernel))
set_option maxRecDepth 20000 in
theorem gX4_isRollOff_X4_checkPeriodAndMember : GoodIn wsX4_isRollOff (va_wsS RX4 171 yX4_checkPeriodAndMember wsX4_checkPeriodAndMember) := goodIn_app (goodIn_of _ (by decide +kernel)) ggX4_isRollOff_X4_checkPeriodAndMember
set_option maxRecDepth 20000 in
theorem ggX4_isRollOff_X4_checkFiling : GoodIn wsX4_isRollOff wsX4_checkFiling := goodIn_ca (goodIn_r _ [12, 1, 2, 13, 56, 57, 58, 59, 60, 61, 62, 63, 64, 65, 66] (by decide +kernel) (by decide +kernel)) (goodIn_sub (fun _ h => List.mem_cons_of_mem _ (List.mem_append_right _ h)) (by decide +kernel))
set_option maxRecDepth 20000 in
theorem gX4_isRollOff_X4_checkFiling : GoodIn wsX4_isRollOff (wsV RX4 114 RX4 yX4_checkFiling wsX4_checkFiling) := goodIn_app (goodIn_of _ (by decide +kernel)) ggX4_isRollOff_X4_checkFiling
set_option maxRecDepth 20000 in
theorem ggX4_isRollOff_X4_rollFails : GoodIn wsX4_isRollOff wsX4_rollFails := goodIn_r _ [17, 18, 19, 20, 21, 22, 23, 7, 24, 25, 26, 27, 28, 29, 30, 31, 32, 33, 34, 35, 36, 37, 38, 39, 40, 41, 42, 43, 44, 45, 46, 47, 48, 49, 50, 51, 52, 53, 54, 55, 56, 57, 58, 59, 60, 61, 62, 63, 64, 65, 66, 67, 68, 69, 70, 71, 72, 73, 74] (by decide +kernel) (by decide +kernel)
set_option maxRecDepth 20000 in
theorem gX4_isRollOff_X4_rollFails : GoodIn wsX4_isRollOff (wsV RX4 175 RX4 yX4_rollFails wsX4_rollFails) := goodIn_app (goodIn_of _ (by decide +kernel)) ggX4_isRollOff_X4_rollFails
theorem dX4_isRollOff_0 : decode cX4_isRollOff 0 = .ok (.iload_n 1, 1) := by decide +kernel
theorem dX4_isRollOff_1 : decode cX4_isRollOff 1 = .ok (.ifCond .lt 11, 3) := by decide +kernel
theorem dX4_isRollOff_4 : decode cX4_isRollOff 4 = .ok (.iload_n 1, 1) := by decide +kernel
theorem dX4_isRollOff_5 : decode cX4_isRollOff 5 = .ok (.aload_n 0, 1) := by decide +kernel
theorem dX4_isRollOff_6 : decode cX4_isRollOff 6 = .ok (.getfield 68, 3) := by decide +kernel
theorem dX4_isRollOff_9 : decode cX4_isRollOff 9 = .ok (.if_icmp .lt 13, 3) := by decide +kernel
theorem dX4_isRollOff_12 : decode cX4_isRollOff 12 = .ok (.new 166, 3) := by decide +kernel
theorem dX4_isRollOff_15 : decode cX4_isRollOff 15 = .ok (.dup, 1) := by decide +kernel
theorem dX4_isRollOff_16 : decode cX4_isRollOff 16 = .ok (.ldc 168, 2) := by decide +kernel
theorem dX4_isRollOff_18 : decode cX4_isRollOff 18 = .ok (.invokespecial 170, 3) := by decide +kernel
theorem dX4_isRollOff_21 : decode cX4_isRollOff 21 = .ok (.athrow, 1) := by decide +kernel
theorem dX4_isRollOff_22 : decode cX4_isRollOff 22 = .ok (.iload_n 2, 1) := by decide +kernel
theorem dX4_isRollOff_23 : decode cX4_isRollOff 23 = .ok (.iload_n 3, 1) := by decide +kernel
theorem dX4_isRollOff_24 : decode cX4_isRollOff 24 = .ok (.invokestatic 171, 3) := by decide +kernel
theorem dX4_isRollOff_27 : decode cX4_isRollOff 27 = .ok (.aload_n 0, 1) := by decide +kernel
theorem dX4_isRollOff_28 : decode cX4_isRollOff 28 = .ok (.iload 4, 2) := by decide +kernel
theorem dX4_isRollOff_30 : decode cX4_isRollOff 30 = .ok (.invokevirtual 114, 3) := by decide +kernel
theorem dX4_isRollOff_33 : decode cX4_isRollOff 33 = .ok (.aload_n 0, 1) := by decide +kernel
theorem dX4_isRollOff_34 : decode cX4_isRollOff 34 = .ok (.aload_n 0, 1) := by decide +kernel
theorem dX4_isRollOff_35 : decode cX4_isRollOff 35 = .ok (.getfield 32, 3) := by decide +kernel
theorem dX4_isRollOff_38 : decode cX4_isRollOff 38 = .ok (.iload_n 1, 1) := by decide +kernel
theorem dX4_isRollOff_39 : decode cX4_isRollOff 39 = .ok (.iload_n 2, 1) := by decide +kernel
theorem dX4_isRollOff_40 : decode cX4_isRollOff 40 = .ok (.iload_n 3, 1) := by decide +kernel
theorem dX4_isRollOff_41 : decode cX4_isRollOff 41 = .ok (.iload 4, 2) := by decide +kernel
theorem dX4_isRollOff_43 : decode cX4_isRollOff 43 = .ok (.invokevirtual 175, 3) := by decide +kernel
theorem dX4_isRollOff_46 : decode cX4_isRollOff 46 = .ok (.ireturn, 1) := by decide +kernel
set_option maxRecDepth 20000 in
theorem ggX4_faults_X4_checkFiling : GoodIn wsX4_faults wsX4_checkFiling := goodIn_ca (goodIn_r _ [7, 8, 9, 10, 73, 74, 75, 76, 77, 78, 79, 80, 81, 82, 83] (by decide +kernel) (by decide +kernel)) (goodIn_sub (fun _ h => List.mem_cons_of_mem _ (List.mem_append_right _ h)) (by decide +kernel))
set_option maxRecDepth 20000 in
theorem gX4_faults_X4_checkFiling : GoodIn wsX4_faults (wsV RX4 114 RX4 yX4_checkFiling wsX4_checkFiling) := goodIn_app (goodIn_of _ (by decide +kernel)) ggX4_faults_X4_checkFiling
set_option maxRecDepth 20000 in
theorem ggX4_faults_X2_holding : GoodIn wsX4_faults wsX2_holding := goodIn_r _ [15, 16, 17, 18, 84, 85, 86, 87, 88, 89] (by decide +kernel) (by decide +kernel)
set_option maxRecDepth 20000 in
theorem gX4_faults_X2_holding : GoodIn wsX4_faults (wsV RX4 145 RX2 yX2_holding wsX2_holding) := goodIn_app (goodIn_of _ (by decide +kernel)) ggX4_faults_X2_holding
set_option maxRecDepth 20000 in
theorem ggX4_faults_X4_faultsAt : GoodIn wsX4_faults wsX4_faultsAt := goodIn_r _ [22, 23, 24, 25, 26, 27, 6, 28, 29, 1, 30, 31, 32, 33, 34, 35, 36, 37, 12, 14, 15, 16, 17, 18, 38, 39, 40, 41, 42, 43, 44, 45, 46, 47, 48, 49, 50, 51, 52, 53, 54, 55, 56, 57, 58, 59, 60, 61, 62, 63, 64, 65, 66, 67, 68, 69, 70, 71, 72, 73, 74, 75, 76, 77, 78, 79, 80, 81, 82, 83, 85, 86, 87, 88, 89, 84, 90, 91] (by decide +kernel) (by decide +kernel)
set_option maxRecDepth 20000 in
theorem gX4_faults_X4_faultsAt : GoodIn wsX4_faults (wsV RX4 178 RX4 yX4_faultsAt wsX4_faultsAt) := goodIn_app (goodIn_of _ (by decide +kernel)) ggX4_faults_X4_faultsAt
theorem dX4_faults_0 : decode cX4_faults 0 = .ok (.aload_n 0, 1) := by decide +kernel
theorem dX4_faults_1 : decode cX4_faults 1 = .ok (.iload_n 1, 1) := by decide +kernel
theorem dX4_faults_2 : decode cX4_faults 2 = .ok (.invokevirtual 114, 3) := by decide +kernel
theorem dX4_faults_5 : decode cX4_faults 5 = .ok (.iconst 0, 1) := by decide +kernel
theorem dX4_faults_6 : decode cX4_faults 6 = .ok (.istore_n 2, 1) := by decide +kernel
theorem dX4_faults_7 : decode cX4_faults 7 = .ok (.iconst 0, 1) := by decide +kernel
theorem dX4_faults_8 : decode cX4_faults 8 = .ok (.istore_n 3, 1) := by decide +kernel
theorem dX4_faults_9 : decode cX4_faults 9 = .ok (.iload_n 3, 1) := by decide +kernel
theorem dX4_faults_10 : decode cX4_faults 10 = .ok (.aload_n 0, 1) := by decide +kernel
theorem dX4_faults_11 : decode cX4_faults 11 = .ok (.getfield 42, 3) := by decide +kernel
theorem dX4_faults_14 : decode cX4_faults 14 = .ok (.bipush 40, 2) := by decide +kernel
theorem dX4_faults_16 : decode cX4_faults 16 = .ok (.imul, 1) := by decide +kernel
theorem dX4_faults_17 : decode cX4_faults 17 = .ok (.if_icmp .ge 34, 3) := by decide +kernel
theorem dX4_faults_20 : decode cX4_faults 20 = .ok (.aload_n 0, 1) := by decide +kernel
theorem dX4_faults_21 : decode cX4_faults 21 = .ok (.getfield 32, 3) := by decide +kernel
theorem dX4_faults_24 : decode cX4_faults 24 = .ok (.iload_n 3, 1) := by decide +kernel
theorem dX4_faults_25 : decode cX4_faults 25 = .ok (.iload_n 1, 1) := by decide +kernel
theorem dX4_faults_26 : decode cX4_faults 26 = .ok (.invokevirtual 145, 3) := by decide +kernel
theorem dX4_faults_29 : decode cX4_faults 29 = .ok (.ifnull 16, 3) := by decide +kernel
theorem dX4_faults_32 : decode cX4_faults 32 = .ok (.iload_n 2, 1) := by decide +kernel
theorem dX4_faults_33 : decode cX4_faults 33 = .ok (.aload_n 0, 1) := by decide +kernel
theorem dX4_faults_34 : decode cX4_faults 34 = .ok (.aload_n 0, 1) := by decide +kernel
theorem dX4_faults_35 : decode cX4_faults 35 = .ok (.getfield 32, 3) := by decide +kernel
theorem dX4_faults_38 : decode cX4_faults 38 = .ok (.iload_n 3, 1) := by decide +kernel
theorem dX4_faults_39 : decode cX4_faults 39 = .ok (.iload_n 1, 1) := by decide +kernel
theorem dX4_faults_40 : decode cX4_faults 40 = .ok (.invokevirtual 178, 3) := by decide +kernel
theorem dX4_faults_43 : decode cX4_faults 43 = .ok (.iadd, 1) := by decide +kernel
theorem dX4_faults_44 : decode cX4_faults 44 = .ok (.istore_n 2, 1) := by decide +kernel
theorem dX4_faults_45 : decode cX4_faults 45 = .ok (.iinc 3 1, 3) := by decide +kernel
theorem dX4_faults_48 : decode cX4_faults 48 = .ok (.goto (-39), 3) := by decide +kernel
theorem dX4_faults_51 : decode cX4_faults 51 = .ok (.iload_n 2, 1) := by decide +kernel
theorem dX4_faults_52 : decode cX4_faults 52 = .ok (.ireturn, 1) := by decide +kernel
set_option maxRecDepth 20000 in
theorem ggX4_faultsByList_X4_checkFiling : GoodIn wsX4_faultsByList wsX4_checkFiling := goodIn_ca (goodIn_r _ [9, 10, 11, 12, 76, 77, 78, 79, 80, 81, 82, 83, 84, 85, 86] (by decide +kernel) (by decide +kernel)) (goodIn_sub (fun _ h => List.mem_cons_of_mem _ (List.mem_append_right _ h)) (by decide +kernel))
set_option maxRecDepth 20000 in
theorem gX4_faultsByList_X4_checkFiling : GoodIn wsX4_faultsByList (wsV RX4 114 RX4 yX4_checkFiling wsX4_checkFiling) := goodIn_app (goodIn_of _ (by decide +kernel)) ggX4_faultsByList_X4_checkFiling
set_option maxRecDepth 20000 in
theorem ggX4_faultsByList_X3_holding : GoodIn wsX4_faultsByList wsX3_holding := goodIn_r _ [17, 18, 19, 20, 21, 22, 23, 24, 25, 26, 27, 28, 87, 88, 89, 90, 91, 92, 93] (by decide +kernel) (by decide +kernel)
set_option maxRecDepth 20000 in
theorem gX4_faultsByList_X3_holding : GoodIn wsX4_faultsByList (wsV RX4 185 RX3 yX3_holding wsX3_holding) := goodIn_app (goodIn_of _ (by decide +kernel)) ggX4_faultsByList_X3_holding
set_option maxRecDepth 20000 in
theorem ggX4_faultsByList_X4_faultsAt : GoodIn wsX4_faultsByList wsX4_faultsAt := goodIn_r _ [32, 33, 34, 35, 36, 37, 8, 38, 39, 40, 41, 42, 43, 44, 45, 46, 47, 48, 49, 50, 51, 52, 53, 54, 55, 14, 16, 17, 18, 19, 20, 21, 22, 23, 24, 25, 26, 27, 28, 56, 57, 58, 59, 60, 61, 62, 63, 64, 65, 66, 67, 68, 69, 70, 71, 72, 73, 74, 75, 76, 77, 78, 79, 80, 81, 82, 83, 84, 85, 86, 89, 90, 91, 92, 93, 94, 87, 88] (by decide +kernel) (by decide +kernel)
set_option maxRecDepth 20000 in
theorem gX4_faultsByList_X4_faultsAt : GoodIn wsX4_faultsByList (wsV RX4 178 RX4 yX4_faultsAt wsX4_faultsAt) := goodIn_app (goodIn_of _ (by decide +kernel)) ggX4_faultsByList_X4_faultsAt
theorem dX4_faultsByList_0 : decode cX4_faultsByList 0 = .ok (.aload_n 0, 1) := by decide +kernel
theorem dX4_faultsByList_1 : decode cX4_faultsByList 1 = .ok (.iload_n 1, 1) := by decide +kernel
theorem dX4_faultsByList_2 : decode cX4_faultsByList 2 = .ok (.invokevirtual 114, 3) := by decide +kernel
theorem dX4_faultsByList_5 : decode cX4_faultsByList 5 = .ok (.iconst 0, 1) := by decide +kernel
theorem dX4_faultsByList_6 : decode cX4_faultsByList 6 = .ok (.istore_n 2, 1) := by decide +kernel
theorem dX4_faultsByList_7 : decode cX4_faultsByList 7 = .ok (.iconst 0, 1) := by decide +kernel
theorem dX4_faultsByList_8 : decode cX4_faultsByList 8 = .ok (.istore_n 3, 1) := by decide +kernel
theorem dX4_faultsByList_9 : decode cX4_faultsByList 9 = .ok (.iload_n 3, 1) := by decide +kernel
theorem dX4_faultsByList_10 : decode cX4_faultsByList 10 = .ok (.aload_n 0, 1) := by decide +kernel
theorem dX4_faultsByList_11 : decode cX4_faultsByList 11 = .ok (.getfield 25, 3) := by decide +kernel
theorem dX4_faultsByList_14 : decode cX4_faultsByList 14 = .ok (.getfield 111, 3) := by decide +kernel
theorem dX4_faultsByList_17 : decode cX4_faultsByList 17 = .ok (.if_icmp .ge 60, 3) := by decide +kernel
theorem dX4_faultsByList_20 : decode cX4_faultsByList 20 = .ok (.aload_n 0, 1) := by decide +kernel
theorem dX4_faultsByList_21 : decode cX4_faultsByList 21 = .ok (.getfield 25, 3) := by decide +kernel
theorem dX4_faultsByList_24 : decode cX4_faultsByList 24 = .ok (.getfield 117, 3) := by decide +kernel
theorem dX4_faultsByList_27 : decode cX4_faultsByList 27 = .ok (.iload_n 3, 1) := by decide +kernel
theorem dX4_faultsByList_28 : decode cX4_faultsByList 28 = .ok (.aaload, 1) := by decide +kernel
theorem dX4_faultsByList_29 : decode cX4_faultsByList 29 = .ok (.astore 4, 2) := by decide +kernel
theorem dX4_faultsByList_31 : decode cX4_faultsByList 31 = .ok (.aload 4, 2) := by decide +kernel
theorem dX4_faultsByList_33 : decode cX4_faultsByList 33 = .ok (.ifnull 38, 3) := by decide +kernel
theorem dX4_faultsByList_36 : decode cX4_faultsByList 36 = .ok (.aload_n 0, 1) := by decide +kernel
theorem dX4_faultsByList_37 : decode cX4_faultsByList 37 = .ok (.getfield 25, 3) := by decide +kernel
theorem dX4_faultsByList_40 : decode cX4_faultsByList 40 = .ok (.aload 4, 2) := by decide +kernel
theorem dX4_faultsByList_42 : decode cX4_faultsByList 42 = .ok (.getfield 182, 3) := by decide +kernel
theorem dX4_faultsByList_45 : decode cX4_faultsByList 45 = .ok (.iload_n 1, 1) := by decide +kernel
theorem dX4_faultsByList_46 : decode cX4_faultsByList 46 = .ok (.invokevirtual 185, 3) := by decide +kernel
theorem dX4_faultsByList_49 : decode cX4_faultsByList 49 = .ok (.aload 4, 2) := by decide +kernel
theorem dX4_faultsByList_51 : decode cX4_faultsByList 51 = .ok (.if_acmp .ne 20, 3) := by decide +kernel
theorem dX4_faultsByList_54 : decode cX4_faultsByList 54 = .ok (.iload_n 2, 1) := by decide +kernel
theorem dX4_faultsByList_55 : decode cX4_faultsByList 55 = .ok (.aload_n 0, 1) := by decide +kernel
theorem dX4_faultsByList_56 : decode cX4_faultsByList 56 = .ok (.aload_n 0, 1) := by decide +kernel
theorem dX4_faultsByList_57 : decode cX4_faultsByList 57 = .ok (.getfield 25, 3) := by decide +kernel
theorem dX4_faultsByList_60 : decode cX4_faultsByList 60 = .ok (.aload 4, 2) := by decide +kernel
theorem dX4_faultsByList_62 : decode cX4_faultsByList 62 = .ok (.getfield 182, 3) := by decide +kernel
theorem dX4_faultsByList_65 : decode cX4_faultsByList 65 = .ok (.iload_n 1, 1) := by decide +kernel
theorem dX4_faultsByList_66 : decode cX4_faultsByList 66 = .ok (.invokevirtual 178, 3) := by decide +kernel
theorem dX4_faultsByList_69 : decode cX4_faultsByList 69 = .ok (.iadd, 1) := by decide +kernel
theorem dX4_faultsByList_70 : decode cX4_faultsByList 70 = .ok (.istore_n 2, 1) := by decide +kernel
theorem dX4_faultsByList_71 : decode cX4_faultsByList 71 = .ok (.iinc 3 1, 3) := by decide +kernel
theorem dX4_faultsByList_74 : decode cX4_faultsByList 74 = .ok (.goto (-65), 3) := by decide +kernel
theorem dX4_faultsByList_77 : decode cX4_faultsByList 77 = .ok (.iload_n 2, 1) := by decide +kernel
theorem dX4_faultsByList_78 : decode cX4_faultsByList 78 = .ok (.ireturn, 1) := by decide +kernel
theorem dX4_checkConcept_0 : decode cX4_checkConcept 0 = .ok (.iload_n 1, 1) := by decide +kernel
theorem dX4_checkConcept_1 : decode cX4_checkConcept 1 = .ok (.ifCond .lt 11, 3) := by decide +kernel
theorem dX4_checkConcept_4 : decode cX4_checkConcept 4 = .ok (.iload_n 1, 1) := by decide +kernel
theorem dX4_checkConcept_5 : decode cX4_checkConcept 5 = .ok (.aload_n 0, 1) := by decide +kernel
theorem dX4_checkConcept_6 : decode cX4_checkConcept 6 = .ok (.getfield 42, 3) := by decide +kernel
theorem dX4_checkConcept_9 : decode cX4_checkConcept 9 = .ok (.if_icmp .lt 13, 3) := by decide +kernel
theorem dX4_checkConcept_12 : decode cX4_checkConcept 12 = .ok (.new 166, 3) := by decide +kernel
theorem dX4_checkConcept_15 : decode cX4_checkConcept 15 = .ok (.dup, 1) := by decide +kernel
theorem dX4_checkConcept_16 : decode cX4_checkConcept 16 = .ok (.ldc 186, 2) := by decide +kernel
theorem dX4_checkConcept_18 : decode cX4_checkConcept 18 = .ok (.invokespecial 170, 3) := by decide +kernel
theorem dX4_checkConcept_21 : decode cX4_checkConcept 21 = .ok (.athrow, 1) := by decide +kernel
theorem dX4_checkConcept_22 : decode cX4_checkConcept 22 = .ok (.return_, 1) := by decide +kernel
theorem dX4_checkPeriodAndMember_0 : decode cX4_checkPeriodAndMember 0 = .ok (.iload_n 0, 1) := by decide +kernel
theorem dX4_checkPeriodAndMember_1 : decode cX4_checkPeriodAndMember 1 = .ok (.ifCond .lt 9, 3) := by decide +kernel
theorem dX4_checkPeriodAndMember_4 : decode cX4_checkPeriodAndMember 4 = .ok (.iload_n 0, 1) := by decide +kernel
theorem dX4_checkPeriodAndMember_5 : decode cX4_checkPeriodAndMember 5 = .ok (.bipush 10, 2) := by decide +kernel
theorem dX4_checkPeriodAndMember_7 : decode cX4_checkPeriodAndMember 7 = .ok (.if_icmp .lt 13, 3) := by decide +kernel
theorem dX4_checkPeriodAndMember_10 : decode cX4_checkPeriodAndMember 10 = .ok (.new 166, 3) := by decide +kernel
theorem dX4_checkPeriodAndMember_13 : decode cX4_checkPeriodAndMember 13 = .ok (.dup, 1) := by decide +kernel
theorem dX4_checkPeriodAndMember_14 : decode cX4_checkPeriodAndMember 14 = .ok (.ldc 188, 2) := by decide +kernel
theorem dX4_checkPeriodAndMember_16 : decode cX4_checkPeriodAndMember 16 = .ok (.invokespecial 170, 3) := by decide +kernel
theorem dX4_checkPeriodAndMember_19 : decode cX4_checkPeriodAndMember 19 = .ok (.athrow, 1) := by decide +kernel
theorem dX4_checkPeriodAndMember_20 : decode cX4_checkPeriodAndMember 20 = .ok (.iload_n 1, 1) := by decide +kernel
theorem dX4_checkPeriodAndMember_21 : decode cX4_checkPeriodAndMember 21 = .ok (.ifCond .lt 8, 3) := by decide +kernel
theorem dX4_checkPeriodAndMember_24 : decode cX4_checkPeriodAndMember 24 = .ok (.iload_n 1, 1) := by decide +kernel
theorem dX4_checkPeriodAndMember_25 : decode cX4_checkPeriodAndMember 25 = .ok (.iconst 4, 1) := by decide +kernel
theorem dX4_checkPeriodAndMember_26 : decode cX4_checkPeriodAndMember 26 = .ok (.if_icmp .lt 13, 3) := by decide +kernel
theorem dX4_checkPeriodAndMember_29 : decode cX4_checkPeriodAndMember 29 = .ok (.new 166, 3) := by decide +kernel
theorem dX4_checkPeriodAndMember_32 : decode cX4_checkPeriodAndMember 32 = .ok (.dup, 1) := by decide +kernel
theorem dX4_checkPeriodAndMember_33 : decode cX4_checkPeriodAndMember 33 = .ok (.ldc 190, 2) := by decide +kernel
theorem dX4_checkPeriodAndMember_35 : decode cX4_checkPeriodAndMember 35 = .ok (.invokespecial 170, 3) := by decide +kernel
theorem dX4_checkPeriodAndMember_38 : decode cX4_checkPeriodAndMember 38 = .ok (.athrow, 1) := by decide +kernel
theorem dX4_checkPeriodAndMember_39 : decode cX4_checkPeriodAndMember 39 = .ok (.return_, 1) := by decide +kernel
set_option maxRecDepth 20000 in
theorem ggX4_checkKey_X4_checkConcept : GoodIn wsX4_checkKey wsX4_checkConcept := goodIn_ca (goodIn_r _ [5, 6, 7, 8, 12, 13, 14, 15, 16, 17, 18, 19, 20, 21, 22] (by decide +kernel) (by decide +kernel)) (goodIn_sub (fun _ h => List.mem_cons_of_mem _ (List.mem_append_right _ h)) (by decide +kernel))
set_option maxRecDepth 20000 in
theorem gX4_checkKey_X4_checkConcept : GoodIn wsX4_checkKey (wsV RX4 53 RX4 yX4_checkConcept wsX4_checkConcept) := goodIn_app (goodIn_of _ (by decide +kernel)) ggX4_checkKey_X4_checkConcept
set_option maxRecDepth 20000 in
theorem ggX4_checkKey_X4_checkPeriodAndMember : GoodIn wsX4_checkKey wsX4_checkPeriodAndMember := goodIn_ca (goodIn_r _ [11, 6, 7] (by decide +kernel) (by decide +kernel)) (goodIn_sub (fun _ h => List.mem_cons_of_mem _ (List.mem_append_right _ h)) (by decide +kernel))
set_option maxRecDepth 20000 in
theorem gX4_checkKey_X4_checkPeriodAndMember : GoodIn wsX4_checkKey (va_wsS RX4 171 yX4_checkPeriodAndMember wsX4_checkPeriodAndMember) := goodIn_app (goodIn_of _ (by decide +kernel)) ggX4_checkKey_X4_checkPeriodAndMember
theorem dX4_checkKey_0 : decode cX4_checkKey 0 = .ok (.aload_n 0, 1) := by decide +kernel
theorem dX4_checkKey_1 : decode cX4_checkKey 1 = .ok (.iload_n 1, 1) := by decide +kernel
theorem dX4_checkKey_2 : decode cX4_checkKey 2 = .ok (.invokevirtual 53, 3) := by decide +kernel
theorem dX4_checkKey_5 : decode cX4_checkKey 5 = .ok (.iload_n 2, 1) := by decide +kernel
theorem dX4_checkKey_6 : decode cX4_checkKey 6 = .ok (.iload_n 3, 1) := by decide +kernel
theorem dX4_checkKey_7 : decode cX4_checkKey 7 = .ok (.invokestatic 171, 3) := by decide +kernel
theorem dX4_checkKey_10 : decode cX4_checkKey 10 = .ok (.return_, 1) := by decide +kernel
theorem dX4_checkFiling_0 : decode cX4_checkFiling 0 = .ok (.iload_n 1, 1) := by decide +kernel
theorem dX4_checkFiling_1 : decode cX4_checkFiling 1 = .ok (.ifCond .lt 11, 3) := by decide +kernel
theorem dX4_checkFiling_4 : decode cX4_checkFiling 4 = .ok (.iload_n 1, 1) := by decide +kernel
theorem dX4_checkFiling_5 : decode cX4_checkFiling 5 = .ok (.aload_n 0, 1) := by decide +kernel
theorem dX4_checkFiling_6 : decode cX4_checkFiling 6 = .ok (.getfield 73, 3) := by decide +kernel
theorem dX4_checkFiling_9 : decode cX4_checkFiling 9 = .ok (.if_icmp .le 13, 3) := by decide +kernel
theorem dX4_checkFiling_12 : decode cX4_checkFiling 12 = .ok (.new 166, 3) := by decide +kernel
theorem dX4_checkFiling_15 : decode cX4_checkFiling 15 = .ok (.dup, 1) := by decide +kernel
theorem dX4_checkFiling_16 : decode cX4_checkFiling 16 = .ok (.ldc 192, 2) := by decide +kernel
theorem dX4_checkFiling_18 : decode cX4_checkFiling 18 = .ok (.invokespecial 170, 3) := by decide +kernel
theorem dX4_checkFiling_21 : decode cX4_checkFiling 21 = .ok (.athrow, 1) := by decide +kernel
theorem dX4_checkFiling_22 : decode cX4_checkFiling 22 = .ok (.return_, 1) := by decide +kernel
set_option maxRecDepth 20000 in
theorem ggX4_heldFact_X4_checkKey : GoodIn wsX4_heldFact wsX4_checkKey := goodIn_ca (goodIn_r _ [8, 9, 10, 11, 7, 12, 13, 14, 15, 16, 17, 18, 35, 36, 37, 38, 39, 40, 41, 42, 43, 44, 45] (by decide +kernel) (by decide +kernel)) (goodIn_sub (fun _ h => List.mem_cons_of_mem _ (List.mem_append_right _ h)) (by decide +kernel))
set_option maxRecDepth 20000 in
theorem gX4_heldFact_X4_checkKey : GoodIn wsX4_heldFact (wsV RX4 78 RX4 yX4_checkKey wsX4_checkKey) := goodIn_app (goodIn_of _ (by decide +kernel)) ggX4_heldFact_X4_checkKey
set_option maxRecDepth 20000 in
theorem ggX4_heldFact_X4_checkFiling : GoodIn wsX4_heldFact wsX4_checkFiling := goodIn_ca (goodIn_r _ [22, 13, 14, 23, 35, 36, 37, 38, 39, 40, 41, 42, 43, 44, 45] (by decide +kernel) (by decide +kernel)) (goodIn_sub (fun _ h => List.mem_cons_of_mem _ (List.mem_append_right _ h)) (by decide +kernel))
set_option maxRecDepth 20000 in
theorem gX4_heldFact_X4_checkFiling : GoodIn wsX4_heldFact (wsV RX4 114 RX4 yX4_checkFiling wsX4_checkFiling) := goodIn_app (goodIn_of _ (by decide +kernel)) ggX4_heldFact_X4_checkFiling
set_option maxRecDepth 20000 in
theorem ggX4_heldFact_X4_keyOf : GoodIn wsX4_heldFact wsX4_keyOf := goodIn_r _ [26] (by decide +kernel) (by decide +kernel)
set_option maxRecDepth 20000 in
theorem gX4_heldFact_X4_keyOf : GoodIn wsX4_heldFact (va_wsS RX4 96 yX4_keyOf wsX4_keyOf) := goodIn_app (goodIn_of _ (by decide +kernel)) ggX4_heldFact_X4_keyOf
set_option maxRecDepth 20000 in
theorem ggX4_heldFact_X2_holding : GoodIn wsX4_heldFact wsX2_holding := goodIn_r _ [31, 32, 33, 34, 46, 47, 48, 49, 50, 51] (by decide +kernel) (by decide +kernel)
set_option maxRecDepth 20000 in
theorem gX4_heldFact_X2_holding : GoodIn wsX4_heldFact (wsV RX4 145 RX2 yX2_holding wsX2_holding) := goodIn_app (goodIn_of _ (by decide +kernel)) ggX4_heldFact_X2_holding
theorem dX4_heldFact_0 : decode cX4_heldFact 0 = .ok (.aload_n 0, 1) := by decide +kernel
theorem dX4_heldFact_1 : decode cX4_heldFact 1 = .ok (.iload_n 1, 1) := by decide +kernel
theorem dX4_heldFact_2 : decode cX4_heldFact 2 = .ok (.iload_n 2, 1) := by decide +kernel
theorem dX4_heldFact_3 : decode cX4_heldFact 3 = .ok (.iload_n 3, 1) := by decide +kernel
theorem dX4_heldFact_4 : decode cX4_heldFact 4 = .ok (.invokevirtual 78, 3) := by decide +kernel
theorem dX4_heldFact_7 : decode cX4_heldFact 7 = .ok (.aload_n 0, 1) := by decide +kernel
theorem dX4_heldFact_8 : decode cX4_heldFact 8 = .ok (.iload 4, 2) := by decide +kernel
theorem dX4_heldFact_10 : decode cX4_heldFact 10 = .ok (.invokevirtual 114, 3) := by decide +kernel
theorem dX4_heldFact_13 : decode cX4_heldFact 13 = .ok (.aload_n 0, 1) := by decide +kernel
theorem dX4_heldFact_14 : decode cX4_heldFact 14 = .ok (.getfield 32, 3) := by decide +kernel
theorem dX4_heldFact_17 : decode cX4_heldFact 17 = .ok (.iload_n 1, 1) := by decide +kernel
theorem dX4_heldFact_18 : decode cX4_heldFact 18 = .ok (.iload_n 2, 1) := by decide +kernel
theorem dX4_heldFact_19 : decode cX4_heldFact 19 = .ok (.iload_n 3, 1) := by decide +kernel
theorem dX4_heldFact_20 : decode cX4_heldFact 20 = .ok (.invokestatic 96, 3) := by decide +kernel
theorem dX4_heldFact_23 : decode cX4_heldFact 23 = .ok (.iload 4, 2) := by decide +kernel
theorem dX4_heldFact_25 : decode cX4_heldFact 25 = .ok (.invokevirtual 145, 3) := by decide +kernel
theorem dX4_heldFact_28 : decode cX4_heldFact 28 = .ok (.astore 5, 2) := by decide +kernel
theorem dX4_heldFact_30 : decode cX4_heldFact 30 = .ok (.aload 5, 2) := by decide +kernel
theorem dX4_heldFact_32 : decode cX4_heldFact 32 = .ok (.ifnonnull 13, 3) := by decide +kernel
theorem dX4_heldFact_35 : decode cX4_heldFact 35 = .ok (.new 153, 3) := by decide +kernel
theorem dX4_heldFact_38 : decode cX4_heldFact 38 = .ok (.dup, 1) := by decide +kernel
theorem dX4_heldFact_39 : decode cX4_heldFact 39 = .ok (.ldc 194, 2) := by decide +kernel
theorem dX4_heldFact_41 : decode cX4_heldFact 41 = .ok (.invokespecial 157, 3) := by decide +kernel
theorem dX4_heldFact_44 : decode cX4_heldFact 44 = .ok (.athrow, 1) := by decide +kernel
theorem dX4_heldFact_45 : decode cX4_heldFact 45 = .ok (.aload 5, 2) := by decide +kernel
theorem dX4_heldFact_47 : decode cX4_heldFact 47 = .ok (.areturn, 1) := by decide +kernel
theorem dX4_keyOf_0 : decode cX4_keyOf 0 = .ok (.iload_n 0, 1) := by decide +kernel
theorem dX4_keyOf_1 : decode cX4_keyOf 1 = .ok (.bipush 10, 2) := by decide +kernel
theorem dX4_keyOf_3 : decode cX4_keyOf 3 = .ok (.imul, 1) := by decide +kernel
theorem dX4_keyOf_4 : decode cX4_keyOf 4 = .ok (.iload_n 1, 1) := by decide +kernel
theorem dX4_keyOf_5 : decode cX4_keyOf 5 = .ok (.iadd, 1) := by decide +kernel
theorem dX4_keyOf_6 : decode cX4_keyOf 6 = .ok (.iconst 4, 1) := by decide +kernel
theorem dX4_keyOf_7 : decode cX4_keyOf 7 = .ok (.imul, 1) := by decide +kernel
theorem dX4_keyOf_8 : decode cX4_keyOf 8 = .ok (.iload_n 2, 1) := by decide +kernel
theorem dX4_keyOf_9 : decode cX4_keyOf 9 = .ok (.iadd, 1) := by decide +kernel
theorem dX4_keyOf_10 : decode cX4_keyOf 10 = .ok (.ireturn, 1) := by decide +kernel
set_option maxRecDepth 20000 in
theorem ggX4_isRestated_X2_holding : GoodIn wsX4_isRestated wsX2_holding := goodIn_r _ [8, 9, 10, 11, 28, 23, 24, 25, 26, 27] (by decide +kernel) (by decide +kernel)
set_option maxRecDepth 20000 in
theorem gX4_isRestated_X2_holding : GoodIn wsX4_isRestated (wsV RX4 145 RX2 yX2_holding wsX2_holding) := goodIn_app (goodIn_of _ (by decide +kernel)) ggX4_isRestated_X2_holding
theorem dX4_isRestated_0 : decode cX4_isRestated 0 = .ok (.aload_n 0, 1) := by decide +kernel
theorem dX4_isRestated_1 : decode cX4_isRestated 1 = .ok (.getfield 32, 3) := by decide +kernel
theorem dX4_isRestated_4 : decode cX4_isRestated 4 = .ok (.iload_n 1, 1) := by decide +kernel
theorem dX4_isRestated_5 : decode cX4_isRestated 5 = .ok (.iload_n 2, 1) := by decide +kernel
theorem dX4_isRestated_6 : decode cX4_isRestated 6 = .ok (.invokevirtual 145, 3) := by decide +kernel
theorem dX4_isRestated_9 : decode cX4_isRestated 9 = .ok (.astore_n 3, 1) := by decide +kernel
theorem dX4_isRestated_10 : decode cX4_isRestated 10 = .ok (.aload_n 3, 1) := by decide +kernel
theorem dX4_isRestated_11 : decode cX4_isRestated 11 = .ok (.ifnull 11, 3) := by decide +kernel
theorem dX4_isRestated_14 : decode cX4_isRestated 14 = .ok (.aload_n 3, 1) := by decide +kernel
theorem dX4_isRestated_15 : decode cX4_isRestated 15 = .ok (.getfield 121, 3) := by decide +kernel
theorem dX4_isRestated_18 : decode cX4_isRestated 18 = .ok (.iload_n 2, 1) := by decide +kernel
theorem dX4_isRestated_19 : decode cX4_isRestated 19 = .ok (.if_icmp .eq 5, 3) := by decide +kernel
theorem dX4_isRestated_22 : decode cX4_isRestated 22 = .ok (.iconst 0, 1) := by decide +kernel
theorem dX4_isRestated_23 : decode cX4_isRestated 23 = .ok (.ireturn, 1) := by decide +kernel
theorem dX4_isRestated_24 : decode cX4_isRestated 24 = .ok (.aload_n 0, 1) := by decide +kernel
theorem dX4_isRestated_25 : decode cX4_isRestated 25 = .ok (.getfield 32, 3) := by decide +kernel
theorem dX4_isRestated_28 : decode cX4_isRestated 28 = .ok (.iload_n 1, 1) := by decide +kernel
theorem dX4_isRestated_29 : decode cX4_isRestated 29 = .ok (.iload_n 2, 1) := by decide +kernel
theorem dX4_isRestated_30 : decode cX4_isRestated 30 = .ok (.iconst 1, 1) := by decide +kernel
theorem dX4_isRestated_31 : decode cX4_isRestated 31 = .ok (.isub, 1) := by decide +kernel
theorem dX4_isRestated_32 : decode cX4_isRestated 32 = .ok (.invokevirtual 145, 3) := by decide +kernel
theorem dX4_isRestated_35 : decode cX4_isRestated 35 = .ok (.astore 4, 2) := by decide +kernel
theorem dX4_isRestated_37 : decode cX4_isRestated 37 = .ok (.aload 4, 2) := by decide +kernel
theorem dX4_isRestated_39 : decode cX4_isRestated 39 = .ok (.ifnull 19, 3) := by decide +kernel
theorem dX4_isRestated_42 : decode cX4_isRestated 42 = .ok (.aload 4, 2) := by decide +kernel
theorem dX4_isRestated_44 : decode cX4_isRestated 44 = .ok (.getfield 135, 3) := by decide +kernel
theorem dX4_isRestated_47 : decode cX4_isRestated 47 = .ok (.aload_n 3, 1) := by decide +kernel
theorem dX4_isRestated_48 : decode cX4_isRestated 48 = .ok (.getfield 135, 3) := by decide +kernel
theorem dX4_isRestated_51 : decode cX4_isRestated 51 = .ok (.if_icmp .eq 7, 3) := by decide +kernel
theorem dX4_isRestated_54 : decode cX4_isRestated 54 = .ok (.iconst 1, 1) := by decide +kernel
theorem dX4_isRestated_55 : decode cX4_isRestated 55 = .ok (.goto 4, 3) := by decide +kernel
theorem dX4_isRestated_58 : decode cX4_isRestated 58 = .ok (.iconst 0, 1) := by decide +kernel
theorem dX4_isRestated_59 : decode cX4_isRestated 59 = .ok (.ireturn, 1) := by decide +kernel
theorem dX4_isAtOrUnder_0 : decode cX4_isAtOrUnder 0 = .ok (.iload_n 1, 1) := by decide +kernel
theorem dX4_isAtOrUnder_1 : decode cX4_isAtOrUnder 1 = .ok (.istore_n 3, 1) := by decide +kernel
theorem dX4_isAtOrUnder_2 : decode cX4_isAtOrUnder 2 = .ok (.iconst 0, 1) := by decide +kernel
theorem dX4_isAtOrUnder_3 : decode cX4_isAtOrUnder 3 = .ok (.istore 4, 2) := by decide +kernel
theorem dX4_isAtOrUnder_5 : decode cX4_isAtOrUnder 5 = .ok (.iload 4, 2) := by decide +kernel
theorem dX4_isAtOrUnder_7 : decode cX4_isAtOrUnder 7 = .ok (.bipush 12, 2) := by decide +kernel
theorem dX4_isAtOrUnder_9 : decode cX4_isAtOrUnder 9 = .ok (.if_icmp .ge 28, 3) := by decide +kernel
theorem dX4_isAtOrUnder_12 : decode cX4_isAtOrUnder 12 = .ok (.iload_n 3, 1) := by decide +kernel
theorem dX4_isAtOrUnder_13 : decode cX4_isAtOrUnder 13 = .ok (.iconst (-1), 1) := by decide +kernel
theorem dX4_isAtOrUnder_14 : decode cX4_isAtOrUnder 14 = .ok (.if_icmp .eq 23, 3) := by decide +kernel
theorem dX4_isAtOrUnder_17 : decode cX4_isAtOrUnder 17 = .ok (.iload_n 3, 1) := by decide +kernel
theorem dX4_isAtOrUnder_18 : decode cX4_isAtOrUnder 18 = .ok (.iload_n 2, 1) := by decide +kernel
theorem dX4_isAtOrUnder_19 : decode cX4_isAtOrUnder 19 = .ok (.if_icmp .ne 5, 3) := by decide +kernel
theorem dX4_isAtOrUnder_22 : decode cX4_isAtOrUnder 22 = .ok (.iconst 1, 1) := by decide +kernel
theorem dX4_isAtOrUnder_23 : decode cX4_isAtOrUnder 23 = .ok (.ireturn, 1) := by decide +kernel
theorem dX4_isAtOrUnder_24 : decode cX4_isAtOrUnder 24 = .ok (.aload_n 0, 1) := by decide +kernel
theorem dX4_isAtOrUnder_25 : decode cX4_isAtOrUnder 25 = .ok (.getfield 9, 3) := by decide +kernel
theorem dX4_isAtOrUnder_28 : decode cX4_isAtOrUnder 28 = .ok (.iload_n 3, 1) := by decide +kernel
theorem dX4_isAtOrUnder_29 : decode cX4_isAtOrUnder 29 = .ok (.iaload, 1) := by decide +kernel
theorem dX4_isAtOrUnder_30 : decode cX4_isAtOrUnder 30 = .ok (.istore_n 3, 1) := by decide +kernel
theorem dX4_isAtOrUnder_31 : decode cX4_isAtOrUnder 31 = .ok (.iinc 4 1, 3) := by decide +kernel
theorem dX4_isAtOrUnder_34 : decode cX4_isAtOrUnder 34 = .ok (.goto (-29), 3) := by decide +kernel
theorem dX4_isAtOrUnder_37 : decode cX4_isAtOrUnder 37 = .ok (.iconst 0, 1) := by decide +kernel
theorem dX4_isAtOrUnder_38 : decode cX4_isAtOrUnder 38 = .ok (.ireturn, 1) := by decide +kernel
theorem dX4_reachParts_0 : decode cX4_reachParts 0 = .ok (.iload_n 2, 1) := by decide +kernel
theorem dX4_reachParts_1 : decode cX4_reachParts 1 = .ok (.istore_n 3, 1) := by decide +kernel
theorem dX4_reachParts_2 : decode cX4_reachParts 2 = .ok (.iconst 0, 1) := by decide +kernel
theorem dX4_reachParts_3 : decode cX4_reachParts 3 = .ok (.istore 4, 2) := by decide +kernel
theorem dX4_reachParts_5 : decode cX4_reachParts 5 = .ok (.iload 4, 2) := by decide +kernel
theorem dX4_reachParts_7 : decode cX4_reachParts 7 = .ok (.aload_n 0, 1) := by decide +kernel
theorem dX4_reachParts_8 : decode cX4_reachParts 8 = .ok (.getfield 42, 3) := by decide +kernel
theorem dX4_reachParts_11 : decode cX4_reachParts 11 = .ok (.if_icmp .ge 62, 3) := by decide +kernel
theorem dX4_reachParts_14 : decode cX4_reachParts 14 = .ok (.aload_n 0, 1) := by decide +kernel
theorem dX4_reachParts_15 : decode cX4_reachParts 15 = .ok (.getfield 9, 3) := by decide +kernel
theorem dX4_reachParts_18 : decode cX4_reachParts 18 = .ok (.iload 4, 2) := by decide +kernel
theorem dX4_reachParts_20 : decode cX4_reachParts 20 = .ok (.iaload, 1) := by decide +kernel
theorem dX4_reachParts_21 : decode cX4_reachParts 21 = .ok (.aload_n 0, 1) := by decide +kernel
theorem dX4_reachParts_22 : decode cX4_reachParts 22 = .ok (.getfield 36, 3) := by decide +kernel
theorem dX4_reachParts_25 : decode cX4_reachParts 25 = .ok (.iload_n 1, 1) := by decide +kernel
theorem dX4_reachParts_26 : decode cX4_reachParts 26 = .ok (.iaload, 1) := by decide +kernel
theorem dX4_reachParts_27 : decode cX4_reachParts 27 = .ok (.if_icmp .ne 40, 3) := by decide +kernel
theorem dX4_reachParts_30 : decode cX4_reachParts 30 = .ok (.iload_n 3, 1) := by decide +kernel
theorem dX4_reachParts_31 : decode cX4_reachParts 31 = .ok (.bipush 12, 2) := by decide +kernel
theorem dX4_reachParts_33 : decode cX4_reachParts 33 = .ok (.if_icmp .ge 34, 3) := by decide +kernel
theorem dX4_reachParts_36 : decode cX4_reachParts 36 = .ok (.aload_n 0, 1) := by decide +kernel
theorem dX4_reachParts_37 : decode cX4_reachParts 37 = .ok (.getfield 36, 3) := by decide +kernel
theorem dX4_reachParts_40 : decode cX4_reachParts 40 = .ok (.iload_n 3, 1) := by decide +kernel
theorem dX4_reachParts_41 : decode cX4_reachParts 41 = .ok (.iload 4, 2) := by decide +kernel
theorem dX4_reachParts_43 : decode cX4_reachParts 43 = .ok (.iastore, 1) := by decide +kernel
theorem dX4_reachParts_44 : decode cX4_reachParts 44 = .ok (.aload_n 0, 1) := by decide +kernel
theorem dX4_reachParts_45 : decode cX4_reachParts 45 = .ok (.getfield 39, 3) := by decide +kernel
theorem dX4_reachParts_48 : decode cX4_reachParts 48 = .ok (.iload_n 3, 1) := by decide +kernel
theorem dX4_reachParts_49 : decode cX4_reachParts 49 = .ok (.aload_n 0, 1) := by decide +kernel
theorem dX4_reachParts_50 : decode cX4_reachParts 50 = .ok (.getfield 39, 3) := by decide +kernel
theorem dX4_reachParts_53 : decode cX4_reachParts 53 = .ok (.iload_n 1, 1) := by decide +kernel
theorem dX4_reachParts_54 : decode cX4_reachParts 54 = .ok (.iaload, 1) := by decide +kernel
theorem dX4_reachParts_55 : decode cX4_reachParts 55 = .ok (.aload_n 0, 1) := by decide +kernel
theorem dX4_reachParts_56 : decode cX4_reachParts 56 = .ok (.getfield 13, 3) := by decide +kernel
theorem dX4_reachParts_59 : decode cX4_reachParts 59 = .ok (.iload 4, 2) := by decide +kernel
theorem dX4_reachParts_61 : decode cX4_reachParts 61 = .ok (.iaload, 1) := by decide +kernel
theorem dX4_reachParts_62 : decode cX4_reachParts 62 = .ok (.imul, 1) := by decide +kernel
theorem dX4_reachParts_63 : decode cX4_reachParts 63 = .ok (.iastore, 1) := by decide +kernel
theorem dX4_reachParts_64 : decode cX4_reachParts 64 = .ok (.iinc 3 1, 3) := by decide +kernel
theorem dX4_reachParts_67 : decode cX4_reachParts 67 = .ok (.iinc 4 1, 3) := by decide +kernel
theorem dX4_reachParts_70 : decode cX4_reachParts 70 = .ok (.goto (-65), 3) := by decide +kernel
theorem dX4_reachParts_73 : decode cX4_reachParts 73 = .ok (.iload_n 3, 1) := by decide +kernel
theorem dX4_reachParts_74 : decode cX4_reachParts 74 = .ok (.ireturn, 1) := by decide +kernel
set_option maxRecDepth 20000 in
theorem ggX4_partHolding_X2_holding : GoodIn wsX4_partHolding wsX2_holding := goodIn_r _ [7, 8, 9, 10, 37, 38, 39, 40, 41, 42] (by decide +kernel) (by decide +kernel)
set_option maxRecDepth 20000 in
theorem gX4_partHolding_X2_holding_u196X2 : GoodIn wsX4_partHolding (va_wsU RX4 196 RX2 "Dimfacts$FactStore" ⟨"Dimfacts$FactStore", "holding", "(II)LDimfacts$Fact;"⟩ yX2_holding wsX2_holding) := goodIn_app (goodIn_of _ (by decide +kernel)) ggX4_partHolding_X2_holding
set_option maxRecDepth 20000 in
theorem ggX4_partHolding_X3_holding : GoodIn wsX4_partHolding wsX3_holding := goodIn_r _ [14, 15, 16, 17, 18, 19, 20, 21, 22, 23, 24, 25, 43, 44, 38, 39, 40, 41, 42] (by decide +kernel) (by decide +kernel)
set_option maxRecDepth 20000 in
theorem gX4_partHolding_X3_holding_u196X3 : GoodIn wsX4_partHolding (va_wsU RX4 196 RX3 "Dimfacts$FactStore" ⟨"Dimfacts$FactStore", "holding", "(II)LDimfacts$Fact;"⟩ yX3_holding wsX3_holding) := goodIn_app (goodIn_of _ (by decide +kernel)) ggX4_partHolding_X3_holding
theorem dX4_partHolding_0 : decode cX4_partHolding 0 = .ok (.aload_n 0, 1) := by decide +kernel
theorem dX4_partHolding_1 : decode cX4_partHolding 1 = .ok (.getfield 9, 3) := by decide +kernel
theorem dX4_partHolding_4 : decode cX4_partHolding 4 = .ok (.iload_n 3, 1) := by decide +kernel
theorem dX4_partHolding_5 : decode cX4_partHolding 5 = .ok (.iaload, 1) := by decide +kernel
theorem dX4_partHolding_6 : decode cX4_partHolding 6 = .ok (.iload_n 2, 1) := by decide +kernel
theorem dX4_partHolding_7 : decode cX4_partHolding 7 = .ok (.if_icmp .ne 14, 3) := by decide +kernel
theorem dX4_partHolding_10 : decode cX4_partHolding 10 = .ok (.aload_n 1, 1) := by decide +kernel
theorem dX4_partHolding_11 : decode cX4_partHolding 11 = .ok (.iload 4, 2) := by decide +kernel
theorem dX4_partHolding_13 : decode cX4_partHolding 13 = .ok (.iload 5, 2) := by decide +kernel
theorem dX4_partHolding_15 : decode cX4_partHolding 15 = .ok (.invokevirtual 196, 3) := by decide +kernel
theorem dX4_partHolding_18 : decode cX4_partHolding 18 = .ok (.goto 4, 3) := by decide +kernel
theorem dX4_partHolding_21 : decode cX4_partHolding 21 = .ok (.aconst_null, 1) := by decide +kernel
theorem dX4_partHolding_22 : decode cX4_partHolding 22 = .ok (.areturn, 1) := by decide +kernel
set_option maxRecDepth 20000 in
theorem ggX4_sumFails_X4_keyOf : GoodIn wsX4_sumFails wsX4_keyOf := goodIn_r _ [8] (by decide +kernel) (by decide +kernel)
set_option maxRecDepth 20000 in
theorem gX4_sumFails_X4_keyOf : GoodIn wsX4_sumFails (va_wsS RX4 96 yX4_keyOf wsX4_keyOf) := goodIn_app (goodIn_of _ (by decide +kernel)) ggX4_sumFails_X4_keyOf
set_option maxRecDepth 20000 in
theorem ggX4_sumFails_X2_holding : GoodIn wsX4_sumFails wsX2_holding := goodIn_r _ [14, 15, 16, 17, 61, 45, 46, 47, 48, 49] (by decide +kernel) (by decide +kernel)
set_option maxRecDepth 20000 in
theorem gX4_sumFails_X2_holding_u196X2 : GoodIn wsX4_sumFails (va_wsU RX4 196 RX2 "Dimfacts$FactStore" ⟨"Dimfacts$FactStore", "holding", "(II)LDimfacts$Fact;"⟩ yX2_holding wsX2_holding) := goodIn_app (goodIn_of _ (by decide +kernel)) ggX4_sumFails_X2_holding
set_option maxRecDepth 20000 in
theorem ggX4_sumFails_X3_holding : GoodIn wsX4_sumFails wsX3_holding := goodIn_r _ [21, 22, 23, 24, 25, 26, 27, 28, 29, 30, 31, 32, 62, 63, 45, 46, 47, 48, 49] (by decide +kernel) (by decide +kernel)
set_option maxRecDepth 20000 in
theorem gX4_sumFails_X3_holding_u196X3 : GoodIn wsX4_sumFails (va_wsU RX4 196 RX3 "Dimfacts$FactStore" ⟨"Dimfacts$FactStore", "holding", "(II)LDimfacts$Fact;"⟩ yX3_holding wsX3_holding) := goodIn_app (goodIn_of _ (by decide +kernel)) ggX4_sumFails_X3_holding
set_option maxRecDepth 20000 in
theorem ggX4_sumFails_X4_partHolding : GoodIn wsX4_sumFails wsX4_partHolding := goodIn_r _ [36, 37, 9, 10, 11, 12, 13, 14, 15, 16, 17, 18, 19, 20, 21, 22, 23, 24, 25, 26, 27, 28, 29, 30, 31, 32, 50, 51, 52, 53, 54, 55, 56, 57, 58, 59, 60, 61, 45, 46, 47, 48, 49, 62, 63] (by decide +kernel) (by decide +kernel)
set_option maxRecDepth 20000 in
theorem gX4_sumFails_X4_partHolding : GoodIn wsX4_sumFails (wsV RX4 141 RX4 yX4_partHolding wsX4_partHolding) := goodIn_app (goodIn_of _ (by decide +kernel)) ggX4_sumFails_X4_partHolding
set_option maxRecDepth 20000 in
theorem ggX4_sumFails_X4_isApart : GoodIn wsX4_sumFails wsX4_isApart := goodIn_r _ [40, 41, 42, 43, 44] (by decide +kernel) (by decide +kernel)
set_option maxRecDepth 20000 in
theorem gX4_sumFails_X4_isApart : GoodIn wsX4_sumFails (va_wsS RX4 199 yX4_isApart wsX4_isApart) := goodIn_app (goodIn_of _ (by decide +kernel)) ggX4_sumFails_X4_isApart
theorem dX4_sumFails_0 : decode cX4_sumFails 0 = .ok (.aload_n 1, 1) := by decide +kernel
theorem dX4_sumFails_1 : decode cX4_sumFails 1 = .ok (.iload_n 2, 1) := by decide +kernel
theorem dX4_sumFails_2 : decode cX4_sumFails 2 = .ok (.iload_n 3, 1) := by decide +kernel
theorem dX4_sumFails_3 : decode cX4_sumFails 3 = .ok (.iload 4, 2) := by decide +kernel
theorem dX4_sumFails_5 : decode cX4_sumFails 5 = .ok (.invokestatic 96, 3) := by decide +kernel
theorem dX4_sumFails_8 : decode cX4_sumFails 8 = .ok (.iload 5, 2) := by decide +kernel
theorem dX4_sumFails_10 : decode cX4_sumFails 10 = .ok (.invokevirtual 196, 3) := by decide +kernel
theorem dX4_sumFails_13 : decode cX4_sumFails 13 = .ok (.astore 6, 2) := by decide +kernel
theorem dX4_sumFails_15 : decode cX4_sumFails 15 = .ok (.aload 6, 2) := by decide +kernel
theorem dX4_sumFails_17 : decode cX4_sumFails 17 = .ok (.ifnonnull 5, 3) := by decide +kernel
theorem dX4_sumFails_20 : decode cX4_sumFails 20 = .ok (.iconst 0, 1) := by decide +kernel
theorem dX4_sumFails_21 : decode cX4_sumFails 21 = .ok (.ireturn, 1) := by decide +kernel
theorem dX4_sumFails_22 : decode cX4_sumFails 22 = .ok (.iconst 0, 1) := by decide +kernel
theorem dX4_sumFails_23 : decode cX4_sumFails 23 = .ok (.istore 7, 2) := by decide +kernel
theorem dX4_sumFails_25 : decode cX4_sumFails 25 = .ok (.aload 6, 2) := by decide +kernel
theorem dX4_sumFails_27 : decode cX4_sumFails 27 = .ok (.getfield 138, 3) := by decide +kernel
theorem dX4_sumFails_30 : decode cX4_sumFails 30 = .ok (.istore 8, 2) := by decide +kernel
theorem dX4_sumFails_32 : decode cX4_sumFails 32 = .ok (.iconst 0, 1) := by decide +kernel
theorem dX4_sumFails_33 : decode cX4_sumFails 33 = .ok (.istore 9, 2) := by decide +kernel
theorem dX4_sumFails_35 : decode cX4_sumFails 35 = .ok (.iconst 0, 1) := by decide +kernel
theorem dX4_sumFails_36 : decode cX4_sumFails 36 = .ok (.istore 10, 2) := by decide +kernel
theorem dX4_sumFails_38 : decode cX4_sumFails 38 = .ok (.iload 10, 2) := by decide +kernel
theorem dX4_sumFails_40 : decode cX4_sumFails 40 = .ok (.aload_n 0, 1) := by decide +kernel
theorem dX4_sumFails_41 : decode cX4_sumFails 41 = .ok (.getfield 42, 3) := by decide +kernel
theorem dX4_sumFails_44 : decode cX4_sumFails 44 = .ok (.if_icmp .ge 65, 3) := by decide +kernel
theorem dX4_sumFails_47 : decode cX4_sumFails 47 = .ok (.aload_n 0, 1) := by decide +kernel
theorem dX4_sumFails_48 : decode cX4_sumFails 48 = .ok (.aload_n 1, 1) := by decide +kernel
theorem dX4_sumFails_49 : decode cX4_sumFails 49 = .ok (.iload_n 2, 1) := by decide +kernel
theorem dX4_sumFails_50 : decode cX4_sumFails 50 = .ok (.iload 10, 2) := by decide +kernel
theorem dX4_sumFails_52 : decode cX4_sumFails 52 = .ok (.iload 10, 2) := by decide +kernel
theorem dX4_sumFails_54 : decode cX4_sumFails 54 = .ok (.iload_n 3, 1) := by decide +kernel
theorem dX4_sumFails_55 : decode cX4_sumFails 55 = .ok (.iload 4, 2) := by decide +kernel
theorem dX4_sumFails_57 : decode cX4_sumFails 57 = .ok (.invokestatic 96, 3) := by decide +kernel
theorem dX4_sumFails_60 : decode cX4_sumFails 60 = .ok (.iload 5, 2) := by decide +kernel
theorem dX4_sumFails_62 : decode cX4_sumFails 62 = .ok (.invokevirtual 141, 3) := by decide +kernel
theorem dX4_sumFails_65 : decode cX4_sumFails 65 = .ok (.astore 11, 2) := by decide +kernel
theorem dX4_sumFails_67 : decode cX4_sumFails 67 = .ok (.aload 11, 2) := by decide +kernel
theorem dX4_sumFails_69 : decode cX4_sumFails 69 = .ok (.ifnull 34, 3) := by decide +kernel
theorem dX4_sumFails_72 : decode cX4_sumFails 72 = .ok (.iload 7, 2) := by decide +kernel
theorem dX4_sumFails_74 : decode cX4_sumFails 74 = .ok (.aload_n 0, 1) := by decide +kernel
theorem dX4_sumFails_75 : decode cX4_sumFails 75 = .ok (.getfield 13, 3) := by decide +kernel
theorem dX4_sumFails_78 : decode cX4_sumFails 78 = .ok (.iload 10, 2) := by decide +kernel
theorem dX4_sumFails_80 : decode cX4_sumFails 80 = .ok (.iaload, 1) := by decide +kernel
theorem dX4_sumFails_81 : decode cX4_sumFails 81 = .ok (.aload 11, 2) := by decide +kernel
theorem dX4_sumFails_83 : decode cX4_sumFails 83 = .ok (.getfield 135, 3) := by decide +kernel
theorem dX4_sumFails_86 : decode cX4_sumFails 86 = .ok (.imul, 1) := by decide +kernel
theorem dX4_sumFails_87 : decode cX4_sumFails 87 = .ok (.iadd, 1) := by decide +kernel
theorem dX4_sumFails_88 : decode cX4_sumFails 88 = .ok (.istore 7, 2) := by decide +kernel
theorem dX4_sumFails_90 : decode cX4_sumFails 90 = .ok (.iload 8, 2) := by decide +kernel
theorem dX4_sumFails_92 : decode cX4_sumFails 92 = .ok (.aload 11, 2) := by decide +kernel
theorem dX4_sumFails_94 : decode cX4_sumFails 94 = .ok (.getfield 138, 3) := by decide +kernel
theorem dX4_sumFails_97 : decode cX4_sumFails 97 = .ok (.iadd, 1) := by decide +kernel
theorem dX4_sumFails_98 : decode cX4_sumFails 98 = .ok (.istore 8, 2) := by decide +kernel
theorem dX4_sumFails_100 : decode cX4_sumFails 100 = .ok (.iconst 1, 1) := by decide +kernel
theorem dX4_sumFails_101 : decode cX4_sumFails 101 = .ok (.istore 9, 2) := by decide +kernel
theorem dX4_sumFails_103 : decode cX4_sumFails 103 = .ok (.iinc 10 1, 3) := by decide +kernel
theorem dX4_sumFails_106 : decode cX4_sumFails 106 = .ok (.goto (-68), 3) := by decide +kernel
theorem dX4_sumFails_109 : decode cX4_sumFails 109 = .ok (.iload 9, 2) := by decide +kernel
theorem dX4_sumFails_111 : decode cX4_sumFails 111 = .ok (.ifCond .eq 22, 3) := by decide +kernel
theorem dX4_sumFails_114 : decode cX4_sumFails 114 = .ok (.aload 6, 2) := by decide +kernel
theorem dX4_sumFails_116 : decode cX4_sumFails 116 = .ok (.getfield 135, 3) := by decide +kernel
theorem dX4_sumFails_119 : decode cX4_sumFails 119 = .ok (.iload 7, 2) := by decide +kernel
theorem dX4_sumFails_121 : decode cX4_sumFails 121 = .ok (.iload 8, 2) := by decide +kernel
theorem dX4_sumFails_123 : decode cX4_sumFails 123 = .ok (.invokestatic 199, 3) := by decide +kernel
theorem dX4_sumFails_126 : decode cX4_sumFails 126 = .ok (.ifCond .eq 7, 3) := by decide +kernel
theorem dX4_sumFails_129 : decode cX4_sumFails 129 = .ok (.iconst 1, 1) := by decide +kernel
theorem dX4_sumFails_130 : decode cX4_sumFails 130 = .ok (.goto 4, 3) := by decide +kernel
theorem dX4_sumFails_133 : decode cX4_sumFails 133 = .ok (.iconst 0, 1) := by decide +kernel
theorem dX4_sumFails_134 : decode cX4_sumFails 134 = .ok (.ireturn, 1) := by decide +kernel
set_option maxRecDepth 20000 in
theorem ggX4_membersFail_X4_keyOf : GoodIn wsX4_membersFail wsX4_keyOf := goodIn_r _ [6] (by decide +kernel) (by decide +kernel)
set_option maxRecDepth 20000 in
theorem gX4_membersFail_X4_keyOf : GoodIn wsX4_membersFail (va_wsS RX4 96 yX4_keyOf wsX4_keyOf) := goodIn_app (goodIn_of _ (by decide +kernel)) ggX4_membersFail_X4_keyOf
set_option maxRecDepth 20000 in
theorem ggX4_membersFail_X2_holding : GoodIn wsX4_membersFail wsX2_holding := goodIn_r _ [12, 13, 14, 15, 43, 38, 39, 40, 41, 42] (by decide +kernel) (by decide +kernel)
set_option maxRecDepth 20000 in
theorem gX4_membersFail_X2_holding_u196X2 : GoodIn wsX4_membersFail (va_wsU RX4 196 RX2 "Dimfacts$FactStore" ⟨"Dimfacts$FactStore", "holding", "(II)LDimfacts$Fact;"⟩ yX2_holding wsX2_holding) := goodIn_app (goodIn_of _ (by decide +kernel)) ggX4_membersFail_X2_holding
set_option maxRecDepth 20000 in
theorem ggX4_membersFail_X3_holding : GoodIn wsX4_membersFail wsX3_holding := goodIn_r _ [19, 20, 21, 22, 23, 24, 25, 26, 27, 28, 29, 30, 44, 45, 38, 39, 40, 41, 42] (by decide +kernel) (by decide +kernel)
set_option maxRecDepth 20000 in
theorem gX4_membersFail_X3_holding_u196X3 : GoodIn wsX4_membersFail (va_wsU RX4 196 RX3 "Dimfacts$FactStore" ⟨"Dimfacts$FactStore", "holding", "(II)LDimfacts$Fact;"⟩ yX3_holding wsX3_holding) := goodIn_app (goodIn_of _ (by decide +kernel)) ggX4_membersFail_X3_holding
set_option maxRecDepth 20000 in
theorem ggX4_membersFail_X4_isApart : GoodIn wsX4_membersFail wsX4_isApart := goodIn_r _ [33, 34, 35, 36, 37] (by decide +kernel) (by decide +kernel)
set_option maxRecDepth 20000 in
theorem gX4_membersFail_X4_isApart : GoodIn wsX4_membersFail (va_wsS RX4 199 yX4_isApart wsX4_isApart) := goodIn_app (goodIn_of _ (by decide +kernel)) ggX4_membersFail_X4_isApart
theorem dX4_membersFail_0 : decode cX4_membersFail 0 = .ok (.aload_n 0, 1) := by decide +kernel
theorem dX4_membersFail_1 : decode cX4_membersFail 1 = .ok (.iload_n 1, 1) := by decide +kernel
theorem dX4_membersFail_2 : decode cX4_membersFail 2 = .ok (.iload_n 2, 1) := by decide +kernel
theorem dX4_membersFail_3 : decode cX4_membersFail 3 = .ok (.iconst 0, 1) := by decide +kernel
theorem dX4_membersFail_4 : decode cX4_membersFail 4 = .ok (.invokestatic 96, 3) := by decide +kernel
theorem dX4_membersFail_7 : decode cX4_membersFail 7 = .ok (.iload_n 3, 1) := by decide +kernel
theorem dX4_membersFail_8 : decode cX4_membersFail 8 = .ok (.invokevirtual 196, 3) := by decide +kernel
theorem dX4_membersFail_11 : decode cX4_membersFail 11 = .ok (.astore 4, 2) := by decide +kernel
theorem dX4_membersFail_13 : decode cX4_membersFail 13 = .ok (.aload 4, 2) := by decide +kernel
theorem dX4_membersFail_15 : decode cX4_membersFail 15 = .ok (.ifnonnull 5, 3) := by decide +kernel
theorem dX4_membersFail_18 : decode cX4_membersFail 18 = .ok (.iconst 0, 1) := by decide +kernel
theorem dX4_membersFail_19 : decode cX4_membersFail 19 = .ok (.ireturn, 1) := by decide +kernel
theorem dX4_membersFail_20 : decode cX4_membersFail 20 = .ok (.iconst 0, 1) := by decide +kernel
theorem dX4_membersFail_21 : decode cX4_membersFail 21 = .ok (.istore 5, 2) := by decide +kernel
theorem dX4_membersFail_23 : decode cX4_membersFail 23 = .ok (.aload 4, 2) := by decide +kernel
theorem dX4_membersFail_25 : decode cX4_membersFail 25 = .ok (.getfield 138, 3) := by decide +kernel
theorem dX4_membersFail_28 : decode cX4_membersFail 28 = .ok (.istore 6, 2) := by decide +kernel
theorem dX4_membersFail_30 : decode cX4_membersFail 30 = .ok (.iconst 1, 1) := by decide +kernel
theorem dX4_membersFail_31 : decode cX4_membersFail 31 = .ok (.istore 7, 2) := by decide +kernel
theorem dX4_membersFail_33 : decode cX4_membersFail 33 = .ok (.iload 7, 2) := by decide +kernel
theorem dX4_membersFail_35 : decode cX4_membersFail 35 = .ok (.iconst 4, 1) := by decide +kernel
theorem dX4_membersFail_36 : decode cX4_membersFail 36 = .ok (.if_icmp .ge 50, 3) := by decide +kernel
theorem dX4_membersFail_39 : decode cX4_membersFail 39 = .ok (.aload_n 0, 1) := by decide +kernel
theorem dX4_membersFail_40 : decode cX4_membersFail 40 = .ok (.iload_n 1, 1) := by decide +kernel
theorem dX4_membersFail_41 : decode cX4_membersFail 41 = .ok (.iload_n 2, 1) := by decide +kernel
theorem dX4_membersFail_42 : decode cX4_membersFail 42 = .ok (.iload 7, 2) := by decide +kernel
theorem dX4_membersFail_44 : decode cX4_membersFail 44 = .ok (.invokestatic 96, 3) := by decide +kernel
theorem dX4_membersFail_47 : decode cX4_membersFail 47 = .ok (.iload_n 3, 1) := by decide +kernel
theorem dX4_membersFail_48 : decode cX4_membersFail 48 = .ok (.invokevirtual 196, 3) := by decide +kernel
theorem dX4_membersFail_51 : decode cX4_membersFail 51 = .ok (.astore 8, 2) := by decide +kernel
theorem dX4_membersFail_53 : decode cX4_membersFail 53 = .ok (.aload 8, 2) := by decide +kernel
theorem dX4_membersFail_55 : decode cX4_membersFail 55 = .ok (.ifnonnull 5, 3) := by decide +kernel
theorem dX4_membersFail_58 : decode cX4_membersFail 58 = .ok (.iconst 0, 1) := by decide +kernel
theorem dX4_membersFail_59 : decode cX4_membersFail 59 = .ok (.ireturn, 1) := by decide +kernel
theorem dX4_membersFail_60 : decode cX4_membersFail 60 = .ok (.iload 5, 2) := by decide +kernel
theorem dX4_membersFail_62 : decode cX4_membersFail 62 = .ok (.aload 8, 2) := by decide +kernel
theorem dX4_membersFail_64 : decode cX4_membersFail 64 = .ok (.getfield 135, 3) := by decide +kernel
theorem dX4_membersFail_67 : decode cX4_membersFail 67 = .ok (.iadd, 1) := by decide +kernel
theorem dX4_membersFail_68 : decode cX4_membersFail 68 = .ok (.istore 5, 2) := by decide +kernel
theorem dX4_membersFail_70 : decode cX4_membersFail 70 = .ok (.iload 6, 2) := by decide +kernel
theorem dX4_membersFail_72 : decode cX4_membersFail 72 = .ok (.aload 8, 2) := by decide +kernel
theorem dX4_membersFail_74 : decode cX4_membersFail 74 = .ok (.getfield 138, 3) := by decide +kernel
theorem dX4_membersFail_77 : decode cX4_membersFail 77 = .ok (.iadd, 1) := by decide +kernel
theorem dX4_membersFail_78 : decode cX4_membersFail 78 = .ok (.istore 6, 2) := by decide +kernel
theorem dX4_membersFail_80 : decode cX4_membersFail 80 = .ok (.iinc 7 1, 3) := by decide +kernel
theorem dX4_membersFail_83 : decode cX4_membersFail 83 = .ok (.goto (-50), 3) := by decide +kernel
theorem dX4_membersFail_86 : decode cX4_membersFail 86 = .ok (.aload 4, 2) := by decide +kernel
theorem dX4_membersFail_88 : decode cX4_membersFail 88 = .ok (.getfield 135, 3) := by decide +kernel
theorem dX4_membersFail_91 : decode cX4_membersFail 91 = .ok (.iload 5, 2) := by decide +kernel
theorem dX4_membersFail_93 : decode cX4_membersFail 93 = .ok (.iload 6, 2) := by decide +kernel
theorem dX4_membersFail_95 : decode cX4_membersFail 95 = .ok (.invokestatic 199, 3) := by decide +kernel
theorem dX4_membersFail_98 : decode cX4_membersFail 98 = .ok (.ireturn, 1) := by decide +kernel
set_option maxRecDepth 20000 in
theorem ggX4_rollFails_X4_keyOf : GoodIn wsX4_rollFails wsX4_keyOf := goodIn_r _ [8] (by decide +kernel) (by decide +kernel)
set_option maxRecDepth 20000 in
theorem gX4_rollFails_X4_keyOf : GoodIn wsX4_rollFails (va_wsS RX4 96 yX4_keyOf wsX4_keyOf) := goodIn_app (goodIn_of _ (by decide +kernel)) ggX4_rollFails_X4_keyOf
set_option maxRecDepth 20000 in
theorem ggX4_rollFails_X2_holding : GoodIn wsX4_rollFails wsX2_holding := goodIn_r _ [14, 15, 16, 17, 56, 51, 52, 53, 54, 55] (by decide +kernel) (by decide +kernel)
set_option maxRecDepth 20000 in
theorem gX4_rollFails_X2_holding_u196X2 : GoodIn wsX4_rollFails (va_wsU RX4 196 RX2 "Dimfacts$FactStore" ⟨"Dimfacts$FactStore", "holding", "(II)LDimfacts$Fact;"⟩ yX2_holding wsX2_holding) := goodIn_app (goodIn_of _ (by decide +kernel)) ggX4_rollFails_X2_holding
set_option maxRecDepth 20000 in
theorem ggX4_rollFails_X3_holding : GoodIn wsX4_rollFails wsX3_holding := goodIn_r _ [21, 22, 23, 24, 25, 26, 27, 28, 29, 30, 31, 32, 57, 58, 51, 52, 53, 54, 55] (by decide +kernel) (by decide +kernel)
set_option maxRecDepth 20000 in
theorem gX4_rollFails_X3_holding_u196X3 : GoodIn wsX4_rollFails (va_wsU RX4 196 RX3 "Dimfacts$FactStore" ⟨"Dimfacts$FactStore", "holding", "(II)LDimfacts$Fact;"⟩ yX3_holding wsX3_holding) := goodIn_app (goodIn_of _ (by decide +kernel)) ggX4_rollFails_X3_holding
set_option maxRecDepth 20000 in
theorem ggX4_rollFails_X4_isApart : GoodIn wsX4_rollFails wsX4_isApart := goodIn_r _ [35, 36, 37, 38, 39] (by decide +kernel) (by decide +kernel)
set_option maxRecDepth 20000 in
theorem gX4_rollFails_X4_isApart : GoodIn wsX4_rollFails (va_wsS RX4 199 yX4_isApart wsX4_isApart) := goodIn_app (goodIn_of _ (by decide +kernel)) ggX4_rollFails_X4_isApart
theorem dX4_rollFails_0 : decode cX4_rollFails 0 = .ok (.iload_n 3, 1) := by decide +kernel
theorem dX4_rollFails_1 : decode cX4_rollFails 1 = .ok (.ifCond .ne 5, 3) := by decide +kernel
theorem dX4_rollFails_4 : decode cX4_rollFails 4 = .ok (.iconst 0, 1) := by decide +kernel
theorem dX4_rollFails_5 : decode cX4_rollFails 5 = .ok (.ireturn, 1) := by decide +kernel
theorem dX4_rollFails_6 : decode cX4_rollFails 6 = .ok (.aload_n 1, 1) := by decide +kernel
theorem dX4_rollFails_7 : decode cX4_rollFails 7 = .ok (.aload_n 0, 1) := by decide +kernel
theorem dX4_rollFails_8 : decode cX4_rollFails 8 = .ok (.getfield 16, 3) := by decide +kernel
theorem dX4_rollFails_11 : decode cX4_rollFails 11 = .ok (.iload_n 2, 1) := by decide +kernel
theorem dX4_rollFails_12 : decode cX4_rollFails 12 = .ok (.iaload, 1) := by decide +kernel
theorem dX4_rollFails_13 : decode cX4_rollFails 13 = .ok (.iload_n 3, 1) := by decide +kernel
theorem dX4_rollFails_14 : decode cX4_rollFails 14 = .ok (.iload 4, 2) := by decide +kernel
theorem dX4_rollFails_16 : decode cX4_rollFails 16 = .ok (.invokestatic 96, 3) := by decide +kernel
theorem dX4_rollFails_19 : decode cX4_rollFails 19 = .ok (.iload 5, 2) := by decide +kernel
theorem dX4_rollFails_21 : decode cX4_rollFails 21 = .ok (.invokevirtual 196, 3) := by decide +kernel
theorem dX4_rollFails_24 : decode cX4_rollFails 24 = .ok (.astore 6, 2) := by decide +kernel
theorem dX4_rollFails_26 : decode cX4_rollFails 26 = .ok (.aload_n 1, 1) := by decide +kernel
theorem dX4_rollFails_27 : decode cX4_rollFails 27 = .ok (.aload_n 0, 1) := by decide +kernel
theorem dX4_rollFails_28 : decode cX4_rollFails 28 = .ok (.getfield 16, 3) := by decide +kernel
theorem dX4_rollFails_31 : decode cX4_rollFails 31 = .ok (.iload_n 2, 1) := by decide +kernel
theorem dX4_rollFails_32 : decode cX4_rollFails 32 = .ok (.iaload, 1) := by decide +kernel
theorem dX4_rollFails_33 : decode cX4_rollFails 33 = .ok (.iload_n 3, 1) := by decide +kernel
theorem dX4_rollFails_34 : decode cX4_rollFails 34 = .ok (.iconst 1, 1) := by decide +kernel
theorem dX4_rollFails_35 : decode cX4_rollFails 35 = .ok (.isub, 1) := by decide +kernel
theorem dX4_rollFails_36 : decode cX4_rollFails 36 = .ok (.iload 4, 2) := by decide +kernel
theorem dX4_rollFails_38 : decode cX4_rollFails 38 = .ok (.invokestatic 96, 3) := by decide +kernel
theorem dX4_rollFails_41 : decode cX4_rollFails 41 = .ok (.iload 5, 2) := by decide +kernel
theorem dX4_rollFails_43 : decode cX4_rollFails 43 = .ok (.invokevirtual 196, 3) := by decide +kernel
theorem dX4_rollFails_46 : decode cX4_rollFails 46 = .ok (.astore 7, 2) := by decide +kernel
theorem dX4_rollFails_48 : decode cX4_rollFails 48 = .ok (.aload_n 1, 1) := by decide +kernel
theorem dX4_rollFails_49 : decode cX4_rollFails 49 = .ok (.aload_n 0, 1) := by decide +kernel
theorem dX4_rollFails_50 : decode cX4_rollFails 50 = .ok (.getfield 19, 3) := by decide +kernel
theorem dX4_rollFails_53 : decode cX4_rollFails 53 = .ok (.iload_n 2, 1) := by decide +kernel
theorem dX4_rollFails_54 : decode cX4_rollFails 54 = .ok (.iaload, 1) := by decide +kernel
theorem dX4_rollFails_55 : decode cX4_rollFails 55 = .ok (.iload_n 3, 1) := by decide +kernel
theorem dX4_rollFails_56 : decode cX4_rollFails 56 = .ok (.iload 4, 2) := by decide +kernel
theorem dX4_rollFails_58 : decode cX4_rollFails 58 = .ok (.invokestatic 96, 3) := by decide +kernel
theorem dX4_rollFails_61 : decode cX4_rollFails 61 = .ok (.iload 5, 2) := by decide +kernel
theorem dX4_rollFails_63 : decode cX4_rollFails 63 = .ok (.invokevirtual 196, 3) := by decide +kernel
theorem dX4_rollFails_66 : decode cX4_rollFails 66 = .ok (.astore 8, 2) := by decide +kernel
theorem dX4_rollFails_68 : decode cX4_rollFails 68 = .ok (.aload 6, 2) := by decide +kernel
theorem dX4_rollFails_70 : decode cX4_rollFails 70 = .ok (.ifnull 13, 3) := by decide +kernel
theorem dX4_rollFails_73 : decode cX4_rollFails 73 = .ok (.aload 7, 2) := by decide +kernel
theorem dX4_rollFails_75 : decode cX4_rollFails 75 = .ok (.ifnull 8, 3) := by decide +kernel
theorem dX4_rollFails_78 : decode cX4_rollFails 78 = .ok (.aload 8, 2) := by decide +kernel
theorem dX4_rollFails_80 : decode cX4_rollFails 80 = .ok (.ifnonnull 5, 3) := by decide +kernel
theorem dX4_rollFails_83 : decode cX4_rollFails 83 = .ok (.iconst 0, 1) := by decide +kernel
theorem dX4_rollFails_84 : decode cX4_rollFails 84 = .ok (.ireturn, 1) := by decide +kernel
theorem dX4_rollFails_85 : decode cX4_rollFails 85 = .ok (.aload 6, 2) := by decide +kernel
theorem dX4_rollFails_87 : decode cX4_rollFails 87 = .ok (.getfield 135, 3) := by decide +kernel
theorem dX4_rollFails_90 : decode cX4_rollFails 90 = .ok (.aload 7, 2) := by decide +kernel
theorem dX4_rollFails_92 : decode cX4_rollFails 92 = .ok (.getfield 135, 3) := by decide +kernel
theorem dX4_rollFails_95 : decode cX4_rollFails 95 = .ok (.aload 8, 2) := by decide +kernel
theorem dX4_rollFails_97 : decode cX4_rollFails 97 = .ok (.getfield 135, 3) := by decide +kernel
theorem dX4_rollFails_100 : decode cX4_rollFails 100 = .ok (.iadd, 1) := by decide +kernel
theorem dX4_rollFails_101 : decode cX4_rollFails 101 = .ok (.aload 6, 2) := by decide +kernel
theorem dX4_rollFails_103 : decode cX4_rollFails 103 = .ok (.getfield 138, 3) := by decide +kernel
theorem dX4_rollFails_106 : decode cX4_rollFails 106 = .ok (.aload 7, 2) := by decide +kernel
theorem dX4_rollFails_108 : decode cX4_rollFails 108 = .ok (.getfield 138, 3) := by decide +kernel
theorem dX4_rollFails_111 : decode cX4_rollFails 111 = .ok (.iadd, 1) := by decide +kernel
theorem dX4_rollFails_112 : decode cX4_rollFails 112 = .ok (.aload 8, 2) := by decide +kernel
theorem dX4_rollFails_114 : decode cX4_rollFails 114 = .ok (.getfield 138, 3) := by decide +kernel
theorem dX4_rollFails_117 : decode cX4_rollFails 117 = .ok (.iadd, 1) := by decide +kernel
theorem dX4_rollFails_118 : decode cX4_rollFails 118 = .ok (.invokestatic 199, 3) := by decide +kernel
theorem dX4_rollFails_121 : decode cX4_rollFails 121 = .ok (.ireturn, 1) := by decide +kernel
set_option maxRecDepth 20000 in
theorem ggX4_faultsAt_X4_sumFails : GoodIn wsX4_faultsAt wsX4_sumFails := goodIn_r _ [7, 8, 9, 10, 11, 12, 13, 6, 14, 15, 16, 17, 18, 19, 20, 21, 22, 23, 24, 25, 26, 27, 28, 29, 30, 31, 32, 33, 34, 35, 36, 37, 38, 39, 40, 41, 42, 43, 44, 45, 46, 47, 48, 49, 50, 70, 71, 72, 73, 74, 59, 60, 61, 62, 63, 64, 65, 66, 67, 68, 69, 75, 76, 77] (by decide +kernel) (by decide +kernel)
set_option maxRecDepth 20000 in
theorem gX4_faultsAt_X4_sumFails : GoodIn wsX4_faultsAt (wsV RX4 158 RX4 yX4_sumFails wsX4_sumFails) := goodIn_app (goodIn_of _ (by decide +kernel)) ggX4_faultsAt_X4_sumFails
set_option maxRecDepth 20000 in
theorem ggX4_faultsAt_X4_membersFail : GoodIn wsX4_faultsAt wsX4_membersFail := goodIn_r _ [53, 8, 11, 12, 13, 6, 14, 15, 16, 17, 18, 19, 20, 21, 22, 23, 24, 25, 26, 27, 28, 29, 30, 31, 32, 33, 34, 35, 36, 37, 38, 44, 45, 46, 47, 48, 49, 50, 70, 71, 72, 73, 74, 75, 76, 77] (by decide +kernel) (by decide +kernel)
set_option maxRecDepth 20000 in
theorem gX4_faultsAt_X4_membersFail : GoodIn wsX4_faultsAt (va_wsS RX4 162 yX4_membersFail wsX4_membersFail) := goodIn_app (goodIn_of _ (by decide +kernel)) ggX4_faultsAt_X4_membersFail
set_option maxRecDepth 20000 in
theorem ggX4_faultsAt_X4_rollFails : GoodIn wsX4_faultsAt wsX4_rollFails := goodIn_r _ [57, 2, 58, 11, 8, 12, 13, 6, 14, 15, 16, 17, 18, 19, 20, 21, 22, 23, 24, 25, 26, 27, 28, 29, 30, 31, 32, 33, 34, 35, 36, 37, 38, 44, 45, 46, 47, 48, 49, 50, 59, 60, 61, 62, 63, 64, 65, 66, 67, 68, 69, 70, 71, 72, 73, 74, 75, 76, 77] (by decide +kernel) (by decide +kernel)
set_option maxRecDepth 20000 in
theorem gX4_faultsAt_X4_rollFails : GoodIn wsX4_faultsAt (wsV RX4 175 RX4 yX4_rollFails wsX4_rollFails) := goodIn_app (goodIn_of _ (by decide +kernel)) ggX4_faultsAt_X4_rollFails
theorem dX4_faultsAt_0 : decode cX4_faultsAt 0 = .ok (.iload_n 2, 1) := by decide +kernel
theorem dX4_faultsAt_1 : decode cX4_faultsAt 1 = .ok (.bipush 40, 2) := by decide +kernel
theorem dX4_faultsAt_3 : decode cX4_faultsAt 3 = .ok (.idiv, 1) := by decide +kernel
theorem dX4_faultsAt_4 : decode cX4_faultsAt 4 = .ok (.istore 4, 2) := by decide +kernel
theorem dX4_faultsAt_6 : decode cX4_faultsAt 6 = .ok (.iload_n 2, 1) := by decide +kernel
theorem dX4_faultsAt_7 : decode cX4_faultsAt 7 = .ok (.iconst 4, 1) := by decide +kernel
theorem dX4_faultsAt_8 : decode cX4_faultsAt 8 = .ok (.idiv, 1) := by decide +kernel
theorem dX4_faultsAt_9 : decode cX4_faultsAt 9 = .ok (.bipush 10, 2) := by decide +kernel
theorem dX4_faultsAt_11 : decode cX4_faultsAt 11 = .ok (.irem, 1) := by decide +kernel
theorem dX4_faultsAt_12 : decode cX4_faultsAt 12 = .ok (.istore 5, 2) := by decide +kernel
theorem dX4_faultsAt_14 : decode cX4_faultsAt 14 = .ok (.iload_n 2, 1) := by decide +kernel
theorem dX4_faultsAt_15 : decode cX4_faultsAt 15 = .ok (.iconst 4, 1) := by decide +kernel
theorem dX4_faultsAt_16 : decode cX4_faultsAt 16 = .ok (.irem, 1) := by decide +kernel
theorem dX4_faultsAt_17 : decode cX4_faultsAt 17 = .ok (.istore 6, 2) := by decide +kernel
theorem dX4_faultsAt_19 : decode cX4_faultsAt 19 = .ok (.aload_n 0, 1) := by decide +kernel
theorem dX4_faultsAt_20 : decode cX4_faultsAt 20 = .ok (.aload_n 1, 1) := by decide +kernel
theorem dX4_faultsAt_21 : decode cX4_faultsAt 21 = .ok (.iload 4, 2) := by decide +kernel
theorem dX4_faultsAt_23 : decode cX4_faultsAt 23 = .ok (.iload 5, 2) := by decide +kernel
theorem dX4_faultsAt_25 : decode cX4_faultsAt 25 = .ok (.iload 6, 2) := by decide +kernel
theorem dX4_faultsAt_27 : decode cX4_faultsAt 27 = .ok (.iload_n 3, 1) := by decide +kernel
theorem dX4_faultsAt_28 : decode cX4_faultsAt 28 = .ok (.invokevirtual 158, 3) := by decide +kernel
theorem dX4_faultsAt_31 : decode cX4_faultsAt 31 = .ok (.ifCond .eq 7, 3) := by decide +kernel
theorem dX4_faultsAt_34 : decode cX4_faultsAt 34 = .ok (.iconst 1, 1) := by decide +kernel
theorem dX4_faultsAt_35 : decode cX4_faultsAt 35 = .ok (.goto 4, 3) := by decide +kernel
theorem dX4_faultsAt_38 : decode cX4_faultsAt 38 = .ok (.iconst 0, 1) := by decide +kernel
theorem dX4_faultsAt_39 : decode cX4_faultsAt 39 = .ok (.istore 7, 2) := by decide +kernel
theorem dX4_faultsAt_41 : decode cX4_faultsAt 41 = .ok (.iload 6, 2) := by decide +kernel
theorem dX4_faultsAt_43 : decode cX4_faultsAt 43 = .ok (.ifCond .ne 18, 3) := by decide +kernel
theorem dX4_faultsAt_46 : decode cX4_faultsAt 46 = .ok (.aload_n 1, 1) := by decide +kernel
theorem dX4_faultsAt_47 : decode cX4_faultsAt 47 = .ok (.iload 4, 2) := by decide +kernel
theorem dX4_faultsAt_49 : decode cX4_faultsAt 49 = .ok (.iload 5, 2) := by decide +kernel
theorem dX4_faultsAt_51 : decode cX4_faultsAt 51 = .ok (.iload_n 3, 1) := by decide +kernel
theorem dX4_faultsAt_52 : decode cX4_faultsAt 52 = .ok (.invokestatic 162, 3) := by decide +kernel
theorem dX4_faultsAt_55 : decode cX4_faultsAt 55 = .ok (.ifCond .eq 6, 3) := by decide +kernel
theorem dX4_faultsAt_58 : decode cX4_faultsAt 58 = .ok (.iinc 7 1, 3) := by decide +kernel
theorem dX4_faultsAt_61 : decode cX4_faultsAt 61 = .ok (.iconst 0, 1) := by decide +kernel
theorem dX4_faultsAt_62 : decode cX4_faultsAt 62 = .ok (.istore 8, 2) := by decide +kernel
theorem dX4_faultsAt_64 : decode cX4_faultsAt 64 = .ok (.iload 8, 2) := by decide +kernel
theorem dX4_faultsAt_66 : decode cX4_faultsAt 66 = .ok (.aload_n 0, 1) := by decide +kernel
theorem dX4_faultsAt_67 : decode cX4_faultsAt 67 = .ok (.getfield 68, 3) := by decide +kernel
theorem dX4_faultsAt_70 : decode cX4_faultsAt 70 = .ok (.if_icmp .ge 39, 3) := by decide +kernel
theorem dX4_faultsAt_73 : decode cX4_faultsAt 73 = .ok (.aload_n 0, 1) := by decide +kernel
theorem dX4_faultsAt_74 : decode cX4_faultsAt 74 = .ok (.getfield 16, 3) := by decide +kernel
theorem dX4_faultsAt_77 : decode cX4_faultsAt 77 = .ok (.iload 8, 2) := by decide +kernel
theorem dX4_faultsAt_79 : decode cX4_faultsAt 79 = .ok (.iaload, 1) := by decide +kernel
theorem dX4_faultsAt_80 : decode cX4_faultsAt 80 = .ok (.iload 4, 2) := by decide +kernel
theorem dX4_faultsAt_82 : decode cX4_faultsAt 82 = .ok (.if_icmp .ne 21, 3) := by decide +kernel
theorem dX4_faultsAt_85 : decode cX4_faultsAt 85 = .ok (.aload_n 0, 1) := by decide +kernel
theorem dX4_faultsAt_86 : decode cX4_faultsAt 86 = .ok (.aload_n 1, 1) := by decide +kernel
theorem dX4_faultsAt_87 : decode cX4_faultsAt 87 = .ok (.iload 8, 2) := by decide +kernel
theorem dX4_faultsAt_89 : decode cX4_faultsAt 89 = .ok (.iload 5, 2) := by decide +kernel
theorem dX4_faultsAt_91 : decode cX4_faultsAt 91 = .ok (.iload 6, 2) := by decide +kernel
theorem dX4_faultsAt_93 : decode cX4_faultsAt 93 = .ok (.iload_n 3, 1) := by decide +kernel
theorem dX4_faultsAt_94 : decode cX4_faultsAt 94 = .ok (.invokevirtual 175, 3) := by decide +kernel
theorem dX4_faultsAt_97 : decode cX4_faultsAt 97 = .ok (.ifCond .eq 6, 3) := by decide +kernel
theorem dX4_faultsAt_100 : decode cX4_faultsAt 100 = .ok (.iinc 7 1, 3) := by decide +kernel
theorem dX4_faultsAt_103 : decode cX4_faultsAt 103 = .ok (.iinc 8 1, 3) := by decide +kernel
theorem dX4_faultsAt_106 : decode cX4_faultsAt 106 = .ok (.goto (-42), 3) := by decide +kernel
theorem dX4_faultsAt_109 : decode cX4_faultsAt 109 = .ok (.iload 7, 2) := by decide +kernel
theorem dX4_faultsAt_111 : decode cX4_faultsAt 111 = .ok (.ireturn, 1) := by decide +kernel
theorem dX4_isApart_0 : decode cX4_isApart 0 = .ok (.iconst 2, 1) := by decide +kernel
theorem dX4_isApart_1 : decode cX4_isApart 1 = .ok (.iload_n 0, 1) := by decide +kernel
theorem dX4_isApart_2 : decode cX4_isApart 2 = .ok (.iload_n 1, 1) := by decide +kernel
theorem dX4_isApart_3 : decode cX4_isApart 3 = .ok (.isub, 1) := by decide +kernel
theorem dX4_isApart_4 : decode cX4_isApart 4 = .ok (.invokestatic 203, 3) := by decide +kernel
theorem dX4_isApart_7 : decode cX4_isApart 7 = .ok (.imul, 1) := by decide +kernel
theorem dX4_isApart_8 : decode cX4_isApart 8 = .ok (.iload_n 2, 1) := by decide +kernel
theorem dX4_isApart_9 : decode cX4_isApart 9 = .ok (.if_icmp .le 7, 3) := by decide +kernel
theorem dX4_isApart_12 : decode cX4_isApart 12 = .ok (.iconst 1, 1) := by decide +kernel
theorem dX4_isApart_13 : decode cX4_isApart 13 = .ok (.goto 4, 3) := by decide +kernel
theorem dX4_isApart_16 : decode cX4_isApart 16 = .ok (.iconst 0, 1) := by decide +kernel
theorem dX4_isApart_17 : decode cX4_isApart 17 = .ok (.ireturn, 1) := by decide +kernel
theorem dJ9_abs_0f7a4_0 : decode cJ9_abs_0f7a4 0 = .ok (.iload_n 0, 1) := by decide +kernel
theorem dJ9_abs_0f7a4_1 : decode cJ9_abs_0f7a4 1 = .ok (.ifCond .ge 8, 3) := by decide +kernel
theorem dJ9_abs_0f7a4_4 : decode cJ9_abs_0f7a4 4 = .ok (.iload_n 0, 1) := by decide +kernel
theorem dJ9_abs_0f7a4_5 : decode cJ9_abs_0f7a4 5 = .ok (.ineg, 1) := by decide +kernel
theorem dJ9_abs_0f7a4_6 : decode cJ9_abs_0f7a4 6 = .ok (.goto 4, 3) := by decide +kernel
theorem dJ9_abs_0f7a4_9 : decode cJ9_abs_0f7a4 9 = .ok (.iload_n 0, 1) := by decide +kernel
theorem dJ9_abs_0f7a4_10 : decode cJ9_abs_0f7a4 10 = .ok (.ireturn, 1) := by decide +kernel
