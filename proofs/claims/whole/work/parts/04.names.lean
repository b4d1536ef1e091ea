/-! ===== BEGIN printed: names, fields, word lists, decode rows ===== -/
def RX0 : String := "Dimfacts$Fact"
def TX0 : u_T := fun k => match k with
  | 0 => ("Dimfacts$Fact", "key", "I", true)
  | 1 => ("Dimfacts$Fact", "filing", "I", true)
  | 2 => ("Dimfacts$Fact", "value", "I", true)
  | 3 => ("Dimfacts$Fact", "doubt", "I", true)
  | _ => ("Dimfacts$Fact", "next", "LDimfacts$Fact;", false)
def tyX0 : Nat → FieldType := fun k => match k with
  | 0 => .int
  | 1 => .int
  | 2 => .int
  | 3 => .int
  | _ => .object "Dimfacts$Fact"
abbrev wsX00 : List Cond := u_ws RX0 TX0 5
theorem nmX0 : ∀ a, a < 5 → ∀ b, b < 5 → a ≠ b → (TX0 a).2.1 ≠ (TX0 b).2.1 := by decide +kernel
theorem tyX0_ok : ∀ k, k < 5 → parseFieldDescriptor (TX0 k).2.2.1 = some (tyX0 k) := by decide +kernel
abbrev cX0_init : ByteArray := prog_2_method_1_code
def yX0_init : MethodName := ⟨RX0, "<init>", "(IIII)V"⟩
abbrev cX0_replaces : ByteArray := prog_2_method_2_code
def yX0_replaces : MethodName := ⟨RX0, "replaces", "(LDimfacts$Fact;)Z"⟩
abbrev cX0_disagreesWith : ByteArray := prog_2_method_3_code
def yX0_disagreesWith : MethodName := ⟨RX0, "disagreesWith", "(LDimfacts$Fact;)Z"⟩
def RX1 : String := "Dimfacts$FactStore"
def TX1 : u_T := fun k => match k with
  | _ => ("", "", "", false)
def tyX1 : Nat → FieldType := fun k => match k with
  | _ => .int
abbrev wsX10 : List Cond := u_ws RX1 TX1 0
theorem nmX1 : ∀ a, a < 0 → ∀ b, b < 0 → a ≠ b → (TX1 a).2.1 ≠ (TX1 b).2.1 := by decide +kernel
theorem tyX1_ok : ∀ k, k < 0 → parseFieldDescriptor (TX1 k).2.2.1 = some (tyX1 k) := by decide +kernel
abbrev cX1_init : ByteArray := prog_3_method_1_code
def yX1_init : MethodName := ⟨RX1, "<init>", "()V"⟩
def RX2 : String := "Dimfacts$KeyedFacts"
def TX2 : u_T := fun k => match k with
  | _ => ("Dimfacts$KeyedFacts", "firsts", "[LDimfacts$Fact;", true)
def tyX2 : Nat → FieldType := fun k => match k with
  | _ => .array (.object "Dimfacts$Fact")
abbrev wsX20 : List Cond := u_ws RX2 TX2 1
theorem nmX2 : ∀ a, a < 1 → ∀ b, b < 1 → a ≠ b → (TX2 a).2.1 ≠ (TX2 b).2.1 := by decide +kernel
theorem tyX2_ok : ∀ k, k < 1 → parseFieldDescriptor (TX2 k).2.2.1 = some (tyX2 k) := by decide +kernel
abbrev cX2_init : ByteArray := prog_4_method_1_code
def yX2_init : MethodName := ⟨RX2, "<init>", "()V"⟩
abbrev cX2_keep : ByteArray := prog_4_method_2_code
def yX2_keep : MethodName := ⟨RX2, "keep", "(LDimfacts$Fact;)V"⟩
abbrev cX2_holding : ByteArray := prog_4_method_3_code
def yX2_holding : MethodName := ⟨RX2, "holding", "(II)LDimfacts$Fact;"⟩
def RX3 : String := "Dimfacts$ListedFacts"
def TX3 : u_T := fun k => match k with
  | 0 => ("Dimfacts$ListedFacts", "facts", "[LDimfacts$Fact;", true)
  | _ => ("Dimfacts$ListedFacts", "count", "I", false)
def tyX3 : Nat → FieldType := fun k => match k with
  | 0 => .array (.object "Dimfacts$Fact")
  | _ => .int
abbrev wsX30 : List Cond := u_ws RX3 TX3 2
theorem nmX3 : ∀ a, a < 2 → ∀ b, b < 2 → a ≠ b → (TX3 a).2.1 ≠ (TX3 b).2.1 := by decide +kernel
theorem tyX3_ok : ∀ k, k < 2 → parseFieldDescriptor (TX3 k).2.2.1 = some (tyX3 k) := by decide +kernel
abbrev cX3_init : ByteArray := prog_5_method_1_code
def yX3_init : MethodName := ⟨RX3, "<init>", "()V"⟩
abbrev cX3_isFull : ByteArray := prog_5_method_2_code
def yX3_isFull : MethodName := ⟨RX3, "isFull", "()Z"⟩
abbrev cX3_keep : ByteArray := prog_5_method_3_code
def yX3_keep : MethodName := ⟨RX3, "keep", "(LDimfacts$Fact;)V"⟩
abbrev cX3_holding : ByteArray := prog_5_method_4_code
def yX3_holding : MethodName := ⟨RX3, "holding", "(II)LDimfacts$Fact;"⟩
abbrev cX3_countAgainst : ByteArray := prog_5_method_5_code
def yX3_countAgainst : MethodName := ⟨RX3, "countAgainst", "(LDimfacts$Fact;I)I"⟩
def RX4 : String := "Dimfacts"
def TX4 : u_T := fun k => match k with
  | 0 => ("Dimfacts", "parents", "[I", true)
  | 1 => ("Dimfacts", "weights", "[I", true)
  | 2 => ("Dimfacts", "conceptCount", "I", false)
  | 3 => ("Dimfacts", "stocks", "[I", true)
  | 4 => ("Dimfacts", "flows", "[I", true)
  | 5 => ("Dimfacts", "ruleCount", "I", false)
  | 6 => ("Dimfacts", "latest", "I", false)
  | 7 => ("Dimfacts", "listed", "LDimfacts$ListedFacts;", true)
  | 8 => ("Dimfacts", "keyed", "LDimfacts$KeyedFacts;", true)
  | 9 => ("Dimfacts", "reached", "[I", true)
  | _ => ("Dimfacts", "signs", "[I", true)
def tyX4 : Nat → FieldType := fun k => match k with
  | 0 => .array .int
  | 1 => .array .int
  | 2 => .int
  | 3 => .array .int
  | 4 => .array .int
  | 5 => .int
  | 6 => .int
  | 7 => .object "Dimfacts$ListedFacts"
  | 8 => .object "Dimfacts$KeyedFacts"
  | 9 => .array .int
  | _ => .array .int
abbrev wsX40 : List Cond := u_ws RX4 TX4 11
theorem nmX4 : ∀ a, a < 11 → ∀ b, b < 11 → a ≠ b → (TX4 a).2.1 ≠ (TX4 b).2.1 := by decide +kernel
theorem tyX4_ok : ∀ k, k < 11 → parseFieldDescriptor (TX4 k).2.2.1 = some (tyX4 k) := by decide +kernel
abbrev cX4_init : ByteArray := prog_1_method_1_code
def yX4_init : MethodName := ⟨RX4, "<init>", "()V"⟩
abbrev cX4_addConcept : ByteArray := prog_1_method_2_code
def yX4_addConcept : MethodName := ⟨RX4, "addConcept", "()I"⟩
abbrev cX4_hang : ByteArray := prog_1_method_3_code
def yX4_hang : MethodName := ⟨RX4, "hang", "(IIZ)I"⟩
abbrev cX4_unhang : ByteArray := prog_1_method_4_code
def yX4_unhang : MethodName := ⟨RX4, "unhang", "(I)I"⟩
abbrev cX4_addRoll : ByteArray := prog_1_method_5_code
def yX4_addRoll : MethodName := ⟨RX4, "addRoll", "(II)I"⟩
abbrev cX4_file : ByteArray := prog_1_method_6_code
def yX4_file : MethodName := ⟨RX4, "file", "()I"⟩
abbrev cX4_tell : ByteArray := prog_1_method_7_code
def yX4_tell : MethodName := ⟨RX4, "tell", "(IIIII)I"⟩
abbrev cX4_disagreements : ByteArray := prog_1_method_8_code
def yX4_disagreements : MethodName := ⟨RX4, "disagreements", "(I)I"⟩
abbrev cX4_restated : ByteArray := prog_1_method_9_code
def yX4_restated : MethodName := ⟨RX4, "restated", "(I)I"⟩
abbrev cX4_value : ByteArray := prog_1_method_10_code
def yX4_value : MethodName := ⟨RX4, "value", "(IIII)I"⟩
abbrev cX4_doubt : ByteArray := prog_1_method_11_code
def yX4_doubt : MethodName := ⟨RX4, "doubt", "(IIII)I"⟩
abbrev cX4_sum : ByteArray := prog_1_method_12_code
def yX4_sum : MethodName := ⟨RX4, "sum", "(IIII)I"⟩
abbrev cX4_derived : ByteArray := prog_1_method_13_code
def yX4_derived : MethodName := ⟨RX4, "derived", "(IIII)I"⟩
abbrev cX4_isSumOff : ByteArray := prog_1_method_14_code
def yX4_isSumOff : MethodName := ⟨RX4, "isSumOff", "(IIII)Z"⟩
abbrev cX4_areMembersOff : ByteArray := prog_1_method_15_code
def yX4_areMembersOff : MethodName := ⟨RX4, "areMembersOff", "(III)Z"⟩
abbrev cX4_isRollOff : ByteArray := prog_1_method_16_code
def yX4_isRollOff : MethodName := ⟨RX4, "isRollOff", "(IIII)Z"⟩
abbrev cX4_faults : ByteArray := prog_1_method_17_code
def yX4_faults : MethodName := ⟨RX4, "faults", "(I)I"⟩
abbrev cX4_faultsByList : ByteArray := prog_1_method_18_code
def yX4_faultsByList : MethodName := ⟨RX4, "faultsByList", "(I)I"⟩
abbrev cX4_checkConcept : ByteArray := prog_1_method_19_code
def yX4_checkConcept : MethodName := ⟨RX4, "checkConcept", "(I)V"⟩
abbrev cX4_checkPeriodAndMember : ByteArray := prog_1_method_20_code
def yX4_checkPeriodAndMember : MethodName := ⟨RX4, "checkPeriodAndMember", "(II)V"⟩
abbrev cX4_checkKey : ByteArray := prog_1_method_21_code
def yX4_checkKey : MethodName := ⟨RX4, "checkKey", "(III)V"⟩
abbrev cX4_checkFiling : ByteArray := prog_1_method_22_code
def yX4_checkFiling : MethodName := ⟨RX4, "checkFiling", "(I)V"⟩
abbrev cX4_heldFact : ByteArray := prog_1_method_23_code
def yX4_heldFact : MethodName := ⟨RX4, "heldFact", "(IIII)LDimfacts$Fact;"⟩
abbrev cX4_keyOf : ByteArray := prog_1_method_24_code
def yX4_keyOf : MethodName := ⟨RX4, "keyOf", "(III)I"⟩
abbrev cX4_isRestated : ByteArray := prog_1_method_25_code
def yX4_isRestated : MethodName := ⟨RX4, "isRestated", "(II)Z"⟩
abbrev cX4_isAtOrUnder : ByteArray := prog_1_method_26_code
def yX4_isAtOrUnder : MethodName := ⟨RX4, "isAtOrUnder", "(II)Z"⟩
abbrev cX4_reachParts : ByteArray := prog_1_method_27_code
def yX4_reachParts : MethodName := ⟨RX4, "reachParts", "(II)I"⟩
abbrev cX4_partHolding : ByteArray := prog_1_method_28_code
def yX4_partHolding : MethodName := ⟨RX4, "partHolding", "(LDimfacts$FactStore;IIII)LDimfacts$Fact;"⟩
abbrev cX4_sumFails : ByteArray := prog_1_method_29_code
def yX4_sumFails : MethodName := ⟨RX4, "sumFails", "(LDimfacts$FactStore;IIII)Z"⟩
abbrev cX4_membersFail : ByteArray := prog_1_method_30_code
def yX4_membersFail : MethodName := ⟨RX4, "membersFail", "(LDimfacts$FactStore;III)Z"⟩
abbrev cX4_rollFails : ByteArray := prog_1_method_31_code
def yX4_rollFails : MethodName := ⟨RX4, "rollFails", "(LDimfacts$FactStore;IIII)Z"⟩
abbrev cX4_faultsAt : ByteArray := prog_1_method_32_code
def yX4_faultsAt : MethodName := ⟨RX4, "faultsAt", "(LDimfacts$FactStore;II)I"⟩
abbrev cX4_isApart : ByteArray := prog_1_method_33_code
def yX4_isApart : MethodName := ⟨RX4, "isApart", "(III)Z"⟩
def RX5 : String := "DimfactsModel"
def TX5 : u_T := fun k => match k with
  | 0 => ("DimfactsModel", "concepts", "I", false)
  | 1 => ("DimfactsModel", "parent", "[I", true)
  | 2 => ("DimfactsModel", "weight", "[I", true)
  | 3 => ("DimfactsModel", "rolls", "I", false)
  | 4 => ("DimfactsModel", "stock", "[I", true)
  | 5 => ("DimfactsModel", "flow", "[I", true)
  | 6 => ("DimfactsModel", "filings", "I", false)
  | 7 => ("DimfactsModel", "facts", "I", false)
  | 8 => ("DimfactsModel", "concept", "[I", true)
  | 9 => ("DimfactsModel", "period", "[I", true)
  | 10 => ("DimfactsModel", "member", "[I", true)
  | 11 => ("DimfactsModel", "filed", "[I", true)
  | 12 => ("DimfactsModel", "value", "[I", true)
  | 13 => ("DimfactsModel", "decimals", "[I", true)
  | 14 => ("DimfactsModel", "derived", "[I", true)
  | 15 => ("DimfactsModel", "isKnown", "[Z", true)
  | _ => ("DimfactsModel", "thrown", "I", false)
def tyX5 : Nat → FieldType := fun k => match k with
  | 0 => .int
  | 1 => .array .int
  | 2 => .array .int
  | 3 => .int
  | 4 => .array .int
  | 5 => .array .int
  | 6 => .int
  | 7 => .int
  | 8 => .array .int
  | 9 => .array .int
  | 10 => .array .int
  | 11 => .array .int
  | 12 => .array .int
  | 13 => .array .int
  | 14 => .array .int
  | 15 => .array .boolean
  | _ => .int
abbrev wsX50 : List Cond := u_ws RX5 TX5 17
theorem nmX5 : ∀ a, a < 17 → ∀ b, b < 17 → a ≠ b → (TX5 a).2.1 ≠ (TX5 b).2.1 := by decide +kernel
theorem tyX5_ok : ∀ k, k < 17 → parseFieldDescriptor (TX5 k).2.2.1 = some (tyX5 k) := by decide +kernel
abbrev cX5_init : ByteArray := prog_7_method_1_code
def yX5_init : MethodName := ⟨RX5, "<init>", "()V"⟩
abbrev cX5_thrown : ByteArray := prog_7_method_2_code
def yX5_thrown : MethodName := ⟨RX5, "thrown", "()I"⟩
abbrev cX5_can : ByteArray := prog_7_method_3_code
def yX5_can : MethodName := ⟨RX5, "can", "(I)Z"⟩
abbrev cX5_isIn : ByteArray := prog_7_method_4_code
def yX5_isIn : MethodName := ⟨RX5, "isIn", "(III)Z"⟩
abbrev cX5_isConcept : ByteArray := prog_7_method_5_code
def yX5_isConcept : MethodName := ⟨RX5, "isConcept", "(I)Z"⟩
abbrev cX5_isFiling : ByteArray := prog_7_method_6_code
def yX5_isFiling : MethodName := ⟨RX5, "isFiling", "(I)Z"⟩
abbrev cX5_isKey : ByteArray := prog_7_method_7_code
def yX5_isKey : MethodName := ⟨RX5, "isKey", "(III)Z"⟩
abbrev cX5_addConcept : ByteArray := prog_7_method_8_code
def yX5_addConcept : MethodName := ⟨RX5, "addConcept", "()I"⟩
abbrev cX5_isBelow : ByteArray := prog_7_method_9_code
def yX5_isBelow : MethodName := ⟨RX5, "isBelow", "(II)Z"⟩
abbrev cX5_hang : ByteArray := prog_7_method_10_code
def yX5_hang : MethodName := ⟨RX5, "hang", "(IIZ)I"⟩
abbrev cX5_unhang : ByteArray := prog_7_method_11_code
def yX5_unhang : MethodName := ⟨RX5, "unhang", "(I)I"⟩
abbrev cX5_addRoll : ByteArray := prog_7_method_12_code
def yX5_addRoll : MethodName := ⟨RX5, "addRoll", "(II)I"⟩
abbrev cX5_file : ByteArray := prog_7_method_13_code
def yX5_file : MethodName := ⟨RX5, "file", "()I"⟩
abbrev cX5_tell : ByteArray := prog_7_method_14_code
def yX5_tell : MethodName := ⟨RX5, "tell", "(IIIII)I"⟩
abbrev cX5_doubtOf : ByteArray := prog_7_method_15_code
def yX5_doubtOf : MethodName := ⟨RX5, "doubtOf", "(I)I"⟩
abbrev cX5_isOf : ByteArray := prog_7_method_16_code
def yX5_isOf : MethodName := ⟨RX5, "isOf", "(IIII)Z"⟩
abbrev cX5_holds : ByteArray := prog_7_method_17_code
def yX5_holds : MethodName := ⟨RX5, "holds", "(IIII)I"⟩
abbrev cX5_isFar : ByteArray := prog_7_method_18_code
def yX5_isFar : MethodName := ⟨RX5, "isFar", "(III)Z"⟩
abbrev cX5_disagreements : ByteArray := prog_7_method_19_code
def yX5_disagreements : MethodName := ⟨RX5, "disagreements", "(I)I"⟩
abbrev cX5_restated : ByteArray := prog_7_method_20_code
def yX5_restated : MethodName := ⟨RX5, "restated", "(I)I"⟩
abbrev cX5_isAsked : ByteArray := prog_7_method_21_code
def yX5_isAsked : MethodName := ⟨RX5, "isAsked", "(IIII)Z"⟩
abbrev cX5_value : ByteArray := prog_7_method_22_code
def yX5_value : MethodName := ⟨RX5, "value", "(IIII)I"⟩
abbrev cX5_doubt : ByteArray := prog_7_method_23_code
def yX5_doubt : MethodName := ⟨RX5, "doubt", "(IIII)I"⟩
abbrev cX5_sumOf : ByteArray := prog_7_method_24_code
def yX5_sumOf : MethodName := ⟨RX5, "sumOf", "(IIII)I"⟩
abbrev cX5_sum : ByteArray := prog_7_method_25_code
def yX5_sum : MethodName := ⟨RX5, "sum", "(IIII)I"⟩
abbrev cX5_derives : ByteArray := prog_7_method_26_code
def yX5_derives : MethodName := ⟨RX5, "derives", "(III)V"⟩
abbrev cX5_derived : ByteArray := prog_7_method_27_code
def yX5_derived : MethodName := ⟨RX5, "derived", "(IIII)I"⟩
abbrev cX5_isOffBySum : ByteArray := prog_7_method_28_code
def yX5_isOffBySum : MethodName := ⟨RX5, "isOffBySum", "(IIII)Z"⟩
abbrev cX5_isOffByMembers : ByteArray := prog_7_method_29_code
def yX5_isOffByMembers : MethodName := ⟨RX5, "isOffByMembers", "(III)Z"⟩
abbrev cX5_isOffByRoll : ByteArray := prog_7_method_30_code
def yX5_isOffByRoll : MethodName := ⟨RX5, "isOffByRoll", "(IIII)Z"⟩
abbrev cX5_isSumOff : ByteArray := prog_7_method_31_code
def yX5_isSumOff : MethodName := ⟨RX5, "isSumOff", "(IIII)Z"⟩
abbrev cX5_areMembersOff : ByteArray := prog_7_method_32_code
def yX5_areMembersOff : MethodName := ⟨RX5, "areMembersOff", "(III)Z"⟩
abbrev cX5_isRollOff : ByteArray := prog_7_method_33_code
def yX5_isRollOff : MethodName := ⟨RX5, "isRollOff", "(IIII)Z"⟩
abbrev cX5_allFaults : ByteArray := prog_7_method_34_code
def yX5_allFaults : MethodName := ⟨RX5, "allFaults", "(I)I"⟩
abbrev cX5_faults : ByteArray := prog_7_method_35_code
def yX5_faults : MethodName := ⟨RX5, "faults", "(I)I"⟩
abbrev cX5_faultsByList : ByteArray := prog_7_method_36_code
def yX5_faultsByList : MethodName := ⟨RX5, "faultsByList", "(I)I"⟩
def RJx145de : String := "java/io/Serializable"
def TJx145de : u_T := fun k => match k with
  | _ => ("", "", "", false)
def tyJx145de : Nat → FieldType := fun k => match k with
  | _ => .int
abbrev wsJx145de0 : List Cond := u_ws RJx145de TJx145de 0
theorem nmJx145de : ∀ a, a < 0 → ∀ b, b < 0 → a ≠ b → (TJx145de a).2.1 ≠ (TJx145de b).2.1 := by decide +kernel
theorem tyJx145de_ok : ∀ k, k < 0 → parseFieldDescriptor (TJx145de k).2.2.1 = some (tyJx145de k) := by decide +kernel
def RJ9 : String := "java/lang/Math"
def TJ9 : u_T := fun k => match k with
  | _ => ("", "", "", false)
def tyJ9 : Nat → FieldType := fun k => match k with
  | _ => .int
abbrev wsJ90 : List Cond := u_ws RJ9 TJ9 0
theorem nmJ9 : ∀ a, a < 0 → ∀ b, b < 0 → a ≠ b → (TJ9 a).2.1 ≠ (TJ9 b).2.1 := by decide +kernel
theorem tyJ9_ok : ∀ k, k < 0 → parseFieldDescriptor (TJ9 k).2.2.1 = some (tyJ9 k) := by decide +kernel
abbrev cJ9_abs_0f7a4 : ByteArray := prog_13_method_59_code
def yJ9_abs_0f7a4 : MethodName := ⟨RJ9, "abs", "(I)I"⟩
def RJ0 : String := "java/lang/String"
def TJ0 : u_T := fun k => match k with
  | _ => ("", "", "", false)
def tyJ0 : Nat → FieldType := fun k => match k with
  | _ => .int
abbrev wsJ00 : List Cond := u_ws RJ0 TJ0 0
theorem nmJ0 : ∀ a, a < 0 → ∀ b, b < 0 → a ≠ b → (TJ0 a).2.1 ≠ (TJ0 b).2.1 := by decide +kernel
theorem tyJ0_ok : ∀ k, k < 0 → parseFieldDescriptor (TJ0 k).2.2.1 = some (tyJ0 k) := by decide +kernel
def RL : String := "DimfactsLaw"
abbrev cL_addConcept : ByteArray := method_3_code
def yL_addConcept : MethodName := ⟨RL, "addConcept", "(LDimfacts;[J)I"⟩
abbrev cL_hang : ByteArray := method_4_code
def yL_hang : MethodName := ⟨RL, "hang", "(LDimfacts;IIZ[J)I"⟩
abbrev cL_unhang : ByteArray := method_5_code
def yL_unhang : MethodName := ⟨RL, "unhang", "(LDimfacts;I[J)I"⟩
abbrev cL_addRoll : ByteArray := method_6_code
def yL_addRoll : MethodName := ⟨RL, "addRoll", "(LDimfacts;II[J)I"⟩
abbrev cL_file : ByteArray := method_7_code
def yL_file : MethodName := ⟨RL, "file", "(LDimfacts;[J)I"⟩
abbrev cL_tell : ByteArray := method_8_code
def yL_tell : MethodName := ⟨RL, "tell", "(LDimfacts;IIIII[J)I"⟩
abbrev cL_disagreements : ByteArray := method_9_code
def yL_disagreements : MethodName := ⟨RL, "disagreements", "(LDimfacts;I[J)I"⟩
abbrev cL_restated : ByteArray := method_10_code
def yL_restated : MethodName := ⟨RL, "restated", "(LDimfacts;I[J)I"⟩
abbrev cL_value : ByteArray := method_11_code
def yL_value : MethodName := ⟨RL, "value", "(LDimfacts;IIII[J)I"⟩
abbrev cL_doubt : ByteArray := method_12_code
def yL_doubt : MethodName := ⟨RL, "doubt", "(LDimfacts;IIII[J)I"⟩
abbrev cL_sum : ByteArray := method_13_code
def yL_sum : MethodName := ⟨RL, "sum", "(LDimfacts;IIII[J)I"⟩
abbrev cL_derived : ByteArray := method_14_code
def yL_derived : MethodName := ⟨RL, "derived", "(LDimfacts;IIII[J)I"⟩
abbrev cL_isSumOff : ByteArray := method_15_code
def yL_isSumOff : MethodName := ⟨RL, "isSumOff", "(LDimfacts;IIII[J)I"⟩
abbrev cL_areMembersOff : ByteArray := method_16_code
def yL_areMembersOff : MethodName := ⟨RL, "areMembersOff", "(LDimfacts;III[J)I"⟩
abbrev cL_isRollOff : ByteArray := method_17_code
def yL_isRollOff : MethodName := ⟨RL, "isRollOff", "(LDimfacts;IIII[J)I"⟩
abbrev cL_faults : ByteArray := method_18_code
def yL_faults : MethodName := ⟨RL, "faults", "(LDimfacts;I[J)I"⟩
abbrev cL_faultsByList : ByteArray := method_19_code
def yL_faultsByList : MethodName := ⟨RL, "faultsByList", "(LDimfacts;I[J)I"⟩
abbrev cL_law : ByteArray := code
def yL_law : MethodName := ⟨RL, "law", "([I)Z"⟩
def wsX0_init : List Cond := .code yX0_init cX0_init 5 none :: ([.methodLink RX0 1 objectInit, .instanceMethod objectInit, .code objectInit ⟨#[0xb1]⟩ 1 none, .fieldLink RX0 7 "Dimfacts$Fact" "key" "I", .fieldLink RX0 13 "Dimfacts$Fact" "filing" "I", .fieldLink RX0 16 "Dimfacts$Fact" "value" "I", .fieldLink RX0 19 "Dimfacts$Fact" "doubt" "I"] ++ wsX00)
def wsX0_replaces : List Cond := .code yX0_replaces cX0_replaces 2 (some .boolean) :: ([.fieldLink RX0 13 "Dimfacts$Fact" "filing" "I", .fieldLink RX0 19 "Dimfacts$Fact" "doubt" "I"] ++ wsX00)
def wsX4_isApart : List Cond := .code yX4_isApart cX4_isApart 3 (some .boolean) :: ([.methodLink RX4 203 Lib.Math.abs.name, .static Lib.Math.abs.name, .initialized "java/lang/Math", .code Lib.Math.abs.name Lib.Math.abs.code 1 (some .int)])
def wsX0_disagreesWith : List Cond := .code yX0_disagreesWith cX0_disagreesWith 2 (some .boolean) :: ([.fieldLink RX0 13 "Dimfacts$Fact" "filing" "I", .fieldLink RX0 7 "Dimfacts$Fact" "key" "I", .fieldLink RX0 16 "Dimfacts$Fact" "value" "I", .fieldLink RX0 19 "Dimfacts$Fact" "doubt" "I", .static yX4_isApart, .initialized RX4, .code yX4_isApart cX4_isApart 3 (some .boolean), .methodLink RX4 203 Lib.Math.abs.name, .static Lib.Math.abs.name, .initialized "java/lang/Math", .code Lib.Math.abs.name Lib.Math.abs.code 1 (some .int)] ++ wsX00)
def wsX1_init : List Cond := .code yX1_init cX1_init 1 none :: ([.methodLink RX1 1 objectInit, .instanceMethod objectInit, .code objectInit ⟨#[0xb1]⟩ 1 none])
def wsX2_init : List Cond := .code yX2_init cX2_init 1 none :: ([.classLink RX2 9 RX0, .fieldLink RX2 11 "Dimfacts$KeyedFacts" "firsts" "[LDimfacts$Fact;", .instanceMethod yX1_init, .initialized RX1, .code yX1_init cX1_init 1 none, .methodLink RX1 1 objectInit, .instanceMethod objectInit, .code objectInit ⟨#[0xb1]⟩ 1 none] ++ wsX20)
def wsX2_keep : List Cond := .code yX2_keep cX2_keep 3 none :: ([.fieldLink RX2 11 "Dimfacts$KeyedFacts" "firsts" "[LDimfacts$Fact;", .fieldLink RX2 17 "Dimfacts$Fact" "key" "I", .fieldLink RX2 25 "Dimfacts$Fact" "next" "LDimfacts$Fact;", .methodLink RX2 21 yX0_replaces, .instanceMethod yX0_replaces, .selects RX0 yX0_replaces yX0_replaces, .initialized RX0, .code yX0_replaces cX0_replaces 2 (some .boolean), .fieldLink RX0 13 "Dimfacts$Fact" "filing" "I", .fieldLink RX0 19 "Dimfacts$Fact" "doubt" "I"] ++ wsX20 ++ wsX00)
def wsX2_holding : List Cond := .code yX2_holding cX2_holding 4 (some (.object "Dimfacts$Fact")) :: ([.fieldLink RX2 11 "Dimfacts$KeyedFacts" "firsts" "[LDimfacts$Fact;", .fieldLink RX2 29 "Dimfacts$Fact" "filing" "I", .fieldLink RX2 25 "Dimfacts$Fact" "next" "LDimfacts$Fact;"] ++ wsX20 ++ wsX00)
def wsX3_init : List Cond := .code yX3_init cX3_init 1 none :: ([.classLink RX3 9 RX0, .fieldLink RX3 11 "Dimfacts$ListedFacts" "facts" "[LDimfacts$Fact;", .instanceMethod yX1_init, .initialized RX1, .code yX1_init cX1_init 1 none, .methodLink RX1 1 objectInit, .instanceMethod objectInit, .code objectInit ⟨#[0xb1]⟩ 1 none] ++ wsX30)
def wsX3_isFull : List Cond := .code yX3_isFull cX3_isFull 1 (some .boolean) :: ([.fieldLink RX3 17 "Dimfacts$ListedFacts" "count" "I"] ++ wsX30)
def wsX3_keep : List Cond := .code yX3_keep cX3_keep 2 none :: ([.fieldLink RX3 17 "Dimfacts$ListedFacts" "count" "I", .fieldLink RX3 11 "Dimfacts$ListedFacts" "facts" "[LDimfacts$Fact;"] ++ wsX30)
def wsX3_holding : List Cond := .code yX3_holding cX3_holding 6 (some (.object "Dimfacts$Fact")) :: ([.fieldLink RX3 17 "Dimfacts$ListedFacts" "count" "I", .fieldLink RX3 11 "Dimfacts$ListedFacts" "facts" "[LDimfacts$Fact;", .fieldLink RX3 21 "Dimfacts$Fact" "key" "I", .fieldLink RX3 24 "Dimfacts$Fact" "filing" "I", .methodLink RX3 27 yX0_replaces, .instanceMethod yX0_replaces, .selects RX0 yX0_replaces yX0_replaces, .initialized RX0, .code yX0_replaces cX0_replaces 2 (some .boolean), .fieldLink RX0 13 "Dimfacts$Fact" "filing" "I", .fieldLink RX0 19 "Dimfacts$Fact" "doubt" "I"] ++ wsX30 ++ wsX00)
def wsX3_countAgainst : List Cond := .code yX3_countAgainst cX3_countAgainst 6 (some .int) :: ([.fieldLink RX3 11 "Dimfacts$ListedFacts" "facts" "[LDimfacts$Fact;", .methodLink RX3 31 yX0_disagreesWith, .instanceMethod yX0_disagreesWith, .selects RX0 yX0_disagreesWith yX0_disagreesWith, .initialized RX0, .code yX0_disagreesWith cX0_disagreesWith 2 (some .boolean), .fieldLink RX0 13 "Dimfacts$Fact" "filing" "I", .fieldLink RX0 7 "Dimfacts$Fact" "key" "I", .fieldLink RX0 16 "Dimfacts$Fact" "value" "I", .fieldLink RX0 19 "Dimfacts$Fact" "doubt" "I", .static yX4_isApart, .initialized RX4, .code yX4_isApart cX4_isApart 3 (some .boolean), .methodLink RX4 203 Lib.Math.abs.name, .static Lib.Math.abs.name, .initialized "java/lang/Math", .code Lib.Math.abs.name Lib.Math.abs.code 1 (some .int)] ++ wsX30 ++ wsX00)
def wsX4_init_r1 : List Cond := [Cond.methodLink RX4 3 objectInit, Cond.instanceMethod objectInit, Cond.code objectInit ⟨#[0xb1]⟩ 1 none, Cond.arrayClass .int, Cond.fieldLink RX4 9 "Dimfacts" "parents" "[I", Cond.fieldLink RX4 13 "Dimfacts" "weights" "[I", Cond.fieldLink RX4 16 "Dimfacts" "stocks" "[I", Cond.fieldLink RX4 19 "Dimfacts" "flows" "[I", Cond.classLink RX4 22 RX3, Cond.instantiable RX3 2, Cond.initialized RX3, Cond.fieldLink RX4 25 "Dimfacts" "listed" "LDimfacts$ListedFacts;", Cond.classLink RX4 29 RX2, Cond.instantiable RX2 1, Cond.initialized RX2, Cond.fieldLink RX4 32 "Dimfacts" "keyed" "LDimfacts$KeyedFacts;", Cond.fieldLink RX4 36 "Dimfacts" "reached" "[I", Cond.fieldLink RX4 39 "Dimfacts" "signs" "[I", Cond.instanceMethod yX3_init, Cond.code yX3_init cX3_init 1 none, Cond.classLink RX3 9 RX0, Cond.fieldLink RX3 11 "Dimfacts$ListedFacts" "facts" "[LDimfacts$Fact;", Cond.instanceMethod yX1_init, Cond.initialized RX1]
def wsX4_init_r2 : List Cond := [Cond.code yX1_init cX1_init 1 none, Cond.methodLink RX1 1 objectInit, Cond.instanceMethod yX2_init, Cond.code yX2_init cX2_init 1 none, Cond.classLink RX2 9 RX0, Cond.fieldLink RX2 11 "Dimfacts$KeyedFacts" "firsts" "[LDimfacts$Fact;"]
def wsX4_init : List Cond := .code yX4_init cX4_init 1 none :: ((wsX4_init_r1 ++ wsX4_init_r2) ++ wsX40 ++ wsX30 ++ wsX20)
def wsX4_addConcept : List Cond := .code yX4_addConcept cX4_addConcept 2 (some .int) :: ([.classLink RX4 46 "java/lang/IllegalStateException", .initialized "java/lang/IllegalStateException", .fieldLink RX4 42 "Dimfacts" "conceptCount" "I", .fieldLink RX4 9 "Dimfacts" "parents" "[I"] ++ wsX40 ++ (vx_atS RX4 50 "java/lang/IllegalStateException" ["java/lang/RuntimeException", "java/lang/Exception"]).filter goodWord)
def wsX4_checkConcept : List Cond := .code yX4_checkConcept cX4_checkConcept 2 none :: ([.classLink RX4 166 "java/lang/IndexOutOfBoundsException", .initialized "java/lang/IndexOutOfBoundsException", .fieldLink RX4 42 "Dimfacts" "conceptCount" "I"] ++ wsX40 ++ (vx_atS RX4 170 "java/lang/IndexOutOfBoundsException" ["java/lang/RuntimeException", "java/lang/Exception"]).filter goodWord)
def wsX4_isAtOrUnder : List Cond := .code yX4_isAtOrUnder cX4_isAtOrUnder 5 (some .boolean) :: ([.fieldLink RX4 9 "Dimfacts" "parents" "[I"] ++ wsX40)
def wsX4_hang : List Cond := .code yX4_hang cX4_hang 5 (some .int) :: ([.classLink RX4 61 "java/lang/IllegalArgumentException", .initialized "java/lang/IllegalArgumentException", .fieldLink RX4 9 "Dimfacts" "parents" "[I", .fieldLink RX4 13 "Dimfacts" "weights" "[I", .methodLink RX4 53 yX4_checkConcept, .instanceMethod yX4_checkConcept, .selects RX4 yX4_checkConcept yX4_checkConcept, .initialized RX4, .code yX4_checkConcept cX4_checkConcept 2 none, .classLink RX4 166 "java/lang/IndexOutOfBoundsException", .initialized "java/lang/IndexOutOfBoundsException", .fieldLink RX4 42 "Dimfacts" "conceptCount" "I", .methodLink RX4 57 yX4_isAtOrUnder, .instanceMethod yX4_isAtOrUnder, .selects RX4 yX4_isAtOrUnder yX4_isAtOrUnder, .code yX4_isAtOrUnder cX4_isAtOrUnder 5 (some .boolean)] ++ wsX40 ++ (vx_atS RX4 65 "java/lang/IllegalArgumentException" ["java/lang/RuntimeException", "java/lang/Exception"]).filter goodWord ++ (vx_atS RX4 170 "java/lang/IndexOutOfBoundsException" ["java/lang/RuntimeException", "java/lang/Exception"]).filter goodWord)
def wsX4_unhang : List Cond := .code yX4_unhang cX4_unhang 3 (some .int) :: ([.fieldLink RX4 9 "Dimfacts" "parents" "[I", .methodLink RX4 53 yX4_checkConcept, .instanceMethod yX4_checkConcept, .selects RX4 yX4_checkConcept yX4_checkConcept, .initialized RX4, .code yX4_checkConcept cX4_checkConcept 2 none, .classLink RX4 166 "java/lang/IndexOutOfBoundsException", .initialized "java/lang/IndexOutOfBoundsException", .fieldLink RX4 42 "Dimfacts" "conceptCount" "I"] ++ wsX40 ++ (vx_atS RX4 170 "java/lang/IndexOutOfBoundsException" ["java/lang/RuntimeException", "java/lang/Exception"]).filter goodWord)
def wsX4_addRoll : List Cond := .code yX4_addRoll cX4_addRoll 4 (some .int) :: ([.classLink RX4 61 "java/lang/IllegalArgumentException", .initialized "java/lang/IllegalArgumentException", .classLink RX4 46 "java/lang/IllegalStateException", .initialized "java/lang/IllegalStateException", .fieldLink RX4 68 "Dimfacts" "ruleCount" "I", .fieldLink RX4 16 "Dimfacts" "stocks" "[I", .fieldLink RX4 19 "Dimfacts" "flows" "[I", .methodLink RX4 53 yX4_checkConcept, .instanceMethod yX4_checkConcept, .selects RX4 yX4_checkConcept yX4_checkConcept, .initialized RX4, .code yX4_checkConcept cX4_checkConcept 2 none, .classLink RX4 166 "java/lang/IndexOutOfBoundsException", .initialized "java/lang/IndexOutOfBoundsException", .fieldLink RX4 42 "Dimfacts" "conceptCount" "I"] ++ wsX40 ++ (vx_atS RX4 65 "java/lang/IllegalArgumentException" ["java/lang/RuntimeException", "java/lang/Exception"]).filter goodWord ++ (vx_atS RX4 50 "java/lang/IllegalStateException" ["java/lang/RuntimeException", "java/lang/Exception"]).filter goodWord ++ (vx_atS RX4 170 "java/lang/IndexOutOfBoundsException" ["java/lang/RuntimeException", "java/lang/Exception"]).filter goodWord)
def wsX4_file : List Cond := .code yX4_file cX4_file 1 (some .int) :: ([.classLink RX4 46 "java/lang/IllegalStateException", .initialized "java/lang/IllegalStateException", .fieldLink RX4 73 "Dimfacts" "latest" "I"] ++ wsX40 ++ (vx_atS RX4 50 "java/lang/IllegalStateException" ["java/lang/RuntimeException", "java/lang/Exception"]).filter goodWord)
def wsX4_checkPeriodAndMember : List Cond := .code yX4_checkPeriodAndMember cX4_checkPeriodAndMember 2 none :: ([.classLink RX4 166 "java/lang/IndexOutOfBoundsException", .initialized "java/lang/IndexOutOfBoundsException"] ++ (vx_atS RX4 170 "java/lang/IndexOutOfBoundsException" ["java/lang/RuntimeException", "java/lang/Exception"]).filter goodWord)
def wsX4_checkKey : List Cond := .code yX4_checkKey cX4_checkKey 4 none :: ([.methodLink RX4 53 yX4_checkConcept, .instanceMethod yX4_checkConcept, .selects RX4 yX4_checkConcept yX4_checkConcept, .initialized RX4, .code yX4_checkConcept cX4_checkConcept 2 none, .classLink RX4 166 "java/lang/IndexOutOfBoundsException", .initialized "java/lang/IndexOutOfBoundsException", .fieldLink RX4 42 "Dimfacts" "conceptCount" "I", .methodLink RX4 171 yX4_checkPeriodAndMember, .static yX4_checkPeriodAndMember, .code yX4_checkPeriodAndMember cX4_checkPeriodAndMember 2 none] ++ wsX40 ++ (vx_atS RX4 170 "java/lang/IndexOutOfBoundsException" ["java/lang/RuntimeException", "java/lang/Exception"]).filter goodWord)
def wsX4_keyOf : List Cond := .code yX4_keyOf cX4_keyOf 3 (some .int) :: ([])
def wsX4_tell_r1 : List Cond := [Cond.classLink RX4 61 "java/lang/IllegalArgumentException", Cond.initialized "java/lang/IllegalArgumentException", Cond.classLink RX4 46 "java/lang/IllegalStateException", Cond.initialized "java/lang/IllegalStateException", Cond.constant RX4 82 (-1000000), Cond.constant RX4 83 (1000000), Cond.fieldLink RX4 25 "Dimfacts" "listed" "LDimfacts$ListedFacts;", Cond.classLink RX4 94 RX0, Cond.instantiable RX0 5, Cond.initialized RX0, Cond.fieldLink RX4 73 "Dimfacts" "latest" "I", Cond.fieldLink RX4 100 "Dimfacts" "DOUBTS" "[I", Cond.fieldLink RX4 32 "Dimfacts" "keyed" "LDimfacts$KeyedFacts;", Cond.fieldLink RX4 111 "Dimfacts$ListedFacts" "count" "I", Cond.methodLink RX4 78 yX4_checkKey, Cond.instanceMethod yX4_checkKey, Cond.selects RX4 yX4_checkKey yX4_checkKey, Cond.initialized RX4, Cond.code yX4_checkKey cX4_checkKey 4 none, Cond.methodLink RX4 53 yX4_checkConcept, Cond.instanceMethod yX4_checkConcept, Cond.selects RX4 yX4_checkConcept yX4_checkConcept, Cond.code yX4_checkConcept cX4_checkConcept 2 none, Cond.classLink RX4 166 "java/lang/IndexOutOfBoundsException"]
def wsX4_tell_r2 : List Cond := [Cond.initialized "java/lang/IndexOutOfBoundsException", Cond.fieldLink RX4 42 "Dimfacts" "conceptCount" "I", Cond.methodLink RX4 171 yX4_checkPeriodAndMember, Cond.static yX4_checkPeriodAndMember, Cond.code yX4_checkPeriodAndMember cX4_checkPeriodAndMember 2 none, Cond.methodLink RX4 88 yX3_isFull, Cond.instanceMethod yX3_isFull, Cond.selects RX3 yX3_isFull yX3_isFull, Cond.initialized RX3, Cond.code yX3_isFull cX3_isFull 1 (some .boolean), Cond.fieldLink RX3 17 "Dimfacts$ListedFacts" "count" "I", Cond.methodLink RX4 96 yX4_keyOf, Cond.static yX4_keyOf, Cond.code yX4_keyOf cX4_keyOf 3 (some .int), Cond.methodLink RX4 103 yX0_init, Cond.instanceMethod yX0_init, Cond.code yX0_init cX0_init 5 none, Cond.methodLink RX0 1 objectInit, Cond.instanceMethod objectInit, Cond.code objectInit ⟨#[0xb1]⟩ 1 none, Cond.fieldLink RX0 7 "Dimfacts$Fact" "key" "I", Cond.fieldLink RX0 13 "Dimfacts$Fact" "filing" "I", Cond.fieldLink RX0 16 "Dimfacts$Fact" "value" "I", Cond.fieldLink RX0 19 "Dimfacts$Fact" "doubt" "I"]
def wsX4_tell_r3 : List Cond := [Cond.methodLink RX4 106 yX3_keep, Cond.instanceMethod yX3_keep, Cond.selects RX3 yX3_keep yX3_keep, Cond.code yX3_keep cX3_keep 2 none, Cond.fieldLink RX3 11 "Dimfacts$ListedFacts" "facts" "[LDimfacts$Fact;", Cond.methodLink RX4 110 yX2_keep, Cond.instanceMethod yX2_keep, Cond.selects RX2 yX2_keep yX2_keep, Cond.initialized RX2, Cond.code yX2_keep cX2_keep 3 none, Cond.fieldLink RX2 11 "Dimfacts$KeyedFacts" "firsts" "[LDimfacts$Fact;", Cond.fieldLink RX2 17 "Dimfacts$Fact" "key" "I", Cond.fieldLink RX2 25 "Dimfacts$Fact" "next" "LDimfacts$Fact;", Cond.methodLink RX2 21 yX0_replaces, Cond.instanceMethod yX0_replaces, Cond.selects RX0 yX0_replaces yX0_replaces, Cond.code yX0_replaces cX0_replaces 2 (some .boolean)]
def wsX4_tell : List Cond := .code yX4_tell cX4_tell 7 (some .int) :: ((wsX4_tell_r1 ++ (wsX4_tell_r2 ++ wsX4_tell_r3)) ++ wsX40 ++ wsX00 ++ wsX30 ++ wsX20 ++ (vx_atS RX4 65 "java/lang/IllegalArgumentException" ["java/lang/RuntimeException", "java/lang/Exception"]).filter goodWord ++ (vx_atS RX4 50 "java/lang/IllegalStateException" ["java/lang/RuntimeException", "java/lang/Exception"]).filter goodWord ++ (vx_atS RX4 170 "java/lang/IndexOutOfBoundsException" ["java/lang/RuntimeException", "java/lang/Exception"]).filter goodWord)
def wsX4_checkFiling : List Cond := .code yX4_checkFiling cX4_checkFiling 2 none :: ([.classLink RX4 166 "java/lang/IndexOutOfBoundsException", .initialized "java/lang/IndexOutOfBoundsException", .fieldLink RX4 73 "Dimfacts" "latest" "I"] ++ wsX40 ++ (vx_atS RX4 170 "java/lang/IndexOutOfBoundsException" ["java/lang/RuntimeException", "java/lang/Exception"]).filter goodWord)
def wsX4_disagreements_r1 : List Cond := [Cond.fieldLink RX4 25 "Dimfacts" "listed" "LDimfacts$ListedFacts;", Cond.fieldLink RX4 111 "Dimfacts$ListedFacts" "count" "I", Cond.fieldLink RX4 117 "Dimfacts$ListedFacts" "facts" "[LDimfacts$Fact;", Cond.fieldLink RX4 121 "Dimfacts$Fact" "filing" "I", Cond.methodLink RX4 114 yX4_checkFiling, Cond.instanceMethod yX4_checkFiling, Cond.selects RX4 yX4_checkFiling yX4_checkFiling, Cond.initialized RX4, Cond.code yX4_checkFiling cX4_checkFiling 2 none, Cond.classLink RX4 166 "java/lang/IndexOutOfBoundsException", Cond.initialized "java/lang/IndexOutOfBoundsException", Cond.fieldLink RX4 73 "Dimfacts" "latest" "I", Cond.methodLink RX4 124 yX3_countAgainst, Cond.instanceMethod yX3_countAgainst, Cond.selects RX3 yX3_countAgainst yX3_countAgainst, Cond.initialized RX3, Cond.code yX3_countAgainst cX3_countAgainst 6 (some .int), Cond.fieldLink RX3 11 "Dimfacts$ListedFacts" "facts" "[LDimfacts$Fact;", Cond.methodLink RX3 31 yX0_disagreesWith, Cond.instanceMethod yX0_disagreesWith, Cond.selects RX0 yX0_disagreesWith yX0_disagreesWith, Cond.initialized RX0, Cond.code yX0_disagreesWith cX0_disagreesWith 2 (some .boolean), Cond.fieldLink RX0 13 "Dimfacts$Fact" "filing" "I"]
def wsX4_disagreements_r2 : List Cond := [Cond.fieldLink RX0 7 "Dimfacts$Fact" "key" "I", Cond.fieldLink RX0 16 "Dimfacts$Fact" "value" "I", Cond.fieldLink RX0 19 "Dimfacts$Fact" "doubt" "I", Cond.static yX4_isApart, Cond.code yX4_isApart cX4_isApart 3 (some .boolean), Cond.methodLink RX4 203 Lib.Math.abs.name, Cond.static Lib.Math.abs.name, Cond.initialized "java/lang/Math", Cond.code Lib.Math.abs.name Lib.Math.abs.code 1 (some .int)]
def wsX4_disagreements : List Cond := .code yX4_disagreements cX4_disagreements 5 (some .int) :: ((wsX4_disagreements_r1 ++ wsX4_disagreements_r2) ++ wsX40 ++ wsX30 ++ wsX00 ++ (vx_atS RX4 170 "java/lang/IndexOutOfBoundsException" ["java/lang/RuntimeException", "java/lang/Exception"]).filter goodWord)
def wsX4_isRestated : List Cond := .code yX4_isRestated cX4_isRestated 5 (some .boolean) :: ([.fieldLink RX4 32 "Dimfacts" "keyed" "LDimfacts$KeyedFacts;", .fieldLink RX4 121 "Dimfacts$Fact" "filing" "I", .fieldLink RX4 135 "Dimfacts$Fact" "value" "I", .methodLink RX4 145 yX2_holding, .instanceMethod yX2_holding, .selects RX2 yX2_holding yX2_holding, .initialized RX2, .code yX2_holding cX2_holding 4 (some (.object "Dimfacts$Fact")), .fieldLink RX2 11 "Dimfacts$KeyedFacts" "firsts" "[LDimfacts$Fact;", .fieldLink RX2 29 "Dimfacts$Fact" "filing" "I", .fieldLink RX2 25 "Dimfacts$Fact" "next" "LDimfacts$Fact;"] ++ wsX40 ++ wsX00 ++ wsX20)
def wsX4_restated : List Cond := .code yX4_restated cX4_restated 4 (some .int) :: ([.fieldLink RX4 42 "Dimfacts" "conceptCount" "I", .methodLink RX4 114 yX4_checkFiling, .instanceMethod yX4_checkFiling, .selects RX4 yX4_checkFiling yX4_checkFiling, .initialized RX4, .code yX4_checkFiling cX4_checkFiling 2 none, .classLink RX4 166 "java/lang/IndexOutOfBoundsException", .initialized "java/lang/IndexOutOfBoundsException", .fieldLink RX4 73 "Dimfacts" "latest" "I", .methodLink RX4 128 yX4_isRestated, .instanceMethod yX4_isRestated, .selects RX4 yX4_isRestated yX4_isRestated, .code yX4_isRestated cX4_isRestated 5 (some .boolean), .fieldLink RX4 32 "Dimfacts" "keyed" "LDimfacts$KeyedFacts;", .fieldLink RX4 121 "Dimfacts$Fact" "filing" "I", .fieldLink RX4 135 "Dimfacts$Fact" "value" "I", .methodLink RX4 145 yX2_holding, .instanceMethod yX2_holding, .selects RX2 yX2_holding yX2_holding, .initialized RX2, .code yX2_holding cX2_holding 4 (some (.object "Dimfacts$Fact")), .fieldLink RX2 11 "Dimfacts$KeyedFacts" "firsts" "[LDimfacts$Fact;", .fieldLink RX2 29 "Dimfacts$Fact" "filing" "I", .fieldLink RX2 25 "Dimfacts$Fact" "next" "LDimfacts$Fact;"] ++ wsX40 ++ wsX00 ++ wsX20 ++ (vx_atS RX4 170 "java/lang/IndexOutOfBoundsException" ["java/lang/RuntimeException", "java/lang/Exception"]).filter goodWord)
def wsX4_heldFact_r1 : List Cond := [Cond.classLink RX4 153 "java/util/NoSuchElementException", Cond.initialized "java/util/NoSuchElementException", Cond.fieldLink RX4 32 "Dimfacts" "keyed" "LDimfacts$KeyedFacts;", Cond.methodLink RX4 78 yX4_checkKey, Cond.instanceMethod yX4_checkKey, Cond.selects RX4 yX4_checkKey yX4_checkKey, Cond.initialized RX4, Cond.code yX4_checkKey cX4_checkKey 4 none, Cond.methodLink RX4 53 yX4_checkConcept, Cond.instanceMethod yX4_checkConcept, Cond.selects RX4 yX4_checkConcept yX4_checkConcept, Cond.code yX4_checkConcept cX4_checkConcept 2 none, Cond.classLink RX4 166 "java/lang/IndexOutOfBoundsException", Cond.initialized "java/lang/IndexOutOfBoundsException", Cond.fieldLink RX4 42 "Dimfacts" "conceptCount" "I", Cond.methodLink RX4 171 yX4_checkPeriodAndMember, Cond.static yX4_checkPeriodAndMember, Cond.code yX4_checkPeriodAndMember cX4_checkPeriodAndMember 2 none, Cond.methodLink RX4 114 yX4_checkFiling, Cond.instanceMethod yX4_checkFiling, Cond.selects RX4 yX4_checkFiling yX4_checkFiling, Cond.code yX4_checkFiling cX4_checkFiling 2 none, Cond.fieldLink RX4 73 "Dimfacts" "latest" "I", Cond.methodLink RX4 96 yX4_keyOf]
def wsX4_heldFact_r2 : List Cond := [Cond.static yX4_keyOf, Cond.code yX4_keyOf cX4_keyOf 3 (some .int), Cond.methodLink RX4 145 yX2_holding, Cond.instanceMethod yX2_holding, Cond.selects RX2 yX2_holding yX2_holding, Cond.initialized RX2, Cond.code yX2_holding cX2_holding 4 (some (.object "Dimfacts$Fact")), Cond.fieldLink RX2 11 "Dimfacts$KeyedFacts" "firsts" "[LDimfacts$Fact;", Cond.fieldLink RX2 29 "Dimfacts$Fact" "filing" "I", Cond.fieldLink RX2 25 "Dimfacts$Fact" "next" "LDimfacts$Fact;"]
def wsX4_heldFact : List Cond := .code yX4_heldFact cX4_heldFact 6 (some (.object "Dimfacts$Fact")) :: ((wsX4_heldFact_r1 ++ wsX4_heldFact_r2) ++ wsX40 ++ wsX20 ++ wsX00 ++ (nx_at RX4 157).filter goodWord ++ (vx_atS RX4 170 "java/lang/IndexOutOfBoundsException" ["java/lang/RuntimeException", "java/lang/Exception"]).filter goodWord)
def wsX4_value_r1 : List Cond := [Cond.fieldLink RX4 135 "Dimfacts$Fact" "value" "I", Cond.methodLink RX4 131 yX4_heldFact, Cond.instanceMethod yX4_heldFact, Cond.selects RX4 yX4_heldFact yX4_heldFact, Cond.initialized RX4, Cond.code yX4_heldFact cX4_heldFact 6 (some (.object "Dimfacts$Fact")), Cond.classLink RX4 153 "java/util/NoSuchElementException", Cond.initialized "java/util/NoSuchElementException", Cond.fieldLink RX4 32 "Dimfacts" "keyed" "LDimfacts$KeyedFacts;", Cond.methodLink RX4 78 yX4_checkKey, Cond.instanceMethod yX4_checkKey, Cond.selects RX4 yX4_checkKey yX4_checkKey, Cond.code yX4_checkKey cX4_checkKey 4 none, Cond.methodLink RX4 53 yX4_checkConcept, Cond.instanceMethod yX4_checkConcept, Cond.selects RX4 yX4_checkConcept yX4_checkConcept, Cond.code yX4_checkConcept cX4_checkConcept 2 none, Cond.classLink RX4 166 "java/lang/IndexOutOfBoundsException", Cond.initialized "java/lang/IndexOutOfBoundsException", Cond.fieldLink RX4 42 "Dimfacts" "conceptCount" "I", Cond.methodLink RX4 171 yX4_checkPeriodAndMember, Cond.static yX4_checkPeriodAndMember, Cond.code yX4_checkPeriodAndMember cX4_checkPeriodAndMember 2 none, Cond.methodLink RX4 114 yX4_checkFiling]
def wsX4_value_r2 : List Cond := [Cond.instanceMethod yX4_checkFiling, Cond.selects RX4 yX4_checkFiling yX4_checkFiling, Cond.code yX4_checkFiling cX4_checkFiling 2 none, Cond.fieldLink RX4 73 "Dimfacts" "latest" "I", Cond.methodLink RX4 96 yX4_keyOf, Cond.static yX4_keyOf, Cond.code yX4_keyOf cX4_keyOf 3 (some .int), Cond.methodLink RX4 145 yX2_holding, Cond.instanceMethod yX2_holding, Cond.selects RX2 yX2_holding yX2_holding, Cond.initialized RX2, Cond.code yX2_holding cX2_holding 4 (some (.object "Dimfacts$Fact")), Cond.fieldLink RX2 11 "Dimfacts$KeyedFacts" "firsts" "[LDimfacts$Fact;", Cond.fieldLink RX2 29 "Dimfacts$Fact" "filing" "I", Cond.fieldLink RX2 25 "Dimfacts$Fact" "next" "LDimfacts$Fact;"]
def wsX4_value : List Cond := .code yX4_value cX4_value 5 (some .int) :: ((wsX4_value_r1 ++ wsX4_value_r2) ++ wsX00 ++ wsX40 ++ wsX20 ++ (nx_at RX4 157).filter goodWord ++ (vx_atS RX4 170 "java/lang/IndexOutOfBoundsException" ["java/lang/RuntimeException", "java/lang/Exception"]).filter goodWord)
def wsX4_doubt_r1 : List Cond := [Cond.fieldLink RX4 138 "Dimfacts$Fact" "doubt" "I", Cond.methodLink RX4 131 yX4_heldFact, Cond.instanceMethod yX4_heldFact, Cond.selects RX4 yX4_heldFact yX4_heldFact, Cond.initialized RX4, Cond.code yX4_heldFact cX4_heldFact 6 (some (.object "Dimfacts$Fact")), Cond.classLink RX4 153 "java/util/NoSuchElementException", Cond.initialized "java/util/NoSuchElementException", Cond.fieldLink RX4 32 "Dimfacts" "keyed" "LDimfacts$KeyedFacts;", Cond.methodLink RX4 78 yX4_checkKey, Cond.instanceMethod yX4_checkKey, Cond.selects RX4 yX4_checkKey yX4_checkKey, Cond.code yX4_checkKey cX4_checkKey 4 none, Cond.methodLink RX4 53 yX4_checkConcept, Cond.instanceMethod yX4_checkConcept, Cond.selects RX4 yX4_checkConcept yX4_checkConcept, Cond.code yX4_checkConcept cX4_checkConcept 2 none, Cond.classLink RX4 166 "java/lang/IndexOutOfBoundsException", Cond.initialized "java/lang/IndexOutOfBoundsException", Cond.fieldLink RX4 42 "Dimfacts" "conceptCount" "I", Cond.methodLink RX4 171 yX4_checkPeriodAndMember, Cond.static yX4_checkPeriodAndMember, Cond.code yX4_checkPeriodAndMember cX4_checkPeriodAndMember 2 none, Cond.methodLink RX4 114 yX4_checkFiling]
def wsX4_doubt_r2 : List Cond := [Cond.instanceMethod yX4_checkFiling, Cond.selects RX4 yX4_checkFiling yX4_checkFiling, Cond.code yX4_checkFiling cX4_checkFiling 2 none, Cond.fieldLink RX4 73 "Dimfacts" "latest" "I", Cond.methodLink RX4 96 yX4_keyOf, Cond.static yX4_keyOf, Cond.code yX4_keyOf cX4_keyOf 3 (some .int), Cond.methodLink RX4 145 yX2_holding, Cond.instanceMethod yX2_holding, Cond.selects RX2 yX2_holding yX2_holding, Cond.initialized RX2, Cond.code yX2_holding cX2_holding 4 (some (.object "Dimfacts$Fact")), Cond.fieldLink RX2 11 "Dimfacts$KeyedFacts" "firsts" "[LDimfacts$Fact;", Cond.fieldLink RX2 29 "Dimfacts$Fact" "filing" "I", Cond.fieldLink RX2 25 "Dimfacts$Fact" "next" "LDimfacts$Fact;"]
def wsX4_doubt : List Cond := .code yX4_doubt cX4_doubt 5 (some .int) :: ((wsX4_doubt_r1 ++ wsX4_doubt_r2) ++ wsX00 ++ wsX40 ++ wsX20 ++ (nx_at RX4 157).filter goodWord ++ (vx_atS RX4 170 "java/lang/IndexOutOfBoundsException" ["java/lang/RuntimeException", "java/lang/Exception"]).filter goodWord)
def wsX4_partHolding_r1 : List Cond := [Cond.fieldLink RX4 9 "Dimfacts" "parents" "[I", Cond.methodLink RX4 196 ⟨"Dimfacts$FactStore", "holding", "(II)LDimfacts$Fact;"⟩, Cond.sameMethod "Dimfacts$FactStore" "Dimfacts$FactStore" "holding" "(II)LDimfacts$Fact;", Cond.selects RX2 ⟨"Dimfacts$FactStore", "holding", "(II)LDimfacts$Fact;"⟩ yX2_holding, Cond.instanceMethod yX2_holding, Cond.initialized RX2, Cond.code yX2_holding cX2_holding 4 (some (.object "Dimfacts$Fact")), Cond.fieldLink RX2 11 "Dimfacts$KeyedFacts" "firsts" "[LDimfacts$Fact;", Cond.fieldLink RX2 29 "Dimfacts$Fact" "filing" "I", Cond.fieldLink RX2 25 "Dimfacts$Fact" "next" "LDimfacts$Fact;", Cond.selects RX3 ⟨"Dimfacts$FactStore", "holding", "(II)LDimfacts$Fact;"⟩ yX3_holding, Cond.instanceMethod yX3_holding, Cond.initialized RX3, Cond.code yX3_holding cX3_holding 6 (some (.object "Dimfacts$Fact")), Cond.fieldLink RX3 17 "Dimfacts$ListedFacts" "count" "I", Cond.fieldLink RX3 11 "Dimfacts$ListedFacts" "facts" "[LDimfacts$Fact;", Cond.fieldLink RX3 21 "Dimfacts$Fact" "key" "I", Cond.fieldLink RX3 24 "Dimfacts$Fact" "filing" "I", Cond.methodLink RX3 27 yX0_replaces, Cond.instanceMethod yX0_replaces, Cond.selects RX0 yX0_replaces yX0_replaces, Cond.initialized RX0, Cond.code yX0_replaces cX0_replaces 2 (some .boolean), Cond.fieldLink RX0 13 "Dimfacts$Fact" "filing" "I"]
def wsX4_partHolding_r2 : List Cond := [Cond.fieldLink RX0 19 "Dimfacts$Fact" "doubt" "I"]
def wsX4_partHolding : List Cond := .code yX4_partHolding cX4_partHolding 6 (some (.object "Dimfacts$Fact")) :: ((wsX4_partHolding_r1 ++ wsX4_partHolding_r2) ++ wsX40 ++ wsX20 ++ wsX00 ++ wsX30)
def wsX4_sum_r1 : List Cond := [Cond.fieldLink RX4 42 "Dimfacts" "conceptCount" "I", Cond.fieldLink RX4 32 "Dimfacts" "keyed" "LDimfacts$KeyedFacts;", Cond.fieldLink RX4 13 "Dimfacts" "weights" "[I", Cond.fieldLink RX4 135 "Dimfacts$Fact" "value" "I", Cond.methodLink RX4 78 yX4_checkKey, Cond.instanceMethod yX4_checkKey, Cond.selects RX4 yX4_checkKey yX4_checkKey, Cond.initialized RX4, Cond.code yX4_checkKey cX4_checkKey 4 none, Cond.methodLink RX4 53 yX4_checkConcept, Cond.instanceMethod yX4_checkConcept, Cond.selects RX4 yX4_checkConcept yX4_checkConcept, Cond.code yX4_checkConcept cX4_checkConcept 2 none, Cond.classLink RX4 166 "java/lang/IndexOutOfBoundsException", Cond.initialized "java/lang/IndexOutOfBoundsException", Cond.methodLink RX4 171 yX4_checkPeriodAndMember, Cond.static yX4_checkPeriodAndMember, Cond.code yX4_checkPeriodAndMember cX4_checkPeriodAndMember 2 none, Cond.methodLink RX4 114 yX4_checkFiling, Cond.instanceMethod yX4_checkFiling, Cond.selects RX4 yX4_checkFiling yX4_checkFiling, Cond.code yX4_checkFiling cX4_checkFiling 2 none, Cond.fieldLink RX4 73 "Dimfacts" "latest" "I", Cond.methodLink RX4 96 yX4_keyOf]
def wsX4_sum_r2 : List Cond := [Cond.static yX4_keyOf, Cond.code yX4_keyOf cX4_keyOf 3 (some .int), Cond.methodLink RX4 141 yX4_partHolding, Cond.instanceMethod yX4_partHolding, Cond.selects RX4 yX4_partHolding yX4_partHolding, Cond.code yX4_partHolding cX4_partHolding 6 (some (.object "Dimfacts$Fact")), Cond.fieldLink RX4 9 "Dimfacts" "parents" "[I", Cond.methodLink RX4 196 ⟨"Dimfacts$FactStore", "holding", "(II)LDimfacts$Fact;"⟩, Cond.sameMethod "Dimfacts$FactStore" "Dimfacts$FactStore" "holding" "(II)LDimfacts$Fact;", Cond.selects RX2 ⟨"Dimfacts$FactStore", "holding", "(II)LDimfacts$Fact;"⟩ yX2_holding, Cond.instanceMethod yX2_holding, Cond.initialized RX2, Cond.code yX2_holding cX2_holding 4 (some (.object "Dimfacts$Fact")), Cond.fieldLink RX2 11 "Dimfacts$KeyedFacts" "firsts" "[LDimfacts$Fact;", Cond.fieldLink RX2 29 "Dimfacts$Fact" "filing" "I", Cond.fieldLink RX2 25 "Dimfacts$Fact" "next" "LDimfacts$Fact;", Cond.selects RX3 ⟨"Dimfacts$FactStore", "holding", "(II)LDimfacts$Fact;"⟩ yX3_holding, Cond.instanceMethod yX3_holding, Cond.initialized RX3, Cond.code yX3_holding cX3_holding 6 (some (.object "Dimfacts$Fact")), Cond.fieldLink RX3 17 "Dimfacts$ListedFacts" "count" "I", Cond.fieldLink RX3 11 "Dimfacts$ListedFacts" "facts" "[LDimfacts$Fact;", Cond.fieldLink RX3 21 "Dimfacts$Fact" "key" "I", Cond.fieldLink RX3 24 "Dimfacts$Fact" "filing" "I"]
def wsX4_sum_r3 : List Cond := [Cond.methodLink RX3 27 yX0_replaces, Cond.instanceMethod yX0_replaces, Cond.selects RX0 yX0_replaces yX0_replaces, Cond.initialized RX0, Cond.code yX0_replaces cX0_replaces 2 (some .boolean), Cond.fieldLink RX0 13 "Dimfacts$Fact" "filing" "I", Cond.fieldLink RX0 19 "Dimfacts$Fact" "doubt" "I"]
def wsX4_sum : List Cond := .code yX4_sum cX4_sum 8 (some .int) :: ((wsX4_sum_r1 ++ (wsX4_sum_r2 ++ wsX4_sum_r3)) ++ wsX40 ++ wsX00 ++ wsX20 ++ wsX30 ++ (vx_atS RX4 170 "java/lang/IndexOutOfBoundsException" ["java/lang/RuntimeException", "java/lang/Exception"]).filter goodWord)
def wsX4_reachParts : List Cond := .code yX4_reachParts cX4_reachParts 5 (some .int) :: ([.fieldLink RX4 42 "Dimfacts" "conceptCount" "I", .fieldLink RX4 9 "Dimfacts" "parents" "[I", .fieldLink RX4 36 "Dimfacts" "reached" "[I", .fieldLink RX4 39 "Dimfacts" "signs" "[I", .fieldLink RX4 13 "Dimfacts" "weights" "[I"] ++ wsX40)
def wsX4_derived_r1 : List Cond := [Cond.classLink RX4 153 "java/util/NoSuchElementException", Cond.initialized "java/util/NoSuchElementException", Cond.fieldLink RX4 36 "Dimfacts" "reached" "[I", Cond.fieldLink RX4 39 "Dimfacts" "signs" "[I", Cond.fieldLink RX4 32 "Dimfacts" "keyed" "LDimfacts$KeyedFacts;", Cond.fieldLink RX4 135 "Dimfacts$Fact" "value" "I", Cond.methodLink RX4 78 yX4_checkKey, Cond.instanceMethod yX4_checkKey, Cond.selects RX4 yX4_checkKey yX4_checkKey, Cond.initialized RX4, Cond.code yX4_checkKey cX4_checkKey 4 none, Cond.methodLink RX4 53 yX4_checkConcept, Cond.instanceMethod yX4_checkConcept, Cond.selects RX4 yX4_checkConcept yX4_checkConcept, Cond.code yX4_checkConcept cX4_checkConcept 2 none, Cond.classLink RX4 166 "java/lang/IndexOutOfBoundsException", Cond.initialized "java/lang/IndexOutOfBoundsException", Cond.fieldLink RX4 42 "Dimfacts" "conceptCount" "I", Cond.methodLink RX4 171 yX4_checkPeriodAndMember, Cond.static yX4_checkPeriodAndMember, Cond.code yX4_checkPeriodAndMember cX4_checkPeriodAndMember 2 none, Cond.methodLink RX4 114 yX4_checkFiling, Cond.instanceMethod yX4_checkFiling, Cond.selects RX4 yX4_checkFiling yX4_checkFiling]
def wsX4_derived_r2 : List Cond := [Cond.code yX4_checkFiling cX4_checkFiling 2 none, Cond.fieldLink RX4 73 "Dimfacts" "latest" "I", Cond.methodLink RX4 96 yX4_keyOf, Cond.static yX4_keyOf, Cond.code yX4_keyOf cX4_keyOf 3 (some .int), Cond.methodLink RX4 145 yX2_holding, Cond.instanceMethod yX2_holding, Cond.selects RX2 yX2_holding yX2_holding, Cond.initialized RX2, Cond.code yX2_holding cX2_holding 4 (some (.object "Dimfacts$Fact")), Cond.fieldLink RX2 11 "Dimfacts$KeyedFacts" "firsts" "[LDimfacts$Fact;", Cond.fieldLink RX2 29 "Dimfacts$Fact" "filing" "I", Cond.fieldLink RX2 25 "Dimfacts$Fact" "next" "LDimfacts$Fact;", Cond.methodLink RX4 149 yX4_reachParts, Cond.instanceMethod yX4_reachParts, Cond.selects RX4 yX4_reachParts yX4_reachParts, Cond.code yX4_reachParts cX4_reachParts 5 (some .int), Cond.fieldLink RX4 9 "Dimfacts" "parents" "[I", Cond.fieldLink RX4 13 "Dimfacts" "weights" "[I"]
def wsX4_derived : List Cond := .code yX4_derived cX4_derived 10 (some .int) :: ((wsX4_derived_r1 ++ wsX4_derived_r2) ++ wsX40 ++ wsX00 ++ wsX20 ++ (nx_at RX4 157).filter goodWord ++ (vx_atS RX4 170 "java/lang/IndexOutOfBoundsException" ["java/lang/RuntimeException", "java/lang/Exception"]).filter goodWord)
def wsX4_sumFails_r1 : List Cond := [Cond.fieldLink RX4 138 "Dimfacts$Fact" "doubt" "I", Cond.fieldLink RX4 42 "Dimfacts" "conceptCount" "I", Cond.fieldLink RX4 13 "Dimfacts" "weights" "[I", Cond.fieldLink RX4 135 "Dimfacts$Fact" "value" "I", Cond.methodLink RX4 96 yX4_keyOf, Cond.static yX4_keyOf, Cond.initialized RX4, Cond.code yX4_keyOf cX4_keyOf 3 (some .int), Cond.methodLink RX4 196 ⟨"Dimfacts$FactStore", "holding", "(II)LDimfacts$Fact;"⟩, Cond.sameMethod "Dimfacts$FactStore" "Dimfacts$FactStore" "holding" "(II)LDimfacts$Fact;", Cond.selects RX2 ⟨"Dimfacts$FactStore", "holding", "(II)LDimfacts$Fact;"⟩ yX2_holding, Cond.instanceMethod yX2_holding, Cond.initialized RX2, Cond.code yX2_holding cX2_holding 4 (some (.object "Dimfacts$Fact")), Cond.fieldLink RX2 11 "Dimfacts$KeyedFacts" "firsts" "[LDimfacts$Fact;", Cond.fieldLink RX2 29 "Dimfacts$Fact" "filing" "I", Cond.fieldLink RX2 25 "Dimfacts$Fact" "next" "LDimfacts$Fact;", Cond.selects RX3 ⟨"Dimfacts$FactStore", "holding", "(II)LDimfacts$Fact;"⟩ yX3_holding, Cond.instanceMethod yX3_holding, Cond.initialized RX3, Cond.code yX3_holding cX3_holding 6 (some (.object "Dimfacts$Fact")), Cond.fieldLink RX3 17 "Dimfacts$ListedFacts" "count" "I", Cond.fieldLink RX3 11 "Dimfacts$ListedFacts" "facts" "[LDimfacts$Fact;", Cond.fieldLink RX3 21 "Dimfacts$Fact" "key" "I"]
def wsX4_sumFails_r2 : List Cond := [Cond.fieldLink RX3 24 "Dimfacts$Fact" "filing" "I", Cond.methodLink RX3 27 yX0_replaces, Cond.instanceMethod yX0_replaces, Cond.selects RX0 yX0_replaces yX0_replaces, Cond.initialized RX0, Cond.code yX0_replaces cX0_replaces 2 (some .boolean), Cond.fieldLink RX0 13 "Dimfacts$Fact" "filing" "I", Cond.fieldLink RX0 19 "Dimfacts$Fact" "doubt" "I", Cond.methodLink RX4 141 yX4_partHolding, Cond.instanceMethod yX4_partHolding, Cond.selects RX4 yX4_partHolding yX4_partHolding, Cond.code yX4_partHolding cX4_partHolding 6 (some (.object "Dimfacts$Fact")), Cond.fieldLink RX4 9 "Dimfacts" "parents" "[I", Cond.methodLink RX4 199 yX4_isApart, Cond.static yX4_isApart, Cond.code yX4_isApart cX4_isApart 3 (some .boolean), Cond.methodLink RX4 203 Lib.Math.abs.name, Cond.static Lib.Math.abs.name, Cond.initialized "java/lang/Math", Cond.code Lib.Math.abs.name Lib.Math.abs.code 1 (some .int)]
def wsX4_sumFails : List Cond := .code yX4_sumFails cX4_sumFails 12 (some .boolean) :: ((wsX4_sumFails_r1 ++ wsX4_sumFails_r2) ++ wsX00 ++ wsX40 ++ wsX20 ++ wsX30)
def wsX4_isSumOff_r1 : List Cond := [Cond.fieldLink RX4 32 "Dimfacts" "keyed" "LDimfacts$KeyedFacts;", Cond.methodLink RX4 78 yX4_checkKey, Cond.instanceMethod yX4_checkKey, Cond.selects RX4 yX4_checkKey yX4_checkKey, Cond.initialized RX4, Cond.code yX4_checkKey cX4_checkKey 4 none, Cond.methodLink RX4 53 yX4_checkConcept, Cond.instanceMethod yX4_checkConcept, Cond.selects RX4 yX4_checkConcept yX4_checkConcept, Cond.code yX4_checkConcept cX4_checkConcept 2 none, Cond.classLink RX4 166 "java/lang/IndexOutOfBoundsException", Cond.initialized "java/lang/IndexOutOfBoundsException", Cond.fieldLink RX4 42 "Dimfacts" "conceptCount" "I", Cond.methodLink RX4 171 yX4_checkPeriodAndMember, Cond.static yX4_checkPeriodAndMember, Cond.code yX4_checkPeriodAndMember cX4_checkPeriodAndMember 2 none, Cond.methodLink RX4 114 yX4_checkFiling, Cond.instanceMethod yX4_checkFiling, Cond.selects RX4 yX4_checkFiling yX4_checkFiling, Cond.code yX4_checkFiling cX4_checkFiling 2 none, Cond.fieldLink RX4 73 "Dimfacts" "latest" "I", Cond.methodLink RX4 158 yX4_sumFails, Cond.instanceMethod yX4_sumFails, Cond.selects RX4 yX4_sumFails yX4_sumFails]
def wsX4_isSumOff_r2 : List Cond := [Cond.code yX4_sumFails cX4_sumFails 12 (some .boolean), Cond.fieldLink RX4 138 "Dimfacts$Fact" "doubt" "I", Cond.fieldLink RX4 13 "Dimfacts" "weights" "[I", Cond.fieldLink RX4 135 "Dimfacts$Fact" "value" "I", Cond.methodLink RX4 96 yX4_keyOf, Cond.static yX4_keyOf, Cond.code yX4_keyOf cX4_keyOf 3 (some .int), Cond.methodLink RX4 196 ⟨"Dimfacts$FactStore", "holding", "(II)LDimfacts$Fact;"⟩, Cond.sameMethod "Dimfacts$FactStore" "Dimfacts$FactStore" "holding" "(II)LDimfacts$Fact;", Cond.selects RX2 ⟨"Dimfacts$FactStore", "holding", "(II)LDimfacts$Fact;"⟩ yX2_holding, Cond.instanceMethod yX2_holding, Cond.initialized RX2, Cond.code yX2_holding cX2_holding 4 (some (.object "Dimfacts$Fact")), Cond.fieldLink RX2 11 "Dimfacts$KeyedFacts" "firsts" "[LDimfacts$Fact;", Cond.fieldLink RX2 29 "Dimfacts$Fact" "filing" "I", Cond.fieldLink RX2 25 "Dimfacts$Fact" "next" "LDimfacts$Fact;", Cond.selects RX3 ⟨"Dimfacts$FactStore", "holding", "(II)LDimfacts$Fact;"⟩ yX3_holding, Cond.instanceMethod yX3_holding, Cond.initialized RX3, Cond.code yX3_holding cX3_holding 6 (some (.object "Dimfacts$Fact")), Cond.fieldLink RX3 17 "Dimfacts$ListedFacts" "count" "I", Cond.fieldLink RX3 11 "Dimfacts$ListedFacts" "facts" "[LDimfacts$Fact;", Cond.fieldLink RX3 21 "Dimfacts$Fact" "key" "I", Cond.fieldLink RX3 24 "Dimfacts$Fact" "filing" "I"]
def wsX4_isSumOff_r3 : List Cond := [Cond.methodLink RX3 27 yX0_replaces, Cond.instanceMethod yX0_replaces, Cond.selects RX0 yX0_replaces yX0_replaces, Cond.initialized RX0, Cond.code yX0_replaces cX0_replaces 2 (some .boolean), Cond.fieldLink RX0 13 "Dimfacts$Fact" "filing" "I", Cond.fieldLink RX0 19 "Dimfacts$Fact" "doubt" "I", Cond.methodLink RX4 141 yX4_partHolding, Cond.instanceMethod yX4_partHolding, Cond.selects RX4 yX4_partHolding yX4_partHolding, Cond.code yX4_partHolding cX4_partHolding 6 (some (.object "Dimfacts$Fact")), Cond.fieldLink RX4 9 "Dimfacts" "parents" "[I", Cond.methodLink RX4 199 yX4_isApart, Cond.static yX4_isApart, Cond.code yX4_isApart cX4_isApart 3 (some .boolean), Cond.methodLink RX4 203 Lib.Math.abs.name, Cond.static Lib.Math.abs.name, Cond.initialized "java/lang/Math", Cond.code Lib.Math.abs.name Lib.Math.abs.code 1 (some .int)]
def wsX4_isSumOff : List Cond := .code yX4_isSumOff cX4_isSumOff 5 (some .boolean) :: ((wsX4_isSumOff_r1 ++ (wsX4_isSumOff_r2 ++ wsX4_isSumOff_r3)) ++ wsX40 ++ wsX00 ++ wsX20 ++ wsX30 ++ (vx_atS RX4 170 "java/lang/IndexOutOfBoundsException" ["java/lang/RuntimeException", "java/lang/Exception"]).filter goodWord)
def wsX4_membersFail_r1 : List Cond := [Cond.fieldLink RX4 138 "Dimfacts$Fact" "doubt" "I", Cond.fieldLink RX4 135 "Dimfacts$Fact" "value" "I", Cond.methodLink RX4 96 yX4_keyOf, Cond.static yX4_keyOf, Cond.initialized RX4, Cond.code yX4_keyOf cX4_keyOf 3 (some .int), Cond.methodLink RX4 196 ⟨"Dimfacts$FactStore", "holding", "(II)LDimfacts$Fact;"⟩, Cond.sameMethod "Dimfacts$FactStore" "Dimfacts$FactStore" "holding" "(II)LDimfacts$Fact;", Cond.selects RX2 ⟨"Dimfacts$FactStore", "holding", "(II)LDimfacts$Fact;"⟩ yX2_holding, Cond.instanceMethod yX2_holding, Cond.initialized RX2, Cond.code yX2_holding cX2_holding 4 (some (.object "Dimfacts$Fact")), Cond.fieldLink RX2 11 "Dimfacts$KeyedFacts" "firsts" "[LDimfacts$Fact;", Cond.fieldLink RX2 29 "Dimfacts$Fact" "filing" "I", Cond.fieldLink RX2 25 "Dimfacts$Fact" "next" "LDimfacts$Fact;", Cond.selects RX3 ⟨"Dimfacts$FactStore", "holding", "(II)LDimfacts$Fact;"⟩ yX3_holding, Cond.instanceMethod yX3_holding, Cond.initialized RX3, Cond.code yX3_holding cX3_holding 6 (some (.object "Dimfacts$Fact")), Cond.fieldLink RX3 17 "Dimfacts$ListedFacts" "count" "I", Cond.fieldLink RX3 11 "Dimfacts$ListedFacts" "facts" "[LDimfacts$Fact;", Cond.fieldLink RX3 21 "Dimfacts$Fact" "key" "I", Cond.fieldLink RX3 24 "Dimfacts$Fact" "filing" "I", Cond.methodLink RX3 27 yX0_replaces]
def wsX4_membersFail_r2 : List Cond := [Cond.instanceMethod yX0_replaces, Cond.selects RX0 yX0_replaces yX0_replaces, Cond.initialized RX0, Cond.code yX0_replaces cX0_replaces 2 (some .boolean), Cond.fieldLink RX0 13 "Dimfacts$Fact" "filing" "I", Cond.fieldLink RX0 19 "Dimfacts$Fact" "doubt" "I", Cond.methodLink RX4 199 yX4_isApart, Cond.static yX4_isApart, Cond.code yX4_isApart cX4_isApart 3 (some .boolean), Cond.methodLink RX4 203 Lib.Math.abs.name, Cond.static Lib.Math.abs.name, Cond.initialized "java/lang/Math", Cond.code Lib.Math.abs.name Lib.Math.abs.code 1 (some .int)]
def wsX4_membersFail : List Cond := .code yX4_membersFail cX4_membersFail 9 (some .boolean) :: ((wsX4_membersFail_r1 ++ wsX4_membersFail_r2) ++ wsX00 ++ wsX20 ++ wsX30)
def wsX4_areMembersOff_r1 : List Cond := [Cond.fieldLink RX4 32 "Dimfacts" "keyed" "LDimfacts$KeyedFacts;", Cond.methodLink RX4 78 yX4_checkKey, Cond.instanceMethod yX4_checkKey, Cond.selects RX4 yX4_checkKey yX4_checkKey, Cond.initialized RX4, Cond.code yX4_checkKey cX4_checkKey 4 none, Cond.methodLink RX4 53 yX4_checkConcept, Cond.instanceMethod yX4_checkConcept, Cond.selects RX4 yX4_checkConcept yX4_checkConcept, Cond.code yX4_checkConcept cX4_checkConcept 2 none, Cond.classLink RX4 166 "java/lang/IndexOutOfBoundsException", Cond.initialized "java/lang/IndexOutOfBoundsException", Cond.fieldLink RX4 42 "Dimfacts" "conceptCount" "I", Cond.methodLink RX4 171 yX4_checkPeriodAndMember, Cond.static yX4_checkPeriodAndMember, Cond.code yX4_checkPeriodAndMember cX4_checkPeriodAndMember 2 none, Cond.methodLink RX4 114 yX4_checkFiling, Cond.instanceMethod yX4_checkFiling, Cond.selects RX4 yX4_checkFiling yX4_checkFiling, Cond.code yX4_checkFiling cX4_checkFiling 2 none, Cond.fieldLink RX4 73 "Dimfacts" "latest" "I", Cond.methodLink RX4 162 yX4_membersFail, Cond.static yX4_membersFail, Cond.code yX4_membersFail cX4_membersFail 9 (some .boolean)]
def wsX4_areMembersOff_r2 : List Cond := [Cond.fieldLink RX4 138 "Dimfacts$Fact" "doubt" "I", Cond.fieldLink RX4 135 "Dimfacts$Fact" "value" "I", Cond.methodLink RX4 96 yX4_keyOf, Cond.static yX4_keyOf, Cond.code yX4_keyOf cX4_keyOf 3 (some .int), Cond.methodLink RX4 196 ⟨"Dimfacts$FactStore", "holding", "(II)LDimfacts$Fact;"⟩, Cond.sameMethod "Dimfacts$FactStore" "Dimfacts$FactStore" "holding" "(II)LDimfacts$Fact;", Cond.selects RX2 ⟨"Dimfacts$FactStore", "holding", "(II)LDimfacts$Fact;"⟩ yX2_holding, Cond.instanceMethod yX2_holding, Cond.initialized RX2, Cond.code yX2_holding cX2_holding 4 (some (.object "Dimfacts$Fact")), Cond.fieldLink RX2 11 "Dimfacts$KeyedFacts" "firsts" "[LDimfacts$Fact;", Cond.fieldLink RX2 29 "Dimfacts$Fact" "filing" "I", Cond.fieldLink RX2 25 "Dimfacts$Fact" "next" "LDimfacts$Fact;", Cond.selects RX3 ⟨"Dimfacts$FactStore", "holding", "(II)LDimfacts$Fact;"⟩ yX3_holding, Cond.instanceMethod yX3_holding, Cond.initialized RX3, Cond.code yX3_holding cX3_holding 6 (some (.object "Dimfacts$Fact")), Cond.fieldLink RX3 17 "Dimfacts$ListedFacts" "count" "I", Cond.fieldLink RX3 11 "Dimfacts$ListedFacts" "facts" "[LDimfacts$Fact;", Cond.fieldLink RX3 21 "Dimfacts$Fact" "key" "I", Cond.fieldLink RX3 24 "Dimfacts$Fact" "filing" "I", Cond.methodLink RX3 27 yX0_replaces, Cond.instanceMethod yX0_replaces]
def wsX4_areMembersOff_r3 : List Cond := [Cond.selects RX0 yX0_replaces yX0_replaces, Cond.initialized RX0, Cond.code yX0_replaces cX0_replaces 2 (some .boolean), Cond.fieldLink RX0 13 "Dimfacts$Fact" "filing" "I", Cond.fieldLink RX0 19 "Dimfacts$Fact" "doubt" "I", Cond.methodLink RX4 199 yX4_isApart, Cond.static yX4_isApart, Cond.code yX4_isApart cX4_isApart 3 (some .boolean), Cond.methodLink RX4 203 Lib.Math.abs.name, Cond.static Lib.Math.abs.name, Cond.initialized "java/lang/Math", Cond.code Lib.Math.abs.name Lib.Math.abs.code 1 (some .int)]
def wsX4_areMembersOff : List Cond := .code yX4_areMembersOff cX4_areMembersOff 4 (some .boolean) :: ((wsX4_areMembersOff_r1 ++ (wsX4_areMembersOff_r2 ++ wsX4_areMembersOff_r3)) ++ wsX40 ++ wsX00 ++ wsX20 ++ wsX30 ++ (vx_atS RX4 170 "java/lang/IndexOutOfBoundsException" ["java/lang/RuntimeException", "java/lang/Exception"]).filter goodWord)
def wsX4_rollFails_r1 : List Cond := [Cond.fieldLink RX4 16 "Dimfacts" "stocks" "[I", Cond.fieldLink RX4 19 "Dimfacts" "flows" "[I", Cond.fieldLink RX4 135 "Dimfacts$Fact" "value" "I", Cond.fieldLink RX4 138 "Dimfacts$Fact" "doubt" "I", Cond.methodLink RX4 96 yX4_keyOf, Cond.static yX4_keyOf, Cond.initialized RX4, Cond.code yX4_keyOf cX4_keyOf 3 (some .int), Cond.methodLink RX4 196 ⟨"Dimfacts$FactStore", "holding", "(II)LDimfacts$Fact;"⟩, Cond.sameMethod "Dimfacts$FactStore" "Dimfacts$FactStore" "holding" "(II)LDimfacts$Fact;", Cond.selects RX2 ⟨"Dimfacts$FactStore", "holding", "(II)LDimfacts$Fact;"⟩ yX2_holding, Cond.instanceMethod yX2_holding, Cond.initialized RX2, Cond.code yX2_holding cX2_holding 4 (some (.object "Dimfacts$Fact")), Cond.fieldLink RX2 11 "Dimfacts$KeyedFacts" "firsts" "[LDimfacts$Fact;", Cond.fieldLink RX2 29 "Dimfacts$Fact" "filing" "I", Cond.fieldLink RX2 25 "Dimfacts$Fact" "next" "LDimfacts$Fact;", Cond.selects RX3 ⟨"Dimfacts$FactStore", "holding", "(II)LDimfacts$Fact;"⟩ yX3_holding, Cond.instanceMethod yX3_holding, Cond.initialized RX3, Cond.code yX3_holding cX3_holding 6 (some (.object "Dimfacts$Fact")), Cond.fieldLink RX3 17 "Dimfacts$ListedFacts" "count" "I", Cond.fieldLink RX3 11 "Dimfacts$ListedFacts" "facts" "[LDimfacts$Fact;", Cond.fieldLink RX3 21 "Dimfacts$Fact" "key" "I"]
def wsX4_rollFails_r2 : List Cond := [Cond.fieldLink RX3 24 "Dimfacts$Fact" "filing" "I", Cond.methodLink RX3 27 yX0_replaces, Cond.instanceMethod yX0_replaces, Cond.selects RX0 yX0_replaces yX0_replaces, Cond.initialized RX0, Cond.code yX0_replaces cX0_replaces 2 (some .boolean), Cond.fieldLink RX0 13 "Dimfacts$Fact" "filing" "I", Cond.fieldLink RX0 19 "Dimfacts$Fact" "doubt" "I", Cond.methodLink RX4 199 yX4_isApart, Cond.static yX4_isApart, Cond.code yX4_isApart cX4_isApart 3 (some .boolean), Cond.methodLink RX4 203 Lib.Math.abs.name, Cond.static Lib.Math.abs.name, Cond.initialized "java/lang/Math", Cond.code Lib.Math.abs.name Lib.Math.abs.code 1 (some .int)]
def wsX4_rollFails : List Cond := .code yX4_rollFails cX4_rollFails 9 (some .boolean) :: ((wsX4_rollFails_r1 ++ wsX4_rollFails_r2) ++ wsX40 ++ wsX00 ++ wsX20 ++ wsX30)
def wsX4_isRollOff_r1 : List Cond := [Cond.classLink RX4 166 "java/lang/IndexOutOfBoundsException", Cond.initialized "java/lang/IndexOutOfBoundsException", Cond.fieldLink RX4 68 "Dimfacts" "ruleCount" "I", Cond.fieldLink RX4 32 "Dimfacts" "keyed" "LDimfacts$KeyedFacts;", Cond.methodLink RX4 171 yX4_checkPeriodAndMember, Cond.static yX4_checkPeriodAndMember, Cond.initialized RX4, Cond.code yX4_checkPeriodAndMember cX4_checkPeriodAndMember 2 none, Cond.methodLink RX4 114 yX4_checkFiling, Cond.instanceMethod yX4_checkFiling, Cond.selects RX4 yX4_checkFiling yX4_checkFiling, Cond.code yX4_checkFiling cX4_checkFiling 2 none, Cond.fieldLink RX4 73 "Dimfacts" "latest" "I", Cond.methodLink RX4 175 yX4_rollFails, Cond.instanceMethod yX4_rollFails, Cond.selects RX4 yX4_rollFails yX4_rollFails, Cond.code yX4_rollFails cX4_rollFails 9 (some .boolean), Cond.fieldLink RX4 16 "Dimfacts" "stocks" "[I", Cond.fieldLink RX4 19 "Dimfacts" "flows" "[I", Cond.fieldLink RX4 135 "Dimfacts$Fact" "value" "I", Cond.fieldLink RX4 138 "Dimfacts$Fact" "doubt" "I", Cond.methodLink RX4 96 yX4_keyOf, Cond.static yX4_keyOf, Cond.code yX4_keyOf cX4_keyOf 3 (some .int)]
def wsX4_isRollOff_r2 : List Cond := [Cond.methodLink RX4 196 ⟨"Dimfacts$FactStore", "holding", "(II)LDimfacts$Fact;"⟩, Cond.sameMethod "Dimfacts$FactStore" "Dimfacts$FactStore" "holding" "(II)LDimfacts$Fact;", Cond.selects RX2 ⟨"Dimfacts$FactStore", "holding", "(II)LDimfacts$Fact;"⟩ yX2_holding, Cond.instanceMethod yX2_holding, Cond.initialized RX2, Cond.code yX2_holding cX2_holding 4 (some (.object "Dimfacts$Fact")), Cond.fieldLink RX2 11 "Dimfacts$KeyedFacts" "firsts" "[LDimfacts$Fact;", Cond.fieldLink RX2 29 "Dimfacts$Fact" "filing" "I", Cond.fieldLink RX2 25 "Dimfacts$Fact" "next" "LDimfacts$Fact;", Cond.selects RX3 ⟨"Dimfacts$FactStore", "holding", "(II)LDimfacts$Fact;"⟩ yX3_holding, Cond.instanceMethod yX3_holding, Cond.initialized RX3, Cond.code yX3_holding cX3_holding 6 (some (.object "Dimfacts$Fact")), Cond.fieldLink RX3 17 "Dimfacts$ListedFacts" "count" "I", Cond.fieldLink RX3 11 "Dimfacts$ListedFacts" "facts" "[LDimfacts$Fact;", Cond.fieldLink RX3 21 "Dimfacts$Fact" "key" "I", Cond.fieldLink RX3 24 "Dimfacts$Fact" "filing" "I", Cond.methodLink RX3 27 yX0_replaces, Cond.instanceMethod yX0_replaces, Cond.selects RX0 yX0_replaces yX0_replaces, Cond.initialized RX0, Cond.code yX0_replaces cX0_replaces 2 (some .boolean), Cond.fieldLink RX0 13 "Dimfacts$Fact" "filing" "I", Cond.fieldLink RX0 19 "Dimfacts$Fact" "doubt" "I"]
def wsX4_isRollOff_r3 : List Cond := [Cond.methodLink RX4 199 yX4_isApart, Cond.static yX4_isApart, Cond.code yX4_isApart cX4_isApart 3 (some .boolean), Cond.methodLink RX4 203 Lib.Math.abs.name, Cond.static Lib.Math.abs.name, Cond.initialized "java/lang/Math", Cond.code Lib.Math.abs.name Lib.Math.abs.code 1 (some .int)]
def wsX4_isRollOff : List Cond := .code yX4_isRollOff cX4_isRollOff 5 (some .boolean) :: ((wsX4_isRollOff_r1 ++ (wsX4_isRollOff_r2 ++ wsX4_isRollOff_r3)) ++ wsX40 ++ wsX00 ++ wsX20 ++ wsX30 ++ (vx_atS RX4 170 "java/lang/IndexOutOfBoundsException" ["java/lang/RuntimeException", "java/lang/Exception"]).filter goodWord)
def wsX4_faultsAt_r1 : List Cond := [Cond.fieldLink RX4 68 "Dimfacts" "ruleCount" "I", Cond.fieldLink RX4 16 "Dimfacts" "stocks" "[I", Cond.methodLink RX4 158 yX4_sumFails, Cond.instanceMethod yX4_sumFails, Cond.selects RX4 yX4_sumFails yX4_sumFails, Cond.initialized RX4, Cond.code yX4_sumFails cX4_sumFails 12 (some .boolean), Cond.fieldLink RX4 138 "Dimfacts$Fact" "doubt" "I", Cond.fieldLink RX4 42 "Dimfacts" "conceptCount" "I", Cond.fieldLink RX4 13 "Dimfacts" "weights" "[I", Cond.fieldLink RX4 135 "Dimfacts$Fact" "value" "I", Cond.methodLink RX4 96 yX4_keyOf, Cond.static yX4_keyOf, Cond.code yX4_keyOf cX4_keyOf 3 (some .int), Cond.methodLink RX4 196 ⟨"Dimfacts$FactStore", "holding", "(II)LDimfacts$Fact;"⟩, Cond.sameMethod "Dimfacts$FactStore" "Dimfacts$FactStore" "holding" "(II)LDimfacts$Fact;", Cond.selects RX2 ⟨"Dimfacts$FactStore", "holding", "(II)LDimfacts$Fact;"⟩ yX2_holding, Cond.instanceMethod yX2_holding, Cond.initialized RX2, Cond.code yX2_holding cX2_holding 4 (some (.object "Dimfacts$Fact")), Cond.fieldLink RX2 11 "Dimfacts$KeyedFacts" "firsts" "[LDimfacts$Fact;", Cond.fieldLink RX2 29 "Dimfacts$Fact" "filing" "I", Cond.fieldLink RX2 25 "Dimfacts$Fact" "next" "LDimfacts$Fact;", Cond.selects RX3 ⟨"Dimfacts$FactStore", "holding", "(II)LDimfacts$Fact;"⟩ yX3_holding]
def wsX4_faultsAt_r2 : List Cond := [Cond.instanceMethod yX3_holding, Cond.initialized RX3, Cond.code yX3_holding cX3_holding 6 (some (.object "Dimfacts$Fact")), Cond.fieldLink RX3 17 "Dimfacts$ListedFacts" "count" "I", Cond.fieldLink RX3 11 "Dimfacts$ListedFacts" "facts" "[LDimfacts$Fact;", Cond.fieldLink RX3 21 "Dimfacts$Fact" "key" "I", Cond.fieldLink RX3 24 "Dimfacts$Fact" "filing" "I", Cond.methodLink RX3 27 yX0_replaces, Cond.instanceMethod yX0_replaces, Cond.selects RX0 yX0_replaces yX0_replaces, Cond.initialized RX0, Cond.code yX0_replaces cX0_replaces 2 (some .boolean), Cond.fieldLink RX0 13 "Dimfacts$Fact" "filing" "I", Cond.fieldLink RX0 19 "Dimfacts$Fact" "doubt" "I", Cond.methodLink RX4 141 yX4_partHolding, Cond.instanceMethod yX4_partHolding, Cond.selects RX4 yX4_partHolding yX4_partHolding, Cond.code yX4_partHolding cX4_partHolding 6 (some (.object "Dimfacts$Fact")), Cond.fieldLink RX4 9 "Dimfacts" "parents" "[I", Cond.methodLink RX4 199 yX4_isApart, Cond.static yX4_isApart, Cond.code yX4_isApart cX4_isApart 3 (some .boolean), Cond.methodLink RX4 203 Lib.Math.abs.name, Cond.static Lib.Math.abs.name]
def wsX4_faultsAt_r3 : List Cond := [Cond.initialized "java/lang/Math", Cond.code Lib.Math.abs.name Lib.Math.abs.code 1 (some .int), Cond.methodLink RX4 162 yX4_membersFail, Cond.static yX4_membersFail, Cond.code yX4_membersFail cX4_membersFail 9 (some .boolean), Cond.methodLink RX4 175 yX4_rollFails, Cond.instanceMethod yX4_rollFails, Cond.selects RX4 yX4_rollFails yX4_rollFails, Cond.code yX4_rollFails cX4_rollFails 9 (some .boolean), Cond.fieldLink RX4 19 "Dimfacts" "flows" "[I"]
def wsX4_faultsAt : List Cond := .code yX4_faultsAt cX4_faultsAt 9 (some .int) :: ((wsX4_faultsAt_r1 ++ (wsX4_faultsAt_r2 ++ wsX4_faultsAt_r3)) ++ wsX40 ++ wsX00 ++ wsX20 ++ wsX30)
def wsX4_faults_r1 : List Cond := [Cond.fieldLink RX4 42 "Dimfacts" "conceptCount" "I", Cond.fieldLink RX4 32 "Dimfacts" "keyed" "LDimfacts$KeyedFacts;", Cond.methodLink RX4 114 yX4_checkFiling, Cond.instanceMethod yX4_checkFiling, Cond.selects RX4 yX4_checkFiling yX4_checkFiling, Cond.initialized RX4, Cond.code yX4_checkFiling cX4_checkFiling 2 none, Cond.classLink RX4 166 "java/lang/IndexOutOfBoundsException", Cond.initialized "java/lang/IndexOutOfBoundsException", Cond.fieldLink RX4 73 "Dimfacts" "latest" "I", Cond.methodLink RX4 145 yX2_holding, Cond.instanceMethod yX2_holding, Cond.selects RX2 yX2_holding yX2_holding, Cond.initialized RX2, Cond.code yX2_holding cX2_holding 4 (some (.object "Dimfacts$Fact")), Cond.fieldLink RX2 11 "Dimfacts$KeyedFacts" "firsts" "[LDimfacts$Fact;", Cond.fieldLink RX2 29 "Dimfacts$Fact" "filing" "I", Cond.fieldLink RX2 25 "Dimfacts$Fact" "next" "LDimfacts$Fact;", Cond.methodLink RX4 178 yX4_faultsAt, Cond.instanceMethod yX4_faultsAt, Cond.selects RX4 yX4_faultsAt yX4_faultsAt, Cond.code yX4_faultsAt cX4_faultsAt 9 (some .int), Cond.fieldLink RX4 68 "Dimfacts" "ruleCount" "I", Cond.fieldLink RX4 16 "Dimfacts" "stocks" "[I"]
def wsX4_faults_r2 : List Cond := [Cond.methodLink RX4 158 yX4_sumFails, Cond.instanceMethod yX4_sumFails, Cond.selects RX4 yX4_sumFails yX4_sumFails, Cond.code yX4_sumFails cX4_sumFails 12 (some .boolean), Cond.fieldLink RX4 138 "Dimfacts$Fact" "doubt" "I", Cond.fieldLink RX4 13 "Dimfacts" "weights" "[I", Cond.fieldLink RX4 135 "Dimfacts$Fact" "value" "I", Cond.methodLink RX4 96 yX4_keyOf, Cond.static yX4_keyOf, Cond.code yX4_keyOf cX4_keyOf 3 (some .int), Cond.methodLink RX4 196 ⟨"Dimfacts$FactStore", "holding", "(II)LDimfacts$Fact;"⟩, Cond.sameMethod "Dimfacts$FactStore" "Dimfacts$FactStore" "holding" "(II)LDimfacts$Fact;", Cond.selects RX2 ⟨"Dimfacts$FactStore", "holding", "(II)LDimfacts$Fact;"⟩ yX2_holding, Cond.selects RX3 ⟨"Dimfacts$FactStore", "holding", "(II)LDimfacts$Fact;"⟩ yX3_holding, Cond.instanceMethod yX3_holding, Cond.initialized RX3, Cond.code yX3_holding cX3_holding 6 (some (.object "Dimfacts$Fact")), Cond.fieldLink RX3 17 "Dimfacts$ListedFacts" "count" "I", Cond.fieldLink RX3 11 "Dimfacts$ListedFacts" "facts" "[LDimfacts$Fact;", Cond.fieldLink RX3 21 "Dimfacts$Fact" "key" "I", Cond.fieldLink RX3 24 "Dimfacts$Fact" "filing" "I", Cond.methodLink RX3 27 yX0_replaces, Cond.instanceMethod yX0_replaces, Cond.selects RX0 yX0_replaces yX0_replaces]
def wsX4_faults_r3 : List Cond := [Cond.initialized RX0, Cond.code yX0_replaces cX0_replaces 2 (some .boolean), Cond.fieldLink RX0 13 "Dimfacts$Fact" "filing" "I", Cond.fieldLink RX0 19 "Dimfacts$Fact" "doubt" "I", Cond.methodLink RX4 141 yX4_partHolding, Cond.instanceMethod yX4_partHolding, Cond.selects RX4 yX4_partHolding yX4_partHolding, Cond.code yX4_partHolding cX4_partHolding 6 (some (.object "Dimfacts$Fact")), Cond.fieldLink RX4 9 "Dimfacts" "parents" "[I", Cond.methodLink RX4 199 yX4_isApart, Cond.static yX4_isApart, Cond.code yX4_isApart cX4_isApart 3 (some .boolean), Cond.methodLink RX4 203 Lib.Math.abs.name, Cond.static Lib.Math.abs.name, Cond.initialized "java/lang/Math", Cond.code Lib.Math.abs.name Lib.Math.abs.code 1 (some .int), Cond.methodLink RX4 162 yX4_membersFail, Cond.static yX4_membersFail, Cond.code yX4_membersFail cX4_membersFail 9 (some .boolean), Cond.methodLink RX4 175 yX4_rollFails, Cond.instanceMethod yX4_rollFails, Cond.selects RX4 yX4_rollFails yX4_rollFails, Cond.code yX4_rollFails cX4_rollFails 9 (some .boolean), Cond.fieldLink RX4 19 "Dimfacts" "flows" "[I"]
def wsX4_faults : List Cond := .code yX4_faults cX4_faults 4 (some .int) :: ((wsX4_faults_r1 ++ (wsX4_faults_r2 ++ wsX4_faults_r3)) ++ wsX40 ++ wsX20 ++ wsX00 ++ wsX30 ++ (vx_atS RX4 170 "java/lang/IndexOutOfBoundsException" ["java/lang/RuntimeException", "java/lang/Exception"]).filter goodWord)
def wsX4_faultsByList_r1 : List Cond := [Cond.fieldLink RX4 25 "Dimfacts" "listed" "LDimfacts$ListedFacts;", Cond.fieldLink RX4 111 "Dimfacts$ListedFacts" "count" "I", Cond.fieldLink RX4 117 "Dimfacts$ListedFacts" "facts" "[LDimfacts$Fact;", Cond.fieldLink RX4 182 "Dimfacts$Fact" "key" "I", Cond.methodLink RX4 114 yX4_checkFiling, Cond.instanceMethod yX4_checkFiling, Cond.selects RX4 yX4_checkFiling yX4_checkFiling, Cond.initialized RX4, Cond.code yX4_checkFiling cX4_checkFiling 2 none, Cond.classLink RX4 166 "java/lang/IndexOutOfBoundsException", Cond.initialized "java/lang/IndexOutOfBoundsException", Cond.fieldLink RX4 73 "Dimfacts" "latest" "I", Cond.methodLink RX4 185 yX3_holding, Cond.instanceMethod yX3_holding, Cond.selects RX3 yX3_holding yX3_holding, Cond.initialized RX3, Cond.code yX3_holding cX3_holding 6 (some (.object "Dimfacts$Fact")), Cond.fieldLink RX3 17 "Dimfacts$ListedFacts" "count" "I", Cond.fieldLink RX3 11 "Dimfacts$ListedFacts" "facts" "[LDimfacts$Fact;", Cond.fieldLink RX3 21 "Dimfacts$Fact" "key" "I", Cond.fieldLink RX3 24 "Dimfacts$Fact" "filing" "I", Cond.methodLink RX3 27 yX0_replaces, Cond.instanceMethod yX0_replaces, Cond.selects RX0 yX0_replaces yX0_replaces]
def wsX4_faultsByList_r2 : List Cond := [Cond.initialized RX0, Cond.code yX0_replaces cX0_replaces 2 (some .boolean), Cond.fieldLink RX0 13 "Dimfacts$Fact" "filing" "I", Cond.fieldLink RX0 19 "Dimfacts$Fact" "doubt" "I", Cond.methodLink RX4 178 yX4_faultsAt, Cond.instanceMethod yX4_faultsAt, Cond.selects RX4 yX4_faultsAt yX4_faultsAt, Cond.code yX4_faultsAt cX4_faultsAt 9 (some .int), Cond.fieldLink RX4 68 "Dimfacts" "ruleCount" "I", Cond.fieldLink RX4 16 "Dimfacts" "stocks" "[I", Cond.methodLink RX4 158 yX4_sumFails, Cond.instanceMethod yX4_sumFails, Cond.selects RX4 yX4_sumFails yX4_sumFails, Cond.code yX4_sumFails cX4_sumFails 12 (some .boolean), Cond.fieldLink RX4 138 "Dimfacts$Fact" "doubt" "I", Cond.fieldLink RX4 42 "Dimfacts" "conceptCount" "I", Cond.fieldLink RX4 13 "Dimfacts" "weights" "[I", Cond.fieldLink RX4 135 "Dimfacts$Fact" "value" "I", Cond.methodLink RX4 96 yX4_keyOf, Cond.static yX4_keyOf, Cond.code yX4_keyOf cX4_keyOf 3 (some .int), Cond.methodLink RX4 196 ⟨"Dimfacts$FactStore", "holding", "(II)LDimfacts$Fact;"⟩, Cond.sameMethod "Dimfacts$FactStore" "Dimfacts$FactStore" "holding" "(II)LDimfacts$Fact;", Cond.selects RX2 ⟨"Dimfacts$FactStore", "holding", "(II)LDimfacts$Fact;"⟩ yX2_holding]
def wsX4_faultsByList_r3 : List Cond := [Cond.instanceMethod yX2_holding, Cond.initialized RX2, Cond.code yX2_holding cX2_holding 4 (some (.object "Dimfacts$Fact")), Cond.fieldLink RX2 11 "Dimfacts$KeyedFacts" "firsts" "[LDimfacts$Fact;", Cond.fieldLink RX2 29 "Dimfacts$Fact" "filing" "I", Cond.fieldLink RX2 25 "Dimfacts$Fact" "next" "LDimfacts$Fact;", Cond.selects RX3 ⟨"Dimfacts$FactStore", "holding", "(II)LDimfacts$Fact;"⟩ yX3_holding, Cond.methodLink RX4 141 yX4_partHolding, Cond.instanceMethod yX4_partHolding, Cond.selects RX4 yX4_partHolding yX4_partHolding, Cond.code yX4_partHolding cX4_partHolding 6 (some (.object "Dimfacts$Fact")), Cond.fieldLink RX4 9 "Dimfacts" "parents" "[I", Cond.methodLink RX4 199 yX4_isApart, Cond.static yX4_isApart, Cond.code yX4_isApart cX4_isApart 3 (some .boolean), Cond.methodLink RX4 203 Lib.Math.abs.name, Cond.static Lib.Math.abs.name, Cond.initialized "java/lang/Math", Cond.code Lib.Math.abs.name Lib.Math.abs.code 1 (some .int), Cond.methodLink RX4 162 yX4_membersFail, Cond.static yX4_membersFail, Cond.code yX4_membersFail cX4_membersFail 9 (some .boolean), Cond.methodLink RX4 175 yX4_rollFails, Cond.instanceMethod yX4_rollFails]
def wsX4_faultsByList_r4 : List Cond := [Cond.selects RX4 yX4_rollFails yX4_rollFails, Cond.code yX4_rollFails cX4_rollFails 9 (some .boolean), Cond.fieldLink RX4 19 "Dimfacts" "flows" "[I"]
def wsX4_faultsByList : List Cond := .code yX4_faultsByList cX4_faultsByList 5 (some .int) :: ((wsX4_faultsByList_r1 ++ (wsX4_faultsByList_r2 ++ (wsX4_faultsByList_r3 ++ wsX4_faultsByList_r4))) ++ wsX40 ++ wsX30 ++ wsX00 ++ wsX20 ++ (vx_atS RX4 170 "java/lang/IndexOutOfBoundsException" ["java/lang/RuntimeException", "java/lang/Exception"]).filter goodWord)
def wsX5_init : List Cond := .code yX5_init cX5_init 1 none :: ([.methodLink RX5 1 objectInit, .instanceMethod objectInit, .code objectInit ⟨#[0xb1]⟩ 1 none, .arrayClass .int, .fieldLink RX5 7 "DimfactsModel" "parent" "[I", .fieldLink RX5 13 "DimfactsModel" "weight" "[I", .fieldLink RX5 16 "DimfactsModel" "stock" "[I", .fieldLink RX5 19 "DimfactsModel" "flow" "[I", .fieldLink RX5 22 "DimfactsModel" "filings" "I", .fieldLink RX5 26 "DimfactsModel" "concept" "[I", .fieldLink RX5 29 "DimfactsModel" "period" "[I", .fieldLink RX5 32 "DimfactsModel" "member" "[I", .fieldLink RX5 35 "DimfactsModel" "filed" "[I", .fieldLink RX5 38 "DimfactsModel" "value" "[I", .fieldLink RX5 41 "DimfactsModel" "decimals" "[I", .fieldLink RX5 44 "DimfactsModel" "derived" "[I", .arrayClass .boolean, .fieldLink RX5 47 "DimfactsModel" "isKnown" "[Z"] ++ wsX50)
def wsX5_thrown : List Cond := .code yX5_thrown cX5_thrown 1 (some .int) :: ([.fieldLink RX5 51 "DimfactsModel" "thrown" "I"] ++ wsX50)
def wsX5_can : List Cond := .code yX5_can cX5_can 2 (some .boolean) :: ([.fieldLink RX5 51 "DimfactsModel" "thrown" "I"] ++ wsX50)
def wsX5_isIn : List Cond := .code yX5_isIn cX5_isIn 3 (some .boolean) :: ([])
def wsX5_isConcept : List Cond := .code yX5_isConcept cX5_isConcept 2 (some .boolean) :: ([.fieldLink RX5 54 "DimfactsModel" "concepts" "I", .methodLink RX5 57 yX5_isIn, .static yX5_isIn, .initialized RX5, .code yX5_isIn cX5_isIn 3 (some .boolean)] ++ wsX50)
def wsX5_isFiling : List Cond := .code yX5_isFiling cX5_isFiling 2 (some .boolean) :: ([.fieldLink RX5 22 "DimfactsModel" "filings" "I", .methodLink RX5 57 yX5_isIn, .static yX5_isIn, .initialized RX5, .code yX5_isIn cX5_isIn 3 (some .boolean)] ++ wsX50)
def wsX5_isKey : List Cond := .code yX5_isKey cX5_isKey 4 (some .boolean) :: ([.methodLink RX5 61 yX5_isConcept, .instanceMethod yX5_isConcept, .selects RX5 yX5_isConcept yX5_isConcept, .initialized RX5, .code yX5_isConcept cX5_isConcept 2 (some .boolean), .fieldLink RX5 54 "DimfactsModel" "concepts" "I", .methodLink RX5 57 yX5_isIn, .static yX5_isIn, .code yX5_isIn cX5_isIn 3 (some .boolean)] ++ wsX50)
def wsX5_addConcept : List Cond := .code yX5_addConcept cX5_addConcept 1 (some .int) :: ([.fieldLink RX5 54 "DimfactsModel" "concepts" "I", .fieldLink RX5 7 "DimfactsModel" "parent" "[I", .methodLink RX5 65 yX5_can, .instanceMethod yX5_can, .selects RX5 yX5_can yX5_can, .initialized RX5, .code yX5_can cX5_can 2 (some .boolean), .fieldLink RX5 51 "DimfactsModel" "thrown" "I"] ++ wsX50)
def wsX5_isBelow : List Cond := .code yX5_isBelow cX5_isBelow 4 (some .boolean) :: ([.fieldLink RX5 7 "DimfactsModel" "parent" "[I"] ++ wsX50)
def wsX5_hang : List Cond := .code yX5_hang cX5_hang 6 (some .int) :: ([.fieldLink RX5 7 "DimfactsModel" "parent" "[I", .fieldLink RX5 13 "DimfactsModel" "weight" "[I", .methodLink RX5 61 yX5_isConcept, .instanceMethod yX5_isConcept, .selects RX5 yX5_isConcept yX5_isConcept, .initialized RX5, .code yX5_isConcept cX5_isConcept 2 (some .boolean), .fieldLink RX5 54 "DimfactsModel" "concepts" "I", .methodLink RX5 57 yX5_isIn, .static yX5_isIn, .code yX5_isIn cX5_isIn 3 (some .boolean), .methodLink RX5 68 yX5_isBelow, .instanceMethod yX5_isBelow, .selects RX5 yX5_isBelow yX5_isBelow, .code yX5_isBelow cX5_isBelow 4 (some .boolean), .methodLink RX5 65 yX5_can, .instanceMethod yX5_can, .selects RX5 yX5_can yX5_can, .code yX5_can cX5_can 2 (some .boolean), .fieldLink RX5 51 "DimfactsModel" "thrown" "I"] ++ wsX50)
def wsX5_unhang : List Cond := .code yX5_unhang cX5_unhang 3 (some .int) :: ([.fieldLink RX5 7 "DimfactsModel" "parent" "[I", .methodLink RX5 61 yX5_isConcept, .instanceMethod yX5_isConcept, .selects RX5 yX5_isConcept yX5_isConcept, .initialized RX5, .code yX5_isConcept cX5_isConcept 2 (some .boolean), .fieldLink RX5 54 "DimfactsModel" "concepts" "I", .methodLink RX5 57 yX5_isIn, .static yX5_isIn, .code yX5_isIn cX5_isIn 3 (some .boolean), .methodLink RX5 65 yX5_can, .instanceMethod yX5_can, .selects RX5 yX5_can yX5_can, .code yX5_can cX5_can 2 (some .boolean), .fieldLink RX5 51 "DimfactsModel" "thrown" "I"] ++ wsX50)
def wsX5_addRoll : List Cond := .code yX5_addRoll cX5_addRoll 4 (some .int) :: ([.fieldLink RX5 72 "DimfactsModel" "rolls" "I", .fieldLink RX5 16 "DimfactsModel" "stock" "[I", .fieldLink RX5 19 "DimfactsModel" "flow" "[I", .methodLink RX5 61 yX5_isConcept, .instanceMethod yX5_isConcept, .selects RX5 yX5_isConcept yX5_isConcept, .initialized RX5, .code yX5_isConcept cX5_isConcept 2 (some .boolean), .fieldLink RX5 54 "DimfactsModel" "concepts" "I", .methodLink RX5 57 yX5_isIn, .static yX5_isIn, .code yX5_isIn cX5_isIn 3 (some .boolean), .methodLink RX5 65 yX5_can, .instanceMethod yX5_can, .selects RX5 yX5_can yX5_can, .code yX5_can cX5_can 2 (some .boolean), .fieldLink RX5 51 "DimfactsModel" "thrown" "I"] ++ wsX50)
def wsX5_file : List Cond := .code yX5_file cX5_file 1 (some .int) :: ([.fieldLink RX5 22 "DimfactsModel" "filings" "I", .methodLink RX5 65 yX5_can, .instanceMethod yX5_can, .selects RX5 yX5_can yX5_can, .initialized RX5, .code yX5_can cX5_can 2 (some .boolean), .fieldLink RX5 51 "DimfactsModel" "thrown" "I"] ++ wsX50)
def wsX5_tell_r1 : List Cond := [Cond.constant RX5 75 (-1000000), Cond.constant RX5 76 (1000000), Cond.fieldLink RX5 80 "DimfactsModel" "facts" "I", Cond.fieldLink RX5 26 "DimfactsModel" "concept" "[I", Cond.fieldLink RX5 29 "DimfactsModel" "period" "[I", Cond.fieldLink RX5 32 "DimfactsModel" "member" "[I", Cond.fieldLink RX5 35 "DimfactsModel" "filed" "[I", Cond.fieldLink RX5 22 "DimfactsModel" "filings" "I", Cond.fieldLink RX5 38 "DimfactsModel" "value" "[I", Cond.fieldLink RX5 41 "DimfactsModel" "decimals" "[I", Cond.methodLink RX5 57 yX5_isIn, Cond.static yX5_isIn, Cond.initialized RX5, Cond.code yX5_isIn cX5_isIn 3 (some .boolean), Cond.methodLink RX5 77 yX5_isKey, Cond.instanceMethod yX5_isKey, Cond.selects RX5 yX5_isKey yX5_isKey, Cond.code yX5_isKey cX5_isKey 4 (some .boolean), Cond.methodLink RX5 61 yX5_isConcept, Cond.instanceMethod yX5_isConcept, Cond.selects RX5 yX5_isConcept yX5_isConcept, Cond.code yX5_isConcept cX5_isConcept 2 (some .boolean), Cond.fieldLink RX5 54 "DimfactsModel" "concepts" "I", Cond.methodLink RX5 65 yX5_can]
def wsX5_tell_r2 : List Cond := [Cond.instanceMethod yX5_can, Cond.selects RX5 yX5_can yX5_can, Cond.code yX5_can cX5_can 2 (some .boolean), Cond.fieldLink RX5 51 "DimfactsModel" "thrown" "I"]
def wsX5_tell : List Cond := .code yX5_tell cX5_tell 7 (some .int) :: ((wsX5_tell_r1 ++ wsX5_tell_r2) ++ wsX50)
def wsX5_doubtOf : List Cond := .code yX5_doubtOf cX5_doubtOf 4 (some .int) :: ([.fieldLink RX5 41 "DimfactsModel" "decimals" "[I"] ++ wsX50)
def wsX5_isOf : List Cond := .code yX5_isOf cX5_isOf 5 (some .boolean) :: ([.fieldLink RX5 26 "DimfactsModel" "concept" "[I", .fieldLink RX5 29 "DimfactsModel" "period" "[I", .fieldLink RX5 32 "DimfactsModel" "member" "[I"] ++ wsX50)
def wsX5_holds : List Cond := .code yX5_holds cX5_holds 8 (some .int) :: ([.fieldLink RX5 80 "DimfactsModel" "facts" "I", .fieldLink RX5 35 "DimfactsModel" "filed" "[I", .fieldLink RX5 41 "DimfactsModel" "decimals" "[I", .methodLink RX5 83 yX5_isOf, .instanceMethod yX5_isOf, .selects RX5 yX5_isOf yX5_isOf, .initialized RX5, .code yX5_isOf cX5_isOf 5 (some .boolean), .fieldLink RX5 26 "DimfactsModel" "concept" "[I", .fieldLink RX5 29 "DimfactsModel" "period" "[I", .fieldLink RX5 32 "DimfactsModel" "member" "[I"] ++ wsX50)
def wsX5_isFar : List Cond := .code yX5_isFar cX5_isFar 4 (some .boolean) :: ([])
def wsX5_disagreements_r1 : List Cond := [Cond.fieldLink RX5 80 "DimfactsModel" "facts" "I", Cond.fieldLink RX5 35 "DimfactsModel" "filed" "[I", Cond.fieldLink RX5 26 "DimfactsModel" "concept" "[I", Cond.fieldLink RX5 29 "DimfactsModel" "period" "[I", Cond.fieldLink RX5 32 "DimfactsModel" "member" "[I", Cond.fieldLink RX5 38 "DimfactsModel" "value" "[I", Cond.methodLink RX5 87 yX5_isFiling, Cond.instanceMethod yX5_isFiling, Cond.selects RX5 yX5_isFiling yX5_isFiling, Cond.initialized RX5, Cond.code yX5_isFiling cX5_isFiling 2 (some .boolean), Cond.fieldLink RX5 22 "DimfactsModel" "filings" "I", Cond.methodLink RX5 57 yX5_isIn, Cond.static yX5_isIn, Cond.code yX5_isIn cX5_isIn 3 (some .boolean), Cond.methodLink RX5 65 yX5_can, Cond.instanceMethod yX5_can, Cond.selects RX5 yX5_can yX5_can, Cond.code yX5_can cX5_can 2 (some .boolean), Cond.fieldLink RX5 51 "DimfactsModel" "thrown" "I", Cond.methodLink RX5 83 yX5_isOf, Cond.instanceMethod yX5_isOf, Cond.selects RX5 yX5_isOf yX5_isOf, Cond.code yX5_isOf cX5_isOf 5 (some .boolean)]
def wsX5_disagreements_r2 : List Cond := [Cond.methodLink RX5 90 yX5_doubtOf, Cond.instanceMethod yX5_doubtOf, Cond.selects RX5 yX5_doubtOf yX5_doubtOf, Cond.code yX5_doubtOf cX5_doubtOf 4 (some .int), Cond.fieldLink RX5 41 "DimfactsModel" "decimals" "[I", Cond.methodLink RX5 94 yX5_isFar, Cond.static yX5_isFar, Cond.code yX5_isFar cX5_isFar 4 (some .boolean)]
def wsX5_disagreements : List Cond := .code yX5_disagreements cX5_disagreements 6 (some .int) :: ((wsX5_disagreements_r1 ++ wsX5_disagreements_r2) ++ wsX50)
def wsX5_restated_r1 : List Cond := [Cond.fieldLink RX5 80 "DimfactsModel" "facts" "I", Cond.fieldLink RX5 35 "DimfactsModel" "filed" "[I", Cond.fieldLink RX5 26 "DimfactsModel" "concept" "[I", Cond.fieldLink RX5 29 "DimfactsModel" "period" "[I", Cond.fieldLink RX5 32 "DimfactsModel" "member" "[I", Cond.fieldLink RX5 38 "DimfactsModel" "value" "[I", Cond.methodLink RX5 87 yX5_isFiling, Cond.instanceMethod yX5_isFiling, Cond.selects RX5 yX5_isFiling yX5_isFiling, Cond.initialized RX5, Cond.code yX5_isFiling cX5_isFiling 2 (some .boolean), Cond.fieldLink RX5 22 "DimfactsModel" "filings" "I", Cond.methodLink RX5 57 yX5_isIn, Cond.static yX5_isIn, Cond.code yX5_isIn cX5_isIn 3 (some .boolean), Cond.methodLink RX5 65 yX5_can, Cond.instanceMethod yX5_can, Cond.selects RX5 yX5_can yX5_can, Cond.code yX5_can cX5_can 2 (some .boolean), Cond.fieldLink RX5 51 "DimfactsModel" "thrown" "I", Cond.methodLink RX5 97 yX5_holds, Cond.instanceMethod yX5_holds, Cond.selects RX5 yX5_holds yX5_holds, Cond.code yX5_holds cX5_holds 8 (some .int)]
def wsX5_restated_r2 : List Cond := [Cond.fieldLink RX5 41 "DimfactsModel" "decimals" "[I", Cond.methodLink RX5 83 yX5_isOf, Cond.instanceMethod yX5_isOf, Cond.selects RX5 yX5_isOf yX5_isOf, Cond.code yX5_isOf cX5_isOf 5 (some .boolean)]
def wsX5_restated : List Cond := .code yX5_restated cX5_restated 6 (some .int) :: ((wsX5_restated_r1 ++ wsX5_restated_r2) ++ wsX50)
def wsX5_isAsked : List Cond := .code yX5_isAsked cX5_isAsked 5 (some .boolean) :: ([.methodLink RX5 77 yX5_isKey, .instanceMethod yX5_isKey, .selects RX5 yX5_isKey yX5_isKey, .initialized RX5, .code yX5_isKey cX5_isKey 4 (some .boolean), .methodLink RX5 61 yX5_isConcept, .instanceMethod yX5_isConcept, .selects RX5 yX5_isConcept yX5_isConcept, .code yX5_isConcept cX5_isConcept 2 (some .boolean), .fieldLink RX5 54 "DimfactsModel" "concepts" "I", .methodLink RX5 57 yX5_isIn, .static yX5_isIn, .code yX5_isIn cX5_isIn 3 (some .boolean), .methodLink RX5 87 yX5_isFiling, .instanceMethod yX5_isFiling, .selects RX5 yX5_isFiling yX5_isFiling, .code yX5_isFiling cX5_isFiling 2 (some .boolean), .fieldLink RX5 22 "DimfactsModel" "filings" "I"] ++ wsX50)
def wsX5_value_r1 : List Cond := [Cond.fieldLink RX5 38 "DimfactsModel" "value" "[I", Cond.methodLink RX5 101 yX5_isAsked, Cond.instanceMethod yX5_isAsked, Cond.selects RX5 yX5_isAsked yX5_isAsked, Cond.initialized RX5, Cond.code yX5_isAsked cX5_isAsked 5 (some .boolean), Cond.methodLink RX5 77 yX5_isKey, Cond.instanceMethod yX5_isKey, Cond.selects RX5 yX5_isKey yX5_isKey, Cond.code yX5_isKey cX5_isKey 4 (some .boolean), Cond.methodLink RX5 61 yX5_isConcept, Cond.instanceMethod yX5_isConcept, Cond.selects RX5 yX5_isConcept yX5_isConcept, Cond.code yX5_isConcept cX5_isConcept 2 (some .boolean), Cond.fieldLink RX5 54 "DimfactsModel" "concepts" "I", Cond.methodLink RX5 57 yX5_isIn, Cond.static yX5_isIn, Cond.code yX5_isIn cX5_isIn 3 (some .boolean), Cond.methodLink RX5 87 yX5_isFiling, Cond.instanceMethod yX5_isFiling, Cond.selects RX5 yX5_isFiling yX5_isFiling, Cond.code yX5_isFiling cX5_isFiling 2 (some .boolean), Cond.fieldLink RX5 22 "DimfactsModel" "filings" "I", Cond.methodLink RX5 97 yX5_holds]
def wsX5_value_r2 : List Cond := [Cond.instanceMethod yX5_holds, Cond.selects RX5 yX5_holds yX5_holds, Cond.code yX5_holds cX5_holds 8 (some .int), Cond.fieldLink RX5 80 "DimfactsModel" "facts" "I", Cond.fieldLink RX5 35 "DimfactsModel" "filed" "[I", Cond.fieldLink RX5 41 "DimfactsModel" "decimals" "[I", Cond.methodLink RX5 83 yX5_isOf, Cond.instanceMethod yX5_isOf, Cond.selects RX5 yX5_isOf yX5_isOf, Cond.code yX5_isOf cX5_isOf 5 (some .boolean), Cond.fieldLink RX5 26 "DimfactsModel" "concept" "[I", Cond.fieldLink RX5 29 "DimfactsModel" "period" "[I", Cond.fieldLink RX5 32 "DimfactsModel" "member" "[I", Cond.methodLink RX5 65 yX5_can, Cond.instanceMethod yX5_can, Cond.selects RX5 yX5_can yX5_can, Cond.code yX5_can cX5_can 2 (some .boolean), Cond.fieldLink RX5 51 "DimfactsModel" "thrown" "I"]
def wsX5_value : List Cond := .code yX5_value cX5_value 7 (some .int) :: ((wsX5_value_r1 ++ wsX5_value_r2) ++ wsX50)
def wsX5_doubt_r1 : List Cond := [Cond.methodLink RX5 101 yX5_isAsked, Cond.instanceMethod yX5_isAsked, Cond.selects RX5 yX5_isAsked yX5_isAsked, Cond.initialized RX5, Cond.code yX5_isAsked cX5_isAsked 5 (some .boolean), Cond.methodLink RX5 77 yX5_isKey, Cond.instanceMethod yX5_isKey, Cond.selects RX5 yX5_isKey yX5_isKey, Cond.code yX5_isKey cX5_isKey 4 (some .boolean), Cond.methodLink RX5 61 yX5_isConcept, Cond.instanceMethod yX5_isConcept, Cond.selects RX5 yX5_isConcept yX5_isConcept, Cond.code yX5_isConcept cX5_isConcept 2 (some .boolean), Cond.fieldLink RX5 54 "DimfactsModel" "concepts" "I", Cond.methodLink RX5 57 yX5_isIn, Cond.static yX5_isIn, Cond.code yX5_isIn cX5_isIn 3 (some .boolean), Cond.methodLink RX5 87 yX5_isFiling, Cond.instanceMethod yX5_isFiling, Cond.selects RX5 yX5_isFiling yX5_isFiling, Cond.code yX5_isFiling cX5_isFiling 2 (some .boolean), Cond.fieldLink RX5 22 "DimfactsModel" "filings" "I", Cond.methodLink RX5 97 yX5_holds, Cond.instanceMethod yX5_holds]
def wsX5_doubt_r2 : List Cond := [Cond.selects RX5 yX5_holds yX5_holds, Cond.code yX5_holds cX5_holds 8 (some .int), Cond.fieldLink RX5 80 "DimfactsModel" "facts" "I", Cond.fieldLink RX5 35 "DimfactsModel" "filed" "[I", Cond.fieldLink RX5 41 "DimfactsModel" "decimals" "[I", Cond.methodLink RX5 83 yX5_isOf, Cond.instanceMethod yX5_isOf, Cond.selects RX5 yX5_isOf yX5_isOf, Cond.code yX5_isOf cX5_isOf 5 (some .boolean), Cond.fieldLink RX5 26 "DimfactsModel" "concept" "[I", Cond.fieldLink RX5 29 "DimfactsModel" "period" "[I", Cond.fieldLink RX5 32 "DimfactsModel" "member" "[I", Cond.methodLink RX5 65 yX5_can, Cond.instanceMethod yX5_can, Cond.selects RX5 yX5_can yX5_can, Cond.code yX5_can cX5_can 2 (some .boolean), Cond.fieldLink RX5 51 "DimfactsModel" "thrown" "I", Cond.methodLink RX5 90 yX5_doubtOf, Cond.instanceMethod yX5_doubtOf, Cond.selects RX5 yX5_doubtOf yX5_doubtOf, Cond.code yX5_doubtOf cX5_doubtOf 4 (some .int)]
def wsX5_doubt : List Cond := .code yX5_doubt cX5_doubt 7 (some .int) :: ((wsX5_doubt_r1 ++ wsX5_doubt_r2) ++ wsX50)
def wsX5_sumOf : List Cond := .code yX5_sumOf cX5_sumOf 8 (some .int) :: ([.fieldLink RX5 54 "DimfactsModel" "concepts" "I", .fieldLink RX5 7 "DimfactsModel" "parent" "[I", .fieldLink RX5 13 "DimfactsModel" "weight" "[I", .fieldLink RX5 38 "DimfactsModel" "value" "[I", .methodLink RX5 97 yX5_holds, .instanceMethod yX5_holds, .selects RX5 yX5_holds yX5_holds, .initialized RX5, .code yX5_holds cX5_holds 8 (some .int), .fieldLink RX5 80 "DimfactsModel" "facts" "I", .fieldLink RX5 35 "DimfactsModel" "filed" "[I", .fieldLink RX5 41 "DimfactsModel" "decimals" "[I", .methodLink RX5 83 yX5_isOf, .instanceMethod yX5_isOf, .selects RX5 yX5_isOf yX5_isOf, .code yX5_isOf cX5_isOf 5 (some .boolean), .fieldLink RX5 26 "DimfactsModel" "concept" "[I", .fieldLink RX5 29 "DimfactsModel" "period" "[I", .fieldLink RX5 32 "DimfactsModel" "member" "[I"] ++ wsX50)
def wsX5_sum_r1 : List Cond := [Cond.methodLink RX5 101 yX5_isAsked, Cond.instanceMethod yX5_isAsked, Cond.selects RX5 yX5_isAsked yX5_isAsked, Cond.initialized RX5, Cond.code yX5_isAsked cX5_isAsked 5 (some .boolean), Cond.methodLink RX5 77 yX5_isKey, Cond.instanceMethod yX5_isKey, Cond.selects RX5 yX5_isKey yX5_isKey, Cond.code yX5_isKey cX5_isKey 4 (some .boolean), Cond.methodLink RX5 61 yX5_isConcept, Cond.instanceMethod yX5_isConcept, Cond.selects RX5 yX5_isConcept yX5_isConcept, Cond.code yX5_isConcept cX5_isConcept 2 (some .boolean), Cond.fieldLink RX5 54 "DimfactsModel" "concepts" "I", Cond.methodLink RX5 57 yX5_isIn, Cond.static yX5_isIn, Cond.code yX5_isIn cX5_isIn 3 (some .boolean), Cond.methodLink RX5 87 yX5_isFiling, Cond.instanceMethod yX5_isFiling, Cond.selects RX5 yX5_isFiling yX5_isFiling, Cond.code yX5_isFiling cX5_isFiling 2 (some .boolean), Cond.fieldLink RX5 22 "DimfactsModel" "filings" "I", Cond.methodLink RX5 65 yX5_can, Cond.instanceMethod yX5_can]
def wsX5_sum_r2 : List Cond := [Cond.selects RX5 yX5_can yX5_can, Cond.code yX5_can cX5_can 2 (some .boolean), Cond.fieldLink RX5 51 "DimfactsModel" "thrown" "I", Cond.methodLink RX5 104 yX5_sumOf, Cond.instanceMethod yX5_sumOf, Cond.selects RX5 yX5_sumOf yX5_sumOf, Cond.code yX5_sumOf cX5_sumOf 8 (some .int), Cond.fieldLink RX5 7 "DimfactsModel" "parent" "[I", Cond.fieldLink RX5 13 "DimfactsModel" "weight" "[I", Cond.fieldLink RX5 38 "DimfactsModel" "value" "[I", Cond.methodLink RX5 97 yX5_holds, Cond.instanceMethod yX5_holds, Cond.selects RX5 yX5_holds yX5_holds, Cond.code yX5_holds cX5_holds 8 (some .int), Cond.fieldLink RX5 80 "DimfactsModel" "facts" "I", Cond.fieldLink RX5 35 "DimfactsModel" "filed" "[I", Cond.fieldLink RX5 41 "DimfactsModel" "decimals" "[I", Cond.methodLink RX5 83 yX5_isOf, Cond.instanceMethod yX5_isOf, Cond.selects RX5 yX5_isOf yX5_isOf, Cond.code yX5_isOf cX5_isOf 5 (some .boolean), Cond.fieldLink RX5 26 "DimfactsModel" "concept" "[I", Cond.fieldLink RX5 29 "DimfactsModel" "period" "[I", Cond.fieldLink RX5 32 "DimfactsModel" "member" "[I"]
def wsX5_sum : List Cond := .code yX5_sum cX5_sum 5 (some .int) :: ((wsX5_sum_r1 ++ wsX5_sum_r2) ++ wsX50)
def wsX5_derives : List Cond := .code yX5_derives cX5_derives 10 none :: ([.fieldLink RX5 54 "DimfactsModel" "concepts" "I", .fieldLink RX5 47 "DimfactsModel" "isKnown" "[Z", .fieldLink RX5 44 "DimfactsModel" "derived" "[I", .fieldLink RX5 38 "DimfactsModel" "value" "[I", .fieldLink RX5 7 "DimfactsModel" "parent" "[I", .fieldLink RX5 13 "DimfactsModel" "weight" "[I", .methodLink RX5 97 yX5_holds, .instanceMethod yX5_holds, .selects RX5 yX5_holds yX5_holds, .initialized RX5, .code yX5_holds cX5_holds 8 (some .int), .fieldLink RX5 80 "DimfactsModel" "facts" "I", .fieldLink RX5 35 "DimfactsModel" "filed" "[I", .fieldLink RX5 41 "DimfactsModel" "decimals" "[I", .methodLink RX5 83 yX5_isOf, .instanceMethod yX5_isOf, .selects RX5 yX5_isOf yX5_isOf, .code yX5_isOf cX5_isOf 5 (some .boolean), .fieldLink RX5 26 "DimfactsModel" "concept" "[I", .fieldLink RX5 29 "DimfactsModel" "period" "[I", .fieldLink RX5 32 "DimfactsModel" "member" "[I"] ++ wsX50)
def wsX5_derived_r1 : List Cond := [Cond.fieldLink RX5 47 "DimfactsModel" "isKnown" "[Z", Cond.fieldLink RX5 44 "DimfactsModel" "derived" "[I", Cond.methodLink RX5 101 yX5_isAsked, Cond.instanceMethod yX5_isAsked, Cond.selects RX5 yX5_isAsked yX5_isAsked, Cond.initialized RX5, Cond.code yX5_isAsked cX5_isAsked 5 (some .boolean), Cond.methodLink RX5 77 yX5_isKey, Cond.instanceMethod yX5_isKey, Cond.selects RX5 yX5_isKey yX5_isKey, Cond.code yX5_isKey cX5_isKey 4 (some .boolean), Cond.methodLink RX5 61 yX5_isConcept, Cond.instanceMethod yX5_isConcept, Cond.selects RX5 yX5_isConcept yX5_isConcept, Cond.code yX5_isConcept cX5_isConcept 2 (some .boolean), Cond.fieldLink RX5 54 "DimfactsModel" "concepts" "I", Cond.methodLink RX5 57 yX5_isIn, Cond.static yX5_isIn, Cond.code yX5_isIn cX5_isIn 3 (some .boolean), Cond.methodLink RX5 87 yX5_isFiling, Cond.instanceMethod yX5_isFiling, Cond.selects RX5 yX5_isFiling yX5_isFiling, Cond.code yX5_isFiling cX5_isFiling 2 (some .boolean), Cond.fieldLink RX5 22 "DimfactsModel" "filings" "I"]
def wsX5_derived_r2 : List Cond := [Cond.methodLink RX5 65 yX5_can, Cond.instanceMethod yX5_can, Cond.selects RX5 yX5_can yX5_can, Cond.code yX5_can cX5_can 2 (some .boolean), Cond.fieldLink RX5 51 "DimfactsModel" "thrown" "I", Cond.methodLink RX5 107 yX5_derives, Cond.instanceMethod yX5_derives, Cond.selects RX5 yX5_derives yX5_derives, Cond.code yX5_derives cX5_derives 10 none, Cond.fieldLink RX5 38 "DimfactsModel" "value" "[I", Cond.fieldLink RX5 7 "DimfactsModel" "parent" "[I", Cond.fieldLink RX5 13 "DimfactsModel" "weight" "[I", Cond.methodLink RX5 97 yX5_holds, Cond.instanceMethod yX5_holds, Cond.selects RX5 yX5_holds yX5_holds, Cond.code yX5_holds cX5_holds 8 (some .int), Cond.fieldLink RX5 80 "DimfactsModel" "facts" "I", Cond.fieldLink RX5 35 "DimfactsModel" "filed" "[I", Cond.fieldLink RX5 41 "DimfactsModel" "decimals" "[I", Cond.methodLink RX5 83 yX5_isOf, Cond.instanceMethod yX5_isOf, Cond.selects RX5 yX5_isOf yX5_isOf, Cond.code yX5_isOf cX5_isOf 5 (some .boolean), Cond.fieldLink RX5 26 "DimfactsModel" "concept" "[I"]
def wsX5_derived_r3 : List Cond := [Cond.fieldLink RX5 29 "DimfactsModel" "period" "[I", Cond.fieldLink RX5 32 "DimfactsModel" "member" "[I"]
def wsX5_derived : List Cond := .code yX5_derived cX5_derived 5 (some .int) :: ((wsX5_derived_r1 ++ (wsX5_derived_r2 ++ wsX5_derived_r3)) ++ wsX50)
def wsX5_isOffBySum_r1 : List Cond := [Cond.fieldLink RX5 54 "DimfactsModel" "concepts" "I", Cond.fieldLink RX5 7 "DimfactsModel" "parent" "[I", Cond.fieldLink RX5 38 "DimfactsModel" "value" "[I", Cond.methodLink RX5 97 yX5_holds, Cond.instanceMethod yX5_holds, Cond.selects RX5 yX5_holds yX5_holds, Cond.initialized RX5, Cond.code yX5_holds cX5_holds 8 (some .int), Cond.fieldLink RX5 80 "DimfactsModel" "facts" "I", Cond.fieldLink RX5 35 "DimfactsModel" "filed" "[I", Cond.fieldLink RX5 41 "DimfactsModel" "decimals" "[I", Cond.methodLink RX5 83 yX5_isOf, Cond.instanceMethod yX5_isOf, Cond.selects RX5 yX5_isOf yX5_isOf, Cond.code yX5_isOf cX5_isOf 5 (some .boolean), Cond.fieldLink RX5 26 "DimfactsModel" "concept" "[I", Cond.fieldLink RX5 29 "DimfactsModel" "period" "[I", Cond.fieldLink RX5 32 "DimfactsModel" "member" "[I", Cond.methodLink RX5 90 yX5_doubtOf, Cond.instanceMethod yX5_doubtOf, Cond.selects RX5 yX5_doubtOf yX5_doubtOf, Cond.code yX5_doubtOf cX5_doubtOf 4 (some .int), Cond.methodLink RX5 104 yX5_sumOf, Cond.instanceMethod yX5_sumOf]
def wsX5_isOffBySum_r2 : List Cond := [Cond.selects RX5 yX5_sumOf yX5_sumOf, Cond.code yX5_sumOf cX5_sumOf 8 (some .int), Cond.fieldLink RX5 13 "DimfactsModel" "weight" "[I", Cond.methodLink RX5 94 yX5_isFar, Cond.static yX5_isFar, Cond.code yX5_isFar cX5_isFar 4 (some .boolean)]
def wsX5_isOffBySum : List Cond := .code yX5_isOffBySum cX5_isOffBySum 10 (some .boolean) :: ((wsX5_isOffBySum_r1 ++ wsX5_isOffBySum_r2) ++ wsX50)
def wsX5_isOffByMembers : List Cond := .code yX5_isOffByMembers cX5_isOffByMembers 9 (some .boolean) :: ([.fieldLink RX5 38 "DimfactsModel" "value" "[I", .methodLink RX5 97 yX5_holds, .instanceMethod yX5_holds, .selects RX5 yX5_holds yX5_holds, .initialized RX5, .code yX5_holds cX5_holds 8 (some .int), .fieldLink RX5 80 "DimfactsModel" "facts" "I", .fieldLink RX5 35 "DimfactsModel" "filed" "[I", .fieldLink RX5 41 "DimfactsModel" "decimals" "[I", .methodLink RX5 83 yX5_isOf, .instanceMethod yX5_isOf, .selects RX5 yX5_isOf yX5_isOf, .code yX5_isOf cX5_isOf 5 (some .boolean), .fieldLink RX5 26 "DimfactsModel" "concept" "[I", .fieldLink RX5 29 "DimfactsModel" "period" "[I", .fieldLink RX5 32 "DimfactsModel" "member" "[I", .methodLink RX5 90 yX5_doubtOf, .instanceMethod yX5_doubtOf, .selects RX5 yX5_doubtOf yX5_doubtOf, .code yX5_doubtOf cX5_doubtOf 4 (some .int), .methodLink RX5 94 yX5_isFar, .static yX5_isFar, .code yX5_isFar cX5_isFar 4 (some .boolean)] ++ wsX50)
def wsX5_isOffByRoll_r1 : List Cond := [Cond.fieldLink RX5 16 "DimfactsModel" "stock" "[I", Cond.fieldLink RX5 19 "DimfactsModel" "flow" "[I", Cond.fieldLink RX5 38 "DimfactsModel" "value" "[I", Cond.methodLink RX5 97 yX5_holds, Cond.instanceMethod yX5_holds, Cond.selects RX5 yX5_holds yX5_holds, Cond.initialized RX5, Cond.code yX5_holds cX5_holds 8 (some .int), Cond.fieldLink RX5 80 "DimfactsModel" "facts" "I", Cond.fieldLink RX5 35 "DimfactsModel" "filed" "[I", Cond.fieldLink RX5 41 "DimfactsModel" "decimals" "[I", Cond.methodLink RX5 83 yX5_isOf, Cond.instanceMethod yX5_isOf, Cond.selects RX5 yX5_isOf yX5_isOf, Cond.code yX5_isOf cX5_isOf 5 (some .boolean), Cond.fieldLink RX5 26 "DimfactsModel" "concept" "[I", Cond.fieldLink RX5 29 "DimfactsModel" "period" "[I", Cond.fieldLink RX5 32 "DimfactsModel" "member" "[I", Cond.methodLink RX5 90 yX5_doubtOf, Cond.instanceMethod yX5_doubtOf, Cond.selects RX5 yX5_doubtOf yX5_doubtOf, Cond.code yX5_doubtOf cX5_doubtOf 4 (some .int), Cond.methodLink RX5 94 yX5_isFar, Cond.static yX5_isFar]
def wsX5_isOffByRoll_r2 : List Cond := [Cond.code yX5_isFar cX5_isFar 4 (some .boolean)]
def wsX5_isOffByRoll : List Cond := .code yX5_isOffByRoll cX5_isOffByRoll 9 (some .boolean) :: ((wsX5_isOffByRoll_r1 ++ wsX5_isOffByRoll_r2) ++ wsX50)
def wsX5_isSumOff_r1 : List Cond := [Cond.methodLink RX5 101 yX5_isAsked, Cond.instanceMethod yX5_isAsked, Cond.selects RX5 yX5_isAsked yX5_isAsked, Cond.initialized RX5, Cond.code yX5_isAsked cX5_isAsked 5 (some .boolean), Cond.methodLink RX5 77 yX5_isKey, Cond.instanceMethod yX5_isKey, Cond.selects RX5 yX5_isKey yX5_isKey, Cond.code yX5_isKey cX5_isKey 4 (some .boolean), Cond.methodLink RX5 61 yX5_isConcept, Cond.instanceMethod yX5_isConcept, Cond.selects RX5 yX5_isConcept yX5_isConcept, Cond.code yX5_isConcept cX5_isConcept 2 (some .boolean), Cond.fieldLink RX5 54 "DimfactsModel" "concepts" "I", Cond.methodLink RX5 57 yX5_isIn, Cond.static yX5_isIn, Cond.code yX5_isIn cX5_isIn 3 (some .boolean), Cond.methodLink RX5 87 yX5_isFiling, Cond.instanceMethod yX5_isFiling, Cond.selects RX5 yX5_isFiling yX5_isFiling, Cond.code yX5_isFiling cX5_isFiling 2 (some .boolean), Cond.fieldLink RX5 22 "DimfactsModel" "filings" "I", Cond.methodLink RX5 65 yX5_can, Cond.instanceMethod yX5_can]
def wsX5_isSumOff_r2 : List Cond := [Cond.selects RX5 yX5_can yX5_can, Cond.code yX5_can cX5_can 2 (some .boolean), Cond.fieldLink RX5 51 "DimfactsModel" "thrown" "I", Cond.methodLink RX5 111 yX5_isOffBySum, Cond.instanceMethod yX5_isOffBySum, Cond.selects RX5 yX5_isOffBySum yX5_isOffBySum, Cond.code yX5_isOffBySum cX5_isOffBySum 10 (some .boolean), Cond.fieldLink RX5 7 "DimfactsModel" "parent" "[I", Cond.fieldLink RX5 38 "DimfactsModel" "value" "[I", Cond.methodLink RX5 97 yX5_holds, Cond.instanceMethod yX5_holds, Cond.selects RX5 yX5_holds yX5_holds, Cond.code yX5_holds cX5_holds 8 (some .int), Cond.fieldLink RX5 80 "DimfactsModel" "facts" "I", Cond.fieldLink RX5 35 "DimfactsModel" "filed" "[I", Cond.fieldLink RX5 41 "DimfactsModel" "decimals" "[I", Cond.methodLink RX5 83 yX5_isOf, Cond.instanceMethod yX5_isOf, Cond.selects RX5 yX5_isOf yX5_isOf, Cond.code yX5_isOf cX5_isOf 5 (some .boolean), Cond.fieldLink RX5 26 "DimfactsModel" "concept" "[I", Cond.fieldLink RX5 29 "DimfactsModel" "period" "[I", Cond.fieldLink RX5 32 "DimfactsModel" "member" "[I", Cond.methodLink RX5 90 yX5_doubtOf]
def wsX5_isSumOff_r3 : List Cond := [Cond.instanceMethod yX5_doubtOf, Cond.selects RX5 yX5_doubtOf yX5_doubtOf, Cond.code yX5_doubtOf cX5_doubtOf 4 (some .int), Cond.methodLink RX5 104 yX5_sumOf, Cond.instanceMethod yX5_sumOf, Cond.selects RX5 yX5_sumOf yX5_sumOf, Cond.code yX5_sumOf cX5_sumOf 8 (some .int), Cond.fieldLink RX5 13 "DimfactsModel" "weight" "[I", Cond.methodLink RX5 94 yX5_isFar, Cond.static yX5_isFar, Cond.code yX5_isFar cX5_isFar 4 (some .boolean)]
def wsX5_isSumOff : List Cond := .code yX5_isSumOff cX5_isSumOff 5 (some .boolean) :: ((wsX5_isSumOff_r1 ++ (wsX5_isSumOff_r2 ++ wsX5_isSumOff_r3)) ++ wsX50)
def wsX5_areMembersOff_r1 : List Cond := [Cond.methodLink RX5 101 yX5_isAsked, Cond.instanceMethod yX5_isAsked, Cond.selects RX5 yX5_isAsked yX5_isAsked, Cond.initialized RX5, Cond.code yX5_isAsked cX5_isAsked 5 (some .boolean), Cond.methodLink RX5 77 yX5_isKey, Cond.instanceMethod yX5_isKey, Cond.selects RX5 yX5_isKey yX5_isKey, Cond.code yX5_isKey cX5_isKey 4 (some .boolean), Cond.methodLink RX5 61 yX5_isConcept, Cond.instanceMethod yX5_isConcept, Cond.selects RX5 yX5_isConcept yX5_isConcept, Cond.code yX5_isConcept cX5_isConcept 2 (some .boolean), Cond.fieldLink RX5 54 "DimfactsModel" "concepts" "I", Cond.methodLink RX5 57 yX5_isIn, Cond.static yX5_isIn, Cond.code yX5_isIn cX5_isIn 3 (some .boolean), Cond.methodLink RX5 87 yX5_isFiling, Cond.instanceMethod yX5_isFiling, Cond.selects RX5 yX5_isFiling yX5_isFiling, Cond.code yX5_isFiling cX5_isFiling 2 (some .boolean), Cond.fieldLink RX5 22 "DimfactsModel" "filings" "I", Cond.methodLink RX5 65 yX5_can, Cond.instanceMethod yX5_can]
def wsX5_areMembersOff_r2 : List Cond := [Cond.selects RX5 yX5_can yX5_can, Cond.code yX5_can cX5_can 2 (some .boolean), Cond.fieldLink RX5 51 "DimfactsModel" "thrown" "I", Cond.methodLink RX5 114 yX5_isOffByMembers, Cond.instanceMethod yX5_isOffByMembers, Cond.selects RX5 yX5_isOffByMembers yX5_isOffByMembers, Cond.code yX5_isOffByMembers cX5_isOffByMembers 9 (some .boolean), Cond.fieldLink RX5 38 "DimfactsModel" "value" "[I", Cond.methodLink RX5 97 yX5_holds, Cond.instanceMethod yX5_holds, Cond.selects RX5 yX5_holds yX5_holds, Cond.code yX5_holds cX5_holds 8 (some .int), Cond.fieldLink RX5 80 "DimfactsModel" "facts" "I", Cond.fieldLink RX5 35 "DimfactsModel" "filed" "[I", Cond.fieldLink RX5 41 "DimfactsModel" "decimals" "[I", Cond.methodLink RX5 83 yX5_isOf, Cond.instanceMethod yX5_isOf, Cond.selects RX5 yX5_isOf yX5_isOf, Cond.code yX5_isOf cX5_isOf 5 (some .boolean), Cond.fieldLink RX5 26 "DimfactsModel" "concept" "[I", Cond.fieldLink RX5 29 "DimfactsModel" "period" "[I", Cond.fieldLink RX5 32 "DimfactsModel" "member" "[I", Cond.methodLink RX5 90 yX5_doubtOf, Cond.instanceMethod yX5_doubtOf]
def wsX5_areMembersOff_r3 : List Cond := [Cond.selects RX5 yX5_doubtOf yX5_doubtOf, Cond.code yX5_doubtOf cX5_doubtOf 4 (some .int), Cond.methodLink RX5 94 yX5_isFar, Cond.static yX5_isFar, Cond.code yX5_isFar cX5_isFar 4 (some .boolean)]
def wsX5_areMembersOff : List Cond := .code yX5_areMembersOff cX5_areMembersOff 4 (some .boolean) :: ((wsX5_areMembersOff_r1 ++ (wsX5_areMembersOff_r2 ++ wsX5_areMembersOff_r3)) ++ wsX50)
def wsX5_isRollOff_r1 : List Cond := [Cond.fieldLink RX5 72 "DimfactsModel" "rolls" "I", Cond.methodLink RX5 57 yX5_isIn, Cond.static yX5_isIn, Cond.initialized RX5, Cond.code yX5_isIn cX5_isIn 3 (some .boolean), Cond.methodLink RX5 87 yX5_isFiling, Cond.instanceMethod yX5_isFiling, Cond.selects RX5 yX5_isFiling yX5_isFiling, Cond.code yX5_isFiling cX5_isFiling 2 (some .boolean), Cond.fieldLink RX5 22 "DimfactsModel" "filings" "I", Cond.methodLink RX5 65 yX5_can, Cond.instanceMethod yX5_can, Cond.selects RX5 yX5_can yX5_can, Cond.code yX5_can cX5_can 2 (some .boolean), Cond.fieldLink RX5 51 "DimfactsModel" "thrown" "I", Cond.methodLink RX5 117 yX5_isOffByRoll, Cond.instanceMethod yX5_isOffByRoll, Cond.selects RX5 yX5_isOffByRoll yX5_isOffByRoll, Cond.code yX5_isOffByRoll cX5_isOffByRoll 9 (some .boolean), Cond.fieldLink RX5 16 "DimfactsModel" "stock" "[I", Cond.fieldLink RX5 19 "DimfactsModel" "flow" "[I", Cond.fieldLink RX5 38 "DimfactsModel" "value" "[I", Cond.methodLink RX5 97 yX5_holds, Cond.instanceMethod yX5_holds]
def wsX5_isRollOff_r2 : List Cond := [Cond.selects RX5 yX5_holds yX5_holds, Cond.code yX5_holds cX5_holds 8 (some .int), Cond.fieldLink RX5 80 "DimfactsModel" "facts" "I", Cond.fieldLink RX5 35 "DimfactsModel" "filed" "[I", Cond.fieldLink RX5 41 "DimfactsModel" "decimals" "[I", Cond.methodLink RX5 83 yX5_isOf, Cond.instanceMethod yX5_isOf, Cond.selects RX5 yX5_isOf yX5_isOf, Cond.code yX5_isOf cX5_isOf 5 (some .boolean), Cond.fieldLink RX5 26 "DimfactsModel" "concept" "[I", Cond.fieldLink RX5 29 "DimfactsModel" "period" "[I", Cond.fieldLink RX5 32 "DimfactsModel" "member" "[I", Cond.methodLink RX5 90 yX5_doubtOf, Cond.instanceMethod yX5_doubtOf, Cond.selects RX5 yX5_doubtOf yX5_doubtOf, Cond.code yX5_doubtOf cX5_doubtOf 4 (some .int), Cond.methodLink RX5 94 yX5_isFar, Cond.static yX5_isFar, Cond.code yX5_isFar cX5_isFar 4 (some .boolean)]
def wsX5_isRollOff : List Cond := .code yX5_isRollOff cX5_isRollOff 6 (some .boolean) :: ((wsX5_isRollOff_r1 ++ wsX5_isRollOff_r2) ++ wsX50)
def wsX5_allFaults_r1 : List Cond := [Cond.fieldLink RX5 54 "DimfactsModel" "concepts" "I", Cond.fieldLink RX5 72 "DimfactsModel" "rolls" "I", Cond.methodLink RX5 114 yX5_isOffByMembers, Cond.instanceMethod yX5_isOffByMembers, Cond.selects RX5 yX5_isOffByMembers yX5_isOffByMembers, Cond.initialized RX5, Cond.code yX5_isOffByMembers cX5_isOffByMembers 9 (some .boolean), Cond.fieldLink RX5 38 "DimfactsModel" "value" "[I", Cond.methodLink RX5 97 yX5_holds, Cond.instanceMethod yX5_holds, Cond.selects RX5 yX5_holds yX5_holds, Cond.code yX5_holds cX5_holds 8 (some .int), Cond.fieldLink RX5 80 "DimfactsModel" "facts" "I", Cond.fieldLink RX5 35 "DimfactsModel" "filed" "[I", Cond.fieldLink RX5 41 "DimfactsModel" "decimals" "[I", Cond.methodLink RX5 83 yX5_isOf, Cond.instanceMethod yX5_isOf, Cond.selects RX5 yX5_isOf yX5_isOf, Cond.code yX5_isOf cX5_isOf 5 (some .boolean), Cond.fieldLink RX5 26 "DimfactsModel" "concept" "[I", Cond.fieldLink RX5 29 "DimfactsModel" "period" "[I", Cond.fieldLink RX5 32 "DimfactsModel" "member" "[I", Cond.methodLink RX5 90 yX5_doubtOf, Cond.instanceMethod yX5_doubtOf]
def wsX5_allFaults_r2 : List Cond := [Cond.selects RX5 yX5_doubtOf yX5_doubtOf, Cond.code yX5_doubtOf cX5_doubtOf 4 (some .int), Cond.methodLink RX5 94 yX5_isFar, Cond.static yX5_isFar, Cond.code yX5_isFar cX5_isFar 4 (some .boolean), Cond.methodLink RX5 111 yX5_isOffBySum, Cond.instanceMethod yX5_isOffBySum, Cond.selects RX5 yX5_isOffBySum yX5_isOffBySum, Cond.code yX5_isOffBySum cX5_isOffBySum 10 (some .boolean), Cond.fieldLink RX5 7 "DimfactsModel" "parent" "[I", Cond.methodLink RX5 104 yX5_sumOf, Cond.instanceMethod yX5_sumOf, Cond.selects RX5 yX5_sumOf yX5_sumOf, Cond.code yX5_sumOf cX5_sumOf 8 (some .int), Cond.fieldLink RX5 13 "DimfactsModel" "weight" "[I", Cond.methodLink RX5 117 yX5_isOffByRoll, Cond.instanceMethod yX5_isOffByRoll, Cond.selects RX5 yX5_isOffByRoll yX5_isOffByRoll, Cond.code yX5_isOffByRoll cX5_isOffByRoll 9 (some .boolean), Cond.fieldLink RX5 16 "DimfactsModel" "stock" "[I", Cond.fieldLink RX5 19 "DimfactsModel" "flow" "[I"]
def wsX5_allFaults : List Cond := .code yX5_allFaults cX5_allFaults 6 (some .int) :: ((wsX5_allFaults_r1 ++ wsX5_allFaults_r2) ++ wsX50)
def wsX5_faults_r1 : List Cond := [Cond.methodLink RX5 87 yX5_isFiling, Cond.instanceMethod yX5_isFiling, Cond.selects RX5 yX5_isFiling yX5_isFiling, Cond.initialized RX5, Cond.code yX5_isFiling cX5_isFiling 2 (some .boolean), Cond.fieldLink RX5 22 "DimfactsModel" "filings" "I", Cond.methodLink RX5 57 yX5_isIn, Cond.static yX5_isIn, Cond.code yX5_isIn cX5_isIn 3 (some .boolean), Cond.methodLink RX5 65 yX5_can, Cond.instanceMethod yX5_can, Cond.selects RX5 yX5_can yX5_can, Cond.code yX5_can cX5_can 2 (some .boolean), Cond.fieldLink RX5 51 "DimfactsModel" "thrown" "I", Cond.methodLink RX5 120 yX5_allFaults, Cond.instanceMethod yX5_allFaults, Cond.selects RX5 yX5_allFaults yX5_allFaults, Cond.code yX5_allFaults cX5_allFaults 6 (some .int), Cond.fieldLink RX5 54 "DimfactsModel" "concepts" "I", Cond.fieldLink RX5 72 "DimfactsModel" "rolls" "I", Cond.methodLink RX5 114 yX5_isOffByMembers, Cond.instanceMethod yX5_isOffByMembers, Cond.selects RX5 yX5_isOffByMembers yX5_isOffByMembers, Cond.code yX5_isOffByMembers cX5_isOffByMembers 9 (some .boolean)]
def wsX5_faults_r2 : List Cond := [Cond.fieldLink RX5 38 "DimfactsModel" "value" "[I", Cond.methodLink RX5 97 yX5_holds, Cond.instanceMethod yX5_holds, Cond.selects RX5 yX5_holds yX5_holds, Cond.code yX5_holds cX5_holds 8 (some .int), Cond.fieldLink RX5 80 "DimfactsModel" "facts" "I", Cond.fieldLink RX5 35 "DimfactsModel" "filed" "[I", Cond.fieldLink RX5 41 "DimfactsModel" "decimals" "[I", Cond.methodLink RX5 83 yX5_isOf, Cond.instanceMethod yX5_isOf, Cond.selects RX5 yX5_isOf yX5_isOf, Cond.code yX5_isOf cX5_isOf 5 (some .boolean), Cond.fieldLink RX5 26 "DimfactsModel" "concept" "[I", Cond.fieldLink RX5 29 "DimfactsModel" "period" "[I", Cond.fieldLink RX5 32 "DimfactsModel" "member" "[I", Cond.methodLink RX5 90 yX5_doubtOf, Cond.instanceMethod yX5_doubtOf, Cond.selects RX5 yX5_doubtOf yX5_doubtOf, Cond.code yX5_doubtOf cX5_doubtOf 4 (some .int), Cond.methodLink RX5 94 yX5_isFar, Cond.static yX5_isFar, Cond.code yX5_isFar cX5_isFar 4 (some .boolean), Cond.methodLink RX5 111 yX5_isOffBySum, Cond.instanceMethod yX5_isOffBySum]
def wsX5_faults_r3 : List Cond := [Cond.selects RX5 yX5_isOffBySum yX5_isOffBySum, Cond.code yX5_isOffBySum cX5_isOffBySum 10 (some .boolean), Cond.fieldLink RX5 7 "DimfactsModel" "parent" "[I", Cond.methodLink RX5 104 yX5_sumOf, Cond.instanceMethod yX5_sumOf, Cond.selects RX5 yX5_sumOf yX5_sumOf, Cond.code yX5_sumOf cX5_sumOf 8 (some .int), Cond.fieldLink RX5 13 "DimfactsModel" "weight" "[I", Cond.methodLink RX5 117 yX5_isOffByRoll, Cond.instanceMethod yX5_isOffByRoll, Cond.selects RX5 yX5_isOffByRoll yX5_isOffByRoll, Cond.code yX5_isOffByRoll cX5_isOffByRoll 9 (some .boolean), Cond.fieldLink RX5 16 "DimfactsModel" "stock" "[I", Cond.fieldLink RX5 19 "DimfactsModel" "flow" "[I"]
def wsX5_faults : List Cond := .code yX5_faults cX5_faults 2 (some .int) :: ((wsX5_faults_r1 ++ (wsX5_faults_r2 ++ wsX5_faults_r3)) ++ wsX50)
def wsX5_faultsByList_r1 : List Cond := [Cond.methodLink RX5 87 yX5_isFiling, Cond.instanceMethod yX5_isFiling, Cond.selects RX5 yX5_isFiling yX5_isFiling, Cond.initialized RX5, Cond.code yX5_isFiling cX5_isFiling 2 (some .boolean), Cond.fieldLink RX5 22 "DimfactsModel" "filings" "I", Cond.methodLink RX5 57 yX5_isIn, Cond.static yX5_isIn, Cond.code yX5_isIn cX5_isIn 3 (some .boolean), Cond.methodLink RX5 65 yX5_can, Cond.instanceMethod yX5_can, Cond.selects RX5 yX5_can yX5_can, Cond.code yX5_can cX5_can 2 (some .boolean), Cond.fieldLink RX5 51 "DimfactsModel" "thrown" "I", Cond.methodLink RX5 120 yX5_allFaults, Cond.instanceMethod yX5_allFaults, Cond.selects RX5 yX5_allFaults yX5_allFaults, Cond.code yX5_allFaults cX5_allFaults 6 (some .int), Cond.fieldLink RX5 54 "DimfactsModel" "concepts" "I", Cond.fieldLink RX5 72 "DimfactsModel" "rolls" "I", Cond.methodLink RX5 114 yX5_isOffByMembers, Cond.instanceMethod yX5_isOffByMembers, Cond.selects RX5 yX5_isOffByMembers yX5_isOffByMembers, Cond.code yX5_isOffByMembers cX5_isOffByMembers 9 (some .boolean)]
def wsX5_faultsByList_r2 : List Cond := [Cond.fieldLink RX5 38 "DimfactsModel" "value" "[I", Cond.methodLink RX5 97 yX5_holds, Cond.instanceMethod yX5_holds, Cond.selects RX5 yX5_holds yX5_holds, Cond.code yX5_holds cX5_holds 8 (some .int), Cond.fieldLink RX5 80 "DimfactsModel" "facts" "I", Cond.fieldLink RX5 35 "DimfactsModel" "filed" "[I", Cond.fieldLink RX5 41 "DimfactsModel" "decimals" "[I", Cond.methodLink RX5 83 yX5_isOf, Cond.instanceMethod yX5_isOf, Cond.selects RX5 yX5_isOf yX5_isOf, Cond.code yX5_isOf cX5_isOf 5 (some .boolean), Cond.fieldLink RX5 26 "DimfactsModel" "concept" "[I", Cond.fieldLink RX5 29 "DimfactsModel" "period" "[I", Cond.fieldLink RX5 32 "DimfactsModel" "member" "[I", Cond.methodLink RX5 90 yX5_doubtOf, Cond.instanceMethod yX5_doubtOf, Cond.selects RX5 yX5_doubtOf yX5_doubtOf, Cond.code yX5_doubtOf cX5_doubtOf 4 (some .int), Cond.methodLink RX5 94 yX5_isFar, Cond.static yX5_isFar, Cond.code yX5_isFar cX5_isFar 4 (some .boolean), Cond.methodLink RX5 111 yX5_isOffBySum, Cond.instanceMethod yX5_isOffBySum]
def wsX5_faultsByList_r3 : List Cond := [Cond.selects RX5 yX5_isOffBySum yX5_isOffBySum, Cond.code yX5_isOffBySum cX5_isOffBySum 10 (some .boolean), Cond.fieldLink RX5 7 "DimfactsModel" "parent" "[I", Cond.methodLink RX5 104 yX5_sumOf, Cond.instanceMethod yX5_sumOf, Cond.selects RX5 yX5_sumOf yX5_sumOf, Cond.code yX5_sumOf cX5_sumOf 8 (some .int), Cond.fieldLink RX5 13 "DimfactsModel" "weight" "[I", Cond.methodLink RX5 117 yX5_isOffByRoll, Cond.instanceMethod yX5_isOffByRoll, Cond.selects RX5 yX5_isOffByRoll yX5_isOffByRoll, Cond.code yX5_isOffByRoll cX5_isOffByRoll 9 (some .boolean), Cond.fieldLink RX5 16 "DimfactsModel" "stock" "[I", Cond.fieldLink RX5 19 "DimfactsModel" "flow" "[I"]
def wsX5_faultsByList : List Cond := .code yX5_faultsByList cX5_faultsByList 2 (some .int) :: ((wsX5_faultsByList_r1 ++ (wsX5_faultsByList_r2 ++ wsX5_faultsByList_r3)) ++ wsX50)
def wsJ9_abs_0f7a4 : List Cond := .code yJ9_abs_0f7a4 cJ9_abs_0f7a4 1 (some .int) :: ([])
def wsL_addConcept : List Cond := .codeWith yL_addConcept cL_addConcept 3 (some .int) [(0, 8, 11, 13)] :: ([.classLink RL 13 "java/lang/IllegalStateException", .methodLink RL 7 yX4_addConcept, .instanceMethod yX4_addConcept, .selects RX4 yX4_addConcept yX4_addConcept, .initialized RX4, .code yX4_addConcept cX4_addConcept 2 (some .int), .classLink RX4 46 "java/lang/IllegalStateException", .initialized "java/lang/IllegalStateException", .fieldLink RX4 42 "Dimfacts" "conceptCount" "I", .fieldLink RX4 9 "Dimfacts" "parents" "[I"] ++ wsX40 ++ (vx_atS RX4 50 "java/lang/IllegalStateException" ["java/lang/RuntimeException", "java/lang/Exception"]).filter goodWord)
def wsL_hang : List Cond := .codeWith yL_hang cL_hang 6 (some .int) [(0, 12, 15, 19), (0, 12, 19, 21)] :: ([.classLink RL 19 "java/lang/IndexOutOfBoundsException", .classLink RL 21 "java/lang/IllegalArgumentException", .methodLink RL 15 yX4_hang, .instanceMethod yX4_hang, .selects RX4 yX4_hang yX4_hang, .initialized RX4, .code yX4_hang cX4_hang 5 (some .int), .classLink RX4 61 "java/lang/IllegalArgumentException", .initialized "java/lang/IllegalArgumentException", .fieldLink RX4 9 "Dimfacts" "parents" "[I", .fieldLink RX4 13 "Dimfacts" "weights" "[I", .methodLink RX4 53 yX4_checkConcept, .instanceMethod yX4_checkConcept, .selects RX4 yX4_checkConcept yX4_checkConcept, .code yX4_checkConcept cX4_checkConcept 2 none, .classLink RX4 166 "java/lang/IndexOutOfBoundsException", .initialized "java/lang/IndexOutOfBoundsException", .fieldLink RX4 42 "Dimfacts" "conceptCount" "I", .methodLink RX4 57 yX4_isAtOrUnder, .instanceMethod yX4_isAtOrUnder, .selects RX4 yX4_isAtOrUnder yX4_isAtOrUnder, .code yX4_isAtOrUnder cX4_isAtOrUnder 5 (some .boolean)] ++ wsX40 ++ (vx_atS RX4 65 "java/lang/IllegalArgumentException" ["java/lang/RuntimeException", "java/lang/Exception"]).filter goodWord ++ (vx_atS RX4 170 "java/lang/IndexOutOfBoundsException" ["java/lang/RuntimeException", "java/lang/Exception"]).filter goodWord)
def wsL_unhang : List Cond := .codeWith yL_unhang cL_unhang 4 (some .int) [(0, 9, 12, 19)] :: ([.classLink RL 19 "java/lang/IndexOutOfBoundsException", .methodLink RL 23 yX4_unhang, .instanceMethod yX4_unhang, .selects RX4 yX4_unhang yX4_unhang, .initialized RX4, .code yX4_unhang cX4_unhang 3 (some .int), .fieldLink RX4 9 "Dimfacts" "parents" "[I", .methodLink RX4 53 yX4_checkConcept, .instanceMethod yX4_checkConcept, .selects RX4 yX4_checkConcept yX4_checkConcept, .code yX4_checkConcept cX4_checkConcept 2 none, .classLink RX4 166 "java/lang/IndexOutOfBoundsException", .initialized "java/lang/IndexOutOfBoundsException", .fieldLink RX4 42 "Dimfacts" "conceptCount" "I"] ++ wsX40 ++ (vx_atS RX4 170 "java/lang/IndexOutOfBoundsException" ["java/lang/RuntimeException", "java/lang/Exception"]).filter goodWord)
def wsL_addRoll : List Cond := .codeWith yL_addRoll cL_addRoll 5 (some .int) [(0, 10, 13, 19), (0, 10, 17, 21), (0, 10, 21, 13)] :: ([.classLink RL 19 "java/lang/IndexOutOfBoundsException", .classLink RL 21 "java/lang/IllegalArgumentException", .classLink RL 13 "java/lang/IllegalStateException", .methodLink RL 27 yX4_addRoll, .instanceMethod yX4_addRoll, .selects RX4 yX4_addRoll yX4_addRoll, .initialized RX4, .code yX4_addRoll cX4_addRoll 4 (some .int), .classLink RX4 61 "java/lang/IllegalArgumentException", .initialized "java/lang/IllegalArgumentException", .classLink RX4 46 "java/lang/IllegalStateException", .initialized "java/lang/IllegalStateException", .fieldLink RX4 68 "Dimfacts" "ruleCount" "I", .fieldLink RX4 16 "Dimfacts" "stocks" "[I", .fieldLink RX4 19 "Dimfacts" "flows" "[I", .methodLink RX4 53 yX4_checkConcept, .instanceMethod yX4_checkConcept, .selects RX4 yX4_checkConcept yX4_checkConcept, .code yX4_checkConcept cX4_checkConcept 2 none, .classLink RX4 166 "java/lang/IndexOutOfBoundsException", .initialized "java/lang/IndexOutOfBoundsException", .fieldLink RX4 42 "Dimfacts" "conceptCount" "I"] ++ wsX40 ++ (vx_atS RX4 65 "java/lang/IllegalArgumentException" ["java/lang/RuntimeException", "java/lang/Exception"]).filter goodWord ++ (vx_atS RX4 50 "java/lang/IllegalStateException" ["java/lang/RuntimeException", "java/lang/Exception"]).filter goodWord ++ (vx_atS RX4 170 "java/lang/IndexOutOfBoundsException" ["java/lang/RuntimeException", "java/lang/Exception"]).filter goodWord)
def wsL_file : List Cond := .codeWith yL_file cL_file 3 (some .int) [(0, 8, 11, 13)] :: ([.classLink RL 13 "java/lang/IllegalStateException", .methodLink RL 31 yX4_file, .instanceMethod yX4_file, .selects RX4 yX4_file yX4_file, .initialized RX4, .code yX4_file cX4_file 1 (some .int), .classLink RX4 46 "java/lang/IllegalStateException", .initialized "java/lang/IllegalStateException", .fieldLink RX4 73 "Dimfacts" "latest" "I"] ++ wsX40 ++ (vx_atS RX4 50 "java/lang/IllegalStateException" ["java/lang/RuntimeException", "java/lang/Exception"]).filter goodWord)
def wsL_tell_r1 : List Cond := [Cond.classLink RL 19 "java/lang/IndexOutOfBoundsException", Cond.classLink RL 21 "java/lang/IllegalArgumentException", Cond.classLink RL 13 "java/lang/IllegalStateException", Cond.methodLink RL 34 yX4_tell, Cond.instanceMethod yX4_tell, Cond.selects RX4 yX4_tell yX4_tell, Cond.initialized RX4, Cond.code yX4_tell cX4_tell 7 (some .int), Cond.classLink RX4 61 "java/lang/IllegalArgumentException", Cond.initialized "java/lang/IllegalArgumentException", Cond.classLink RX4 46 "java/lang/IllegalStateException", Cond.initialized "java/lang/IllegalStateException", Cond.constant RX4 82 (-1000000), Cond.constant RX4 83 (1000000), Cond.fieldLink RX4 25 "Dimfacts" "listed" "LDimfacts$ListedFacts;", Cond.classLink RX4 94 RX0, Cond.instantiable RX0 5, Cond.initialized RX0, Cond.fieldLink RX4 73 "Dimfacts" "latest" "I", Cond.fieldLink RX4 100 "Dimfacts" "DOUBTS" "[I", Cond.fieldLink RX4 32 "Dimfacts" "keyed" "LDimfacts$KeyedFacts;", Cond.fieldLink RX4 111 "Dimfacts$ListedFacts" "count" "I", Cond.methodLink RX4 78 yX4_checkKey, Cond.instanceMethod yX4_checkKey]
def wsL_tell_r2 : List Cond := [Cond.selects RX4 yX4_checkKey yX4_checkKey, Cond.code yX4_checkKey cX4_checkKey 4 none, Cond.methodLink RX4 53 yX4_checkConcept, Cond.instanceMethod yX4_checkConcept, Cond.selects RX4 yX4_checkConcept yX4_checkConcept, Cond.code yX4_checkConcept cX4_checkConcept 2 none, Cond.classLink RX4 166 "java/lang/IndexOutOfBoundsException", Cond.initialized "java/lang/IndexOutOfBoundsException", Cond.fieldLink RX4 42 "Dimfacts" "conceptCount" "I", Cond.methodLink RX4 171 yX4_checkPeriodAndMember, Cond.static yX4_checkPeriodAndMember, Cond.code yX4_checkPeriodAndMember cX4_checkPeriodAndMember 2 none, Cond.methodLink RX4 88 yX3_isFull, Cond.instanceMethod yX3_isFull, Cond.selects RX3 yX3_isFull yX3_isFull, Cond.initialized RX3, Cond.code yX3_isFull cX3_isFull 1 (some .boolean), Cond.fieldLink RX3 17 "Dimfacts$ListedFacts" "count" "I", Cond.methodLink RX4 96 yX4_keyOf, Cond.static yX4_keyOf, Cond.code yX4_keyOf cX4_keyOf 3 (some .int), Cond.methodLink RX4 103 yX0_init, Cond.instanceMethod yX0_init, Cond.code yX0_init cX0_init 5 none]
def wsL_tell_r3 : List Cond := [Cond.methodLink RX0 1 objectInit, Cond.instanceMethod objectInit, Cond.code objectInit ⟨#[0xb1]⟩ 1 none, Cond.fieldLink RX0 7 "Dimfacts$Fact" "key" "I", Cond.fieldLink RX0 13 "Dimfacts$Fact" "filing" "I", Cond.fieldLink RX0 16 "Dimfacts$Fact" "value" "I", Cond.fieldLink RX0 19 "Dimfacts$Fact" "doubt" "I", Cond.methodLink RX4 106 yX3_keep, Cond.instanceMethod yX3_keep, Cond.selects RX3 yX3_keep yX3_keep, Cond.code yX3_keep cX3_keep 2 none, Cond.fieldLink RX3 11 "Dimfacts$ListedFacts" "facts" "[LDimfacts$Fact;", Cond.methodLink RX4 110 yX2_keep, Cond.instanceMethod yX2_keep, Cond.selects RX2 yX2_keep yX2_keep, Cond.initialized RX2, Cond.code yX2_keep cX2_keep 3 none, Cond.fieldLink RX2 11 "Dimfacts$KeyedFacts" "firsts" "[LDimfacts$Fact;", Cond.fieldLink RX2 17 "Dimfacts$Fact" "key" "I", Cond.fieldLink RX2 25 "Dimfacts$Fact" "next" "LDimfacts$Fact;", Cond.methodLink RX2 21 yX0_replaces, Cond.instanceMethod yX0_replaces, Cond.selects RX0 yX0_replaces yX0_replaces, Cond.code yX0_replaces cX0_replaces 2 (some .boolean)]
def wsL_tell : List Cond := .codeWith yL_tell cL_tell 8 (some .int) [(0, 16, 19, 19), (0, 16, 23, 21), (0, 16, 27, 13)] :: ((wsL_tell_r1 ++ (wsL_tell_r2 ++ wsL_tell_r3)) ++ wsX40 ++ wsX00 ++ wsX30 ++ wsX20 ++ (vx_atS RX4 65 "java/lang/IllegalArgumentException" ["java/lang/RuntimeException", "java/lang/Exception"]).filter goodWord ++ (vx_atS RX4 50 "java/lang/IllegalStateException" ["java/lang/RuntimeException", "java/lang/Exception"]).filter goodWord ++ (vx_atS RX4 170 "java/lang/IndexOutOfBoundsException" ["java/lang/RuntimeException", "java/lang/Exception"]).filter goodWord)
def wsL_disagreements_r1 : List Cond := [Cond.classLink RL 19 "java/lang/IndexOutOfBoundsException", Cond.methodLink RL 38 yX4_disagreements, Cond.instanceMethod yX4_disagreements, Cond.selects RX4 yX4_disagreements yX4_disagreements, Cond.initialized RX4, Cond.code yX4_disagreements cX4_disagreements 5 (some .int), Cond.fieldLink RX4 25 "Dimfacts" "listed" "LDimfacts$ListedFacts;", Cond.fieldLink RX4 111 "Dimfacts$ListedFacts" "count" "I", Cond.fieldLink RX4 117 "Dimfacts$ListedFacts" "facts" "[LDimfacts$Fact;", Cond.fieldLink RX4 121 "Dimfacts$Fact" "filing" "I", Cond.methodLink RX4 114 yX4_checkFiling, Cond.instanceMethod yX4_checkFiling, Cond.selects RX4 yX4_checkFiling yX4_checkFiling, Cond.code yX4_checkFiling cX4_checkFiling 2 none, Cond.classLink RX4 166 "java/lang/IndexOutOfBoundsException", Cond.initialized "java/lang/IndexOutOfBoundsException", Cond.fieldLink RX4 73 "Dimfacts" "latest" "I", Cond.methodLink RX4 124 yX3_countAgainst, Cond.instanceMethod yX3_countAgainst, Cond.selects RX3 yX3_countAgainst yX3_countAgainst, Cond.initialized RX3, Cond.code yX3_countAgainst cX3_countAgainst 6 (some .int), Cond.fieldLink RX3 11 "Dimfacts$ListedFacts" "facts" "[LDimfacts$Fact;", Cond.methodLink RX3 31 yX0_disagreesWith]
def wsL_disagreements_r2 : List Cond := [Cond.instanceMethod yX0_disagreesWith, Cond.selects RX0 yX0_disagreesWith yX0_disagreesWith, Cond.initialized RX0, Cond.code yX0_disagreesWith cX0_disagreesWith 2 (some .boolean), Cond.fieldLink RX0 13 "Dimfacts$Fact" "filing" "I", Cond.fieldLink RX0 7 "Dimfacts$Fact" "key" "I", Cond.fieldLink RX0 16 "Dimfacts$Fact" "value" "I", Cond.fieldLink RX0 19 "Dimfacts$Fact" "doubt" "I", Cond.static yX4_isApart, Cond.code yX4_isApart cX4_isApart 3 (some .boolean), Cond.methodLink RX4 203 Lib.Math.abs.name, Cond.static Lib.Math.abs.name, Cond.initialized "java/lang/Math", Cond.code Lib.Math.abs.name Lib.Math.abs.code 1 (some .int)]
def wsL_disagreements : List Cond := .codeWith yL_disagreements cL_disagreements 4 (some .int) [(0, 9, 12, 19)] :: ((wsL_disagreements_r1 ++ wsL_disagreements_r2) ++ wsX40 ++ wsX30 ++ wsX00 ++ (vx_atS RX4 170 "java/lang/IndexOutOfBoundsException" ["java/lang/RuntimeException", "java/lang/Exception"]).filter goodWord)
def wsL_restated_r1 : List Cond := [Cond.classLink RL 19 "java/lang/IndexOutOfBoundsException", Cond.methodLink RL 41 yX4_restated, Cond.instanceMethod yX4_restated, Cond.selects RX4 yX4_restated yX4_restated, Cond.initialized RX4, Cond.code yX4_restated cX4_restated 4 (some .int), Cond.fieldLink RX4 42 "Dimfacts" "conceptCount" "I", Cond.methodLink RX4 114 yX4_checkFiling, Cond.instanceMethod yX4_checkFiling, Cond.selects RX4 yX4_checkFiling yX4_checkFiling, Cond.code yX4_checkFiling cX4_checkFiling 2 none, Cond.classLink RX4 166 "java/lang/IndexOutOfBoundsException", Cond.initialized "java/lang/IndexOutOfBoundsException", Cond.fieldLink RX4 73 "Dimfacts" "latest" "I", Cond.methodLink RX4 128 yX4_isRestated, Cond.instanceMethod yX4_isRestated, Cond.selects RX4 yX4_isRestated yX4_isRestated, Cond.code yX4_isRestated cX4_isRestated 5 (some .boolean), Cond.fieldLink RX4 32 "Dimfacts" "keyed" "LDimfacts$KeyedFacts;", Cond.fieldLink RX4 121 "Dimfacts$Fact" "filing" "I", Cond.fieldLink RX4 135 "Dimfacts$Fact" "value" "I", Cond.methodLink RX4 145 yX2_holding, Cond.instanceMethod yX2_holding, Cond.selects RX2 yX2_holding yX2_holding]
def wsL_restated_r2 : List Cond := [Cond.initialized RX2, Cond.code yX2_holding cX2_holding 4 (some (.object "Dimfacts$Fact")), Cond.fieldLink RX2 11 "Dimfacts$KeyedFacts" "firsts" "[LDimfacts$Fact;", Cond.fieldLink RX2 29 "Dimfacts$Fact" "filing" "I", Cond.fieldLink RX2 25 "Dimfacts$Fact" "next" "LDimfacts$Fact;"]
def wsL_restated : List Cond := .codeWith yL_restated cL_restated 4 (some .int) [(0, 9, 12, 19)] :: ((wsL_restated_r1 ++ wsL_restated_r2) ++ wsX40 ++ wsX00 ++ wsX20 ++ (vx_atS RX4 170 "java/lang/IndexOutOfBoundsException" ["java/lang/RuntimeException", "java/lang/Exception"]).filter goodWord)
def wsL_value_r1 : List Cond := [Cond.classLink RL 19 "java/lang/IndexOutOfBoundsException", Cond.classLink RL 48 "java/util/NoSuchElementException", Cond.methodLink RL 44 yX4_value, Cond.instanceMethod yX4_value, Cond.selects RX4 yX4_value yX4_value, Cond.initialized RX4, Cond.code yX4_value cX4_value 5 (some .int), Cond.fieldLink RX4 135 "Dimfacts$Fact" "value" "I", Cond.methodLink RX4 131 yX4_heldFact, Cond.instanceMethod yX4_heldFact, Cond.selects RX4 yX4_heldFact yX4_heldFact, Cond.code yX4_heldFact cX4_heldFact 6 (some (.object "Dimfacts$Fact")), Cond.classLink RX4 153 "java/util/NoSuchElementException", Cond.initialized "java/util/NoSuchElementException", Cond.fieldLink RX4 32 "Dimfacts" "keyed" "LDimfacts$KeyedFacts;", Cond.methodLink RX4 78 yX4_checkKey, Cond.instanceMethod yX4_checkKey, Cond.selects RX4 yX4_checkKey yX4_checkKey, Cond.code yX4_checkKey cX4_checkKey 4 none, Cond.methodLink RX4 53 yX4_checkConcept, Cond.instanceMethod yX4_checkConcept, Cond.selects RX4 yX4_checkConcept yX4_checkConcept, Cond.code yX4_checkConcept cX4_checkConcept 2 none, Cond.classLink RX4 166 "java/lang/IndexOutOfBoundsException"]
def wsL_value_r2 : List Cond := [Cond.initialized "java/lang/IndexOutOfBoundsException", Cond.fieldLink RX4 42 "Dimfacts" "conceptCount" "I", Cond.methodLink RX4 171 yX4_checkPeriodAndMember, Cond.static yX4_checkPeriodAndMember, Cond.code yX4_checkPeriodAndMember cX4_checkPeriodAndMember 2 none, Cond.methodLink RX4 114 yX4_checkFiling, Cond.instanceMethod yX4_checkFiling, Cond.selects RX4 yX4_checkFiling yX4_checkFiling, Cond.code yX4_checkFiling cX4_checkFiling 2 none, Cond.fieldLink RX4 73 "Dimfacts" "latest" "I", Cond.methodLink RX4 96 yX4_keyOf, Cond.static yX4_keyOf, Cond.code yX4_keyOf cX4_keyOf 3 (some .int), Cond.methodLink RX4 145 yX2_holding, Cond.instanceMethod yX2_holding, Cond.selects RX2 yX2_holding yX2_holding, Cond.initialized RX2, Cond.code yX2_holding cX2_holding 4 (some (.object "Dimfacts$Fact")), Cond.fieldLink RX2 11 "Dimfacts$KeyedFacts" "firsts" "[LDimfacts$Fact;", Cond.fieldLink RX2 29 "Dimfacts$Fact" "filing" "I", Cond.fieldLink RX2 25 "Dimfacts$Fact" "next" "LDimfacts$Fact;"]
def wsL_value : List Cond := .codeWith yL_value cL_value 7 (some .int) [(0, 14, 17, 19), (0, 14, 21, 48)] :: ((wsL_value_r1 ++ wsL_value_r2) ++ wsX00 ++ wsX40 ++ wsX20 ++ (nx_at RX4 157).filter goodWord ++ (vx_atS RX4 170 "java/lang/IndexOutOfBoundsException" ["java/lang/RuntimeException", "java/lang/Exception"]).filter goodWord)
def wsL_doubt_r1 : List Cond := [Cond.classLink RL 19 "java/lang/IndexOutOfBoundsException", Cond.classLink RL 48 "java/util/NoSuchElementException", Cond.methodLink RL 50 yX4_doubt, Cond.instanceMethod yX4_doubt, Cond.selects RX4 yX4_doubt yX4_doubt, Cond.initialized RX4, Cond.code yX4_doubt cX4_doubt 5 (some .int), Cond.fieldLink RX4 138 "Dimfacts$Fact" "doubt" "I", Cond.methodLink RX4 131 yX4_heldFact, Cond.instanceMethod yX4_heldFact, Cond.selects RX4 yX4_heldFact yX4_heldFact, Cond.code yX4_heldFact cX4_heldFact 6 (some (.object "Dimfacts$Fact")), Cond.classLink RX4 153 "java/util/NoSuchElementException", Cond.initialized "java/util/NoSuchElementException", Cond.fieldLink RX4 32 "Dimfacts" "keyed" "LDimfacts$KeyedFacts;", Cond.methodLink RX4 78 yX4_checkKey, Cond.instanceMethod yX4_checkKey, Cond.selects RX4 yX4_checkKey yX4_checkKey, Cond.code yX4_checkKey cX4_checkKey 4 none, Cond.methodLink RX4 53 yX4_checkConcept, Cond.instanceMethod yX4_checkConcept, Cond.selects RX4 yX4_checkConcept yX4_checkConcept, Cond.code yX4_checkConcept cX4_checkConcept 2 none, Cond.classLink RX4 166 "java/lang/IndexOutOfBoundsException"]
def wsL_doubt_r2 : List Cond := [Cond.initialized "java/lang/IndexOutOfBoundsException", Cond.fieldLink RX4 42 "Dimfacts" "conceptCount" "I", Cond.methodLink RX4 171 yX4_checkPeriodAndMember, Cond.static yX4_checkPeriodAndMember, Cond.code yX4_checkPeriodAndMember cX4_checkPeriodAndMember 2 none, Cond.methodLink RX4 114 yX4_checkFiling, Cond.instanceMethod yX4_checkFiling, Cond.selects RX4 yX4_checkFiling yX4_checkFiling, Cond.code yX4_checkFiling cX4_checkFiling 2 none, Cond.fieldLink RX4 73 "Dimfacts" "latest" "I", Cond.methodLink RX4 96 yX4_keyOf, Cond.static yX4_keyOf, Cond.code yX4_keyOf cX4_keyOf 3 (some .int), Cond.methodLink RX4 145 yX2_holding, Cond.instanceMethod yX2_holding, Cond.selects RX2 yX2_holding yX2_holding, Cond.initialized RX2, Cond.code yX2_holding cX2_holding 4 (some (.object "Dimfacts$Fact")), Cond.fieldLink RX2 11 "Dimfacts$KeyedFacts" "firsts" "[LDimfacts$Fact;", Cond.fieldLink RX2 29 "Dimfacts$Fact" "filing" "I", Cond.fieldLink RX2 25 "Dimfacts$Fact" "next" "LDimfacts$Fact;"]
def wsL_doubt : List Cond := .codeWith yL_doubt cL_doubt 7 (some .int) [(0, 14, 17, 19), (0, 14, 21, 48)] :: ((wsL_doubt_r1 ++ wsL_doubt_r2) ++ wsX00 ++ wsX40 ++ wsX20 ++ (nx_at RX4 157).filter goodWord ++ (vx_atS RX4 170 "java/lang/IndexOutOfBoundsException" ["java/lang/RuntimeException", "java/lang/Exception"]).filter goodWord)
def wsL_sum_r1 : List Cond := [Cond.classLink RL 19 "java/lang/IndexOutOfBoundsException", Cond.methodLink RL 53 yX4_sum, Cond.instanceMethod yX4_sum, Cond.selects RX4 yX4_sum yX4_sum, Cond.initialized RX4, Cond.code yX4_sum cX4_sum 8 (some .int), Cond.fieldLink RX4 42 "Dimfacts" "conceptCount" "I", Cond.fieldLink RX4 32 "Dimfacts" "keyed" "LDimfacts$KeyedFacts;", Cond.fieldLink RX4 13 "Dimfacts" "weights" "[I", Cond.fieldLink RX4 135 "Dimfacts$Fact" "value" "I", Cond.methodLink RX4 78 yX4_checkKey, Cond.instanceMethod yX4_checkKey, Cond.selects RX4 yX4_checkKey yX4_checkKey, Cond.code yX4_checkKey cX4_checkKey 4 none, Cond.methodLink RX4 53 yX4_checkConcept, Cond.instanceMethod yX4_checkConcept, Cond.selects RX4 yX4_checkConcept yX4_checkConcept, Cond.code yX4_checkConcept cX4_checkConcept 2 none, Cond.classLink RX4 166 "java/lang/IndexOutOfBoundsException", Cond.initialized "java/lang/IndexOutOfBoundsException", Cond.methodLink RX4 171 yX4_checkPeriodAndMember, Cond.static yX4_checkPeriodAndMember, Cond.code yX4_checkPeriodAndMember cX4_checkPeriodAndMember 2 none, Cond.methodLink RX4 114 yX4_checkFiling]
def wsL_sum_r2 : List Cond := [Cond.instanceMethod yX4_checkFiling, Cond.selects RX4 yX4_checkFiling yX4_checkFiling, Cond.code yX4_checkFiling cX4_checkFiling 2 none, Cond.fieldLink RX4 73 "Dimfacts" "latest" "I", Cond.methodLink RX4 96 yX4_keyOf, Cond.static yX4_keyOf, Cond.code yX4_keyOf cX4_keyOf 3 (some .int), Cond.methodLink RX4 141 yX4_partHolding, Cond.instanceMethod yX4_partHolding, Cond.selects RX4 yX4_partHolding yX4_partHolding, Cond.code yX4_partHolding cX4_partHolding 6 (some (.object "Dimfacts$Fact")), Cond.fieldLink RX4 9 "Dimfacts" "parents" "[I", Cond.methodLink RX4 196 ⟨"Dimfacts$FactStore", "holding", "(II)LDimfacts$Fact;"⟩, Cond.sameMethod "Dimfacts$FactStore" "Dimfacts$FactStore" "holding" "(II)LDimfacts$Fact;", Cond.selects RX2 ⟨"Dimfacts$FactStore", "holding", "(II)LDimfacts$Fact;"⟩ yX2_holding, Cond.instanceMethod yX2_holding, Cond.initialized RX2, Cond.code yX2_holding cX2_holding 4 (some (.object "Dimfacts$Fact")), Cond.fieldLink RX2 11 "Dimfacts$KeyedFacts" "firsts" "[LDimfacts$Fact;", Cond.fieldLink RX2 29 "Dimfacts$Fact" "filing" "I", Cond.fieldLink RX2 25 "Dimfacts$Fact" "next" "LDimfacts$Fact;", Cond.selects RX3 ⟨"Dimfacts$FactStore", "holding", "(II)LDimfacts$Fact;"⟩ yX3_holding, Cond.instanceMethod yX3_holding, Cond.initialized RX3]
def wsL_sum_r3 : List Cond := [Cond.code yX3_holding cX3_holding 6 (some (.object "Dimfacts$Fact")), Cond.fieldLink RX3 17 "Dimfacts$ListedFacts" "count" "I", Cond.fieldLink RX3 11 "Dimfacts$ListedFacts" "facts" "[LDimfacts$Fact;", Cond.fieldLink RX3 21 "Dimfacts$Fact" "key" "I", Cond.fieldLink RX3 24 "Dimfacts$Fact" "filing" "I", Cond.methodLink RX3 27 yX0_replaces, Cond.instanceMethod yX0_replaces, Cond.selects RX0 yX0_replaces yX0_replaces, Cond.initialized RX0, Cond.code yX0_replaces cX0_replaces 2 (some .boolean), Cond.fieldLink RX0 13 "Dimfacts$Fact" "filing" "I", Cond.fieldLink RX0 19 "Dimfacts$Fact" "doubt" "I"]
def wsL_sum : List Cond := .codeWith yL_sum cL_sum 7 (some .int) [(0, 14, 17, 19)] :: ((wsL_sum_r1 ++ (wsL_sum_r2 ++ wsL_sum_r3)) ++ wsX40 ++ wsX00 ++ wsX20 ++ wsX30 ++ (vx_atS RX4 170 "java/lang/IndexOutOfBoundsException" ["java/lang/RuntimeException", "java/lang/Exception"]).filter goodWord)
def wsL_derived_r1 : List Cond := [Cond.classLink RL 19 "java/lang/IndexOutOfBoundsException", Cond.classLink RL 48 "java/util/NoSuchElementException", Cond.methodLink RL 56 yX4_derived, Cond.instanceMethod yX4_derived, Cond.selects RX4 yX4_derived yX4_derived, Cond.initialized RX4, Cond.code yX4_derived cX4_derived 10 (some .int), Cond.classLink RX4 153 "java/util/NoSuchElementException", Cond.initialized "java/util/NoSuchElementException", Cond.fieldLink RX4 36 "Dimfacts" "reached" "[I", Cond.fieldLink RX4 39 "Dimfacts" "signs" "[I", Cond.fieldLink RX4 32 "Dimfacts" "keyed" "LDimfacts$KeyedFacts;", Cond.fieldLink RX4 135 "Dimfacts$Fact" "value" "I", Cond.methodLink RX4 78 yX4_checkKey, Cond.instanceMethod yX4_checkKey, Cond.selects RX4 yX4_checkKey yX4_checkKey, Cond.code yX4_checkKey cX4_checkKey 4 none, Cond.methodLink RX4 53 yX4_checkConcept, Cond.instanceMethod yX4_checkConcept, Cond.selects RX4 yX4_checkConcept yX4_checkConcept, Cond.code yX4_checkConcept cX4_checkConcept 2 none, Cond.classLink RX4 166 "java/lang/IndexOutOfBoundsException", Cond.initialized "java/lang/IndexOutOfBoundsException", Cond.fieldLink RX4 42 "Dimfacts" "conceptCount" "I"]
def wsL_derived_r2 : List Cond := [Cond.methodLink RX4 171 yX4_checkPeriodAndMember, Cond.static yX4_checkPeriodAndMember, Cond.code yX4_checkPeriodAndMember cX4_checkPeriodAndMember 2 none, Cond.methodLink RX4 114 yX4_checkFiling, Cond.instanceMethod yX4_checkFiling, Cond.selects RX4 yX4_checkFiling yX4_checkFiling, Cond.code yX4_checkFiling cX4_checkFiling 2 none, Cond.fieldLink RX4 73 "Dimfacts" "latest" "I", Cond.methodLink RX4 96 yX4_keyOf, Cond.static yX4_keyOf, Cond.code yX4_keyOf cX4_keyOf 3 (some .int), Cond.methodLink RX4 145 yX2_holding, Cond.instanceMethod yX2_holding, Cond.selects RX2 yX2_holding yX2_holding, Cond.initialized RX2, Cond.code yX2_holding cX2_holding 4 (some (.object "Dimfacts$Fact")), Cond.fieldLink RX2 11 "Dimfacts$KeyedFacts" "firsts" "[LDimfacts$Fact;", Cond.fieldLink RX2 29 "Dimfacts$Fact" "filing" "I", Cond.fieldLink RX2 25 "Dimfacts$Fact" "next" "LDimfacts$Fact;", Cond.methodLink RX4 149 yX4_reachParts, Cond.instanceMethod yX4_reachParts, Cond.selects RX4 yX4_reachParts yX4_reachParts, Cond.code yX4_reachParts cX4_reachParts 5 (some .int), Cond.fieldLink RX4 9 "Dimfacts" "parents" "[I"]
def wsL_derived_r3 : List Cond := [Cond.fieldLink RX4 13 "Dimfacts" "weights" "[I"]
def wsL_derived : List Cond := .codeWith yL_derived cL_derived 7 (some .int) [(0, 14, 17, 19), (0, 14, 21, 48)] :: ((wsL_derived_r1 ++ (wsL_derived_r2 ++ wsL_derived_r3)) ++ wsX40 ++ wsX00 ++ wsX20 ++ (nx_at RX4 157).filter goodWord ++ (vx_atS RX4 170 "java/lang/IndexOutOfBoundsException" ["java/lang/RuntimeException", "java/lang/Exception"]).filter goodWord)
def wsL_isSumOff_r1 : List Cond := [Cond.classLink RL 19 "java/lang/IndexOutOfBoundsException", Cond.methodLink RL 59 yX4_isSumOff, Cond.instanceMethod yX4_isSumOff, Cond.selects RX4 yX4_isSumOff yX4_isSumOff, Cond.initialized RX4, Cond.code yX4_isSumOff cX4_isSumOff 5 (some .boolean), Cond.fieldLink RX4 32 "Dimfacts" "keyed" "LDimfacts$KeyedFacts;", Cond.methodLink RX4 78 yX4_checkKey, Cond.instanceMethod yX4_checkKey, Cond.selects RX4 yX4_checkKey yX4_checkKey, Cond.code yX4_checkKey cX4_checkKey 4 none, Cond.methodLink RX4 53 yX4_checkConcept, Cond.instanceMethod yX4_checkConcept, Cond.selects RX4 yX4_checkConcept yX4_checkConcept, Cond.code yX4_checkConcept cX4_checkConcept 2 none, Cond.classLink RX4 166 "java/lang/IndexOutOfBoundsException", Cond.initialized "java/lang/IndexOutOfBoundsException", Cond.fieldLink RX4 42 "Dimfacts" "conceptCount" "I", Cond.methodLink RX4 171 yX4_checkPeriodAndMember, Cond.static yX4_checkPeriodAndMember, Cond.code yX4_checkPeriodAndMember cX4_checkPeriodAndMember 2 none, Cond.methodLink RX4 114 yX4_checkFiling, Cond.instanceMethod yX4_checkFiling, Cond.selects RX4 yX4_checkFiling yX4_checkFiling]
def wsL_isSumOff_r2 : List Cond := [Cond.code yX4_checkFiling cX4_checkFiling 2 none, Cond.fieldLink RX4 73 "Dimfacts" "latest" "I", Cond.methodLink RX4 158 yX4_sumFails, Cond.instanceMethod yX4_sumFails, Cond.selects RX4 yX4_sumFails yX4_sumFails, Cond.code yX4_sumFails cX4_sumFails 12 (some .boolean), Cond.fieldLink RX4 138 "Dimfacts$Fact" "doubt" "I", Cond.fieldLink RX4 13 "Dimfacts" "weights" "[I", Cond.fieldLink RX4 135 "Dimfacts$Fact" "value" "I", Cond.methodLink RX4 96 yX4_keyOf, Cond.static yX4_keyOf, Cond.code yX4_keyOf cX4_keyOf 3 (some .int), Cond.methodLink RX4 196 ⟨"Dimfacts$FactStore", "holding", "(II)LDimfacts$Fact;"⟩, Cond.sameMethod "Dimfacts$FactStore" "Dimfacts$FactStore" "holding" "(II)LDimfacts$Fact;", Cond.selects RX2 ⟨"Dimfacts$FactStore", "holding", "(II)LDimfacts$Fact;"⟩ yX2_holding, Cond.instanceMethod yX2_holding, Cond.initialized RX2, Cond.code yX2_holding cX2_holding 4 (some (.object "Dimfacts$Fact")), Cond.fieldLink RX2 11 "Dimfacts$KeyedFacts" "firsts" "[LDimfacts$Fact;", Cond.fieldLink RX2 29 "Dimfacts$Fact" "filing" "I", Cond.fieldLink RX2 25 "Dimfacts$Fact" "next" "LDimfacts$Fact;", Cond.selects RX3 ⟨"Dimfacts$FactStore", "holding", "(II)LDimfacts$Fact;"⟩ yX3_holding, Cond.instanceMethod yX3_holding, Cond.initialized RX3]
def wsL_isSumOff_r3 : List Cond := [Cond.code yX3_holding cX3_holding 6 (some (.object "Dimfacts$Fact")), Cond.fieldLink RX3 17 "Dimfacts$ListedFacts" "count" "I", Cond.fieldLink RX3 11 "Dimfacts$ListedFacts" "facts" "[LDimfacts$Fact;", Cond.fieldLink RX3 21 "Dimfacts$Fact" "key" "I", Cond.fieldLink RX3 24 "Dimfacts$Fact" "filing" "I", Cond.methodLink RX3 27 yX0_replaces, Cond.instanceMethod yX0_replaces, Cond.selects RX0 yX0_replaces yX0_replaces, Cond.initialized RX0, Cond.code yX0_replaces cX0_replaces 2 (some .boolean), Cond.fieldLink RX0 13 "Dimfacts$Fact" "filing" "I", Cond.fieldLink RX0 19 "Dimfacts$Fact" "doubt" "I", Cond.methodLink RX4 141 yX4_partHolding, Cond.instanceMethod yX4_partHolding, Cond.selects RX4 yX4_partHolding yX4_partHolding, Cond.code yX4_partHolding cX4_partHolding 6 (some (.object "Dimfacts$Fact")), Cond.fieldLink RX4 9 "Dimfacts" "parents" "[I", Cond.methodLink RX4 199 yX4_isApart, Cond.static yX4_isApart, Cond.code yX4_isApart cX4_isApart 3 (some .boolean), Cond.methodLink RX4 203 Lib.Math.abs.name, Cond.static Lib.Math.abs.name, Cond.initialized "java/lang/Math", Cond.code Lib.Math.abs.name Lib.Math.abs.code 1 (some .int)]
def wsL_isSumOff : List Cond := .codeWith yL_isSumOff cL_isSumOff 7 (some .int) [(0, 21, 24, 19)] :: ((wsL_isSumOff_r1 ++ (wsL_isSumOff_r2 ++ wsL_isSumOff_r3)) ++ wsX40 ++ wsX00 ++ wsX20 ++ wsX30 ++ (vx_atS RX4 170 "java/lang/IndexOutOfBoundsException" ["java/lang/RuntimeException", "java/lang/Exception"]).filter goodWord)
def wsL_areMembersOff_r1 : List Cond := [Cond.classLink RL 19 "java/lang/IndexOutOfBoundsException", Cond.methodLink RL 63 yX4_areMembersOff, Cond.instanceMethod yX4_areMembersOff, Cond.selects RX4 yX4_areMembersOff yX4_areMembersOff, Cond.initialized RX4, Cond.code yX4_areMembersOff cX4_areMembersOff 4 (some .boolean), Cond.fieldLink RX4 32 "Dimfacts" "keyed" "LDimfacts$KeyedFacts;", Cond.methodLink RX4 78 yX4_checkKey, Cond.instanceMethod yX4_checkKey, Cond.selects RX4 yX4_checkKey yX4_checkKey, Cond.code yX4_checkKey cX4_checkKey 4 none, Cond.methodLink RX4 53 yX4_checkConcept, Cond.instanceMethod yX4_checkConcept, Cond.selects RX4 yX4_checkConcept yX4_checkConcept, Cond.code yX4_checkConcept cX4_checkConcept 2 none, Cond.classLink RX4 166 "java/lang/IndexOutOfBoundsException", Cond.initialized "java/lang/IndexOutOfBoundsException", Cond.fieldLink RX4 42 "Dimfacts" "conceptCount" "I", Cond.methodLink RX4 171 yX4_checkPeriodAndMember, Cond.static yX4_checkPeriodAndMember, Cond.code yX4_checkPeriodAndMember cX4_checkPeriodAndMember 2 none, Cond.methodLink RX4 114 yX4_checkFiling, Cond.instanceMethod yX4_checkFiling, Cond.selects RX4 yX4_checkFiling yX4_checkFiling]
def wsL_areMembersOff_r2 : List Cond := [Cond.code yX4_checkFiling cX4_checkFiling 2 none, Cond.fieldLink RX4 73 "Dimfacts" "latest" "I", Cond.methodLink RX4 162 yX4_membersFail, Cond.static yX4_membersFail, Cond.code yX4_membersFail cX4_membersFail 9 (some .boolean), Cond.fieldLink RX4 138 "Dimfacts$Fact" "doubt" "I", Cond.fieldLink RX4 135 "Dimfacts$Fact" "value" "I", Cond.methodLink RX4 96 yX4_keyOf, Cond.static yX4_keyOf, Cond.code yX4_keyOf cX4_keyOf 3 (some .int), Cond.methodLink RX4 196 ⟨"Dimfacts$FactStore", "holding", "(II)LDimfacts$Fact;"⟩, Cond.sameMethod "Dimfacts$FactStore" "Dimfacts$FactStore" "holding" "(II)LDimfacts$Fact;", Cond.selects RX2 ⟨"Dimfacts$FactStore", "holding", "(II)LDimfacts$Fact;"⟩ yX2_holding, Cond.instanceMethod yX2_holding, Cond.initialized RX2, Cond.code yX2_holding cX2_holding 4 (some (.object "Dimfacts$Fact")), Cond.fieldLink RX2 11 "Dimfacts$KeyedFacts" "firsts" "[LDimfacts$Fact;", Cond.fieldLink RX2 29 "Dimfacts$Fact" "filing" "I", Cond.fieldLink RX2 25 "Dimfacts$Fact" "next" "LDimfacts$Fact;", Cond.selects RX3 ⟨"Dimfacts$FactStore", "holding", "(II)LDimfacts$Fact;"⟩ yX3_holding, Cond.instanceMethod yX3_holding, Cond.initialized RX3, Cond.code yX3_holding cX3_holding 6 (some (.object "Dimfacts$Fact")), Cond.fieldLink RX3 17 "Dimfacts$ListedFacts" "count" "I"]
def wsL_areMembersOff_r3 : List Cond := [Cond.fieldLink RX3 11 "Dimfacts$ListedFacts" "facts" "[LDimfacts$Fact;", Cond.fieldLink RX3 21 "Dimfacts$Fact" "key" "I", Cond.fieldLink RX3 24 "Dimfacts$Fact" "filing" "I", Cond.methodLink RX3 27 yX0_replaces, Cond.instanceMethod yX0_replaces, Cond.selects RX0 yX0_replaces yX0_replaces, Cond.initialized RX0, Cond.code yX0_replaces cX0_replaces 2 (some .boolean), Cond.fieldLink RX0 13 "Dimfacts$Fact" "filing" "I", Cond.fieldLink RX0 19 "Dimfacts$Fact" "doubt" "I", Cond.methodLink RX4 199 yX4_isApart, Cond.static yX4_isApart, Cond.code yX4_isApart cX4_isApart 3 (some .boolean), Cond.methodLink RX4 203 Lib.Math.abs.name, Cond.static Lib.Math.abs.name, Cond.initialized "java/lang/Math", Cond.code Lib.Math.abs.name Lib.Math.abs.code 1 (some .int)]
def wsL_areMembersOff : List Cond := .codeWith yL_areMembersOff cL_areMembersOff 6 (some .int) [(0, 19, 22, 19)] :: ((wsL_areMembersOff_r1 ++ (wsL_areMembersOff_r2 ++ wsL_areMembersOff_r3)) ++ wsX40 ++ wsX00 ++ wsX20 ++ wsX30 ++ (vx_atS RX4 170 "java/lang/IndexOutOfBoundsException" ["java/lang/RuntimeException", "java/lang/Exception"]).filter goodWord)
def wsL_isRollOff_r1 : List Cond := [Cond.classLink RL 19 "java/lang/IndexOutOfBoundsException", Cond.methodLink RL 67 yX4_isRollOff, Cond.instanceMethod yX4_isRollOff, Cond.selects RX4 yX4_isRollOff yX4_isRollOff, Cond.initialized RX4, Cond.code yX4_isRollOff cX4_isRollOff 5 (some .boolean), Cond.classLink RX4 166 "java/lang/IndexOutOfBoundsException", Cond.initialized "java/lang/IndexOutOfBoundsException", Cond.fieldLink RX4 68 "Dimfacts" "ruleCount" "I", Cond.fieldLink RX4 32 "Dimfacts" "keyed" "LDimfacts$KeyedFacts;", Cond.methodLink RX4 171 yX4_checkPeriodAndMember, Cond.static yX4_checkPeriodAndMember, Cond.code yX4_checkPeriodAndMember cX4_checkPeriodAndMember 2 none, Cond.methodLink RX4 114 yX4_checkFiling, Cond.instanceMethod yX4_checkFiling, Cond.selects RX4 yX4_checkFiling yX4_checkFiling, Cond.code yX4_checkFiling cX4_checkFiling 2 none, Cond.fieldLink RX4 73 "Dimfacts" "latest" "I", Cond.methodLink RX4 175 yX4_rollFails, Cond.instanceMethod yX4_rollFails, Cond.selects RX4 yX4_rollFails yX4_rollFails, Cond.code yX4_rollFails cX4_rollFails 9 (some .boolean), Cond.fieldLink RX4 16 "Dimfacts" "stocks" "[I", Cond.fieldLink RX4 19 "Dimfacts" "flows" "[I"]
def wsL_isRollOff_r2 : List Cond := [Cond.fieldLink RX4 135 "Dimfacts$Fact" "value" "I", Cond.fieldLink RX4 138 "Dimfacts$Fact" "doubt" "I", Cond.methodLink RX4 96 yX4_keyOf, Cond.static yX4_keyOf, Cond.code yX4_keyOf cX4_keyOf 3 (some .int), Cond.methodLink RX4 196 ⟨"Dimfacts$FactStore", "holding", "(II)LDimfacts$Fact;"⟩, Cond.sameMethod "Dimfacts$FactStore" "Dimfacts$FactStore" "holding" "(II)LDimfacts$Fact;", Cond.selects RX2 ⟨"Dimfacts$FactStore", "holding", "(II)LDimfacts$Fact;"⟩ yX2_holding, Cond.instanceMethod yX2_holding, Cond.initialized RX2, Cond.code yX2_holding cX2_holding 4 (some (.object "Dimfacts$Fact")), Cond.fieldLink RX2 11 "Dimfacts$KeyedFacts" "firsts" "[LDimfacts$Fact;", Cond.fieldLink RX2 29 "Dimfacts$Fact" "filing" "I", Cond.fieldLink RX2 25 "Dimfacts$Fact" "next" "LDimfacts$Fact;", Cond.selects RX3 ⟨"Dimfacts$FactStore", "holding", "(II)LDimfacts$Fact;"⟩ yX3_holding, Cond.instanceMethod yX3_holding, Cond.initialized RX3, Cond.code yX3_holding cX3_holding 6 (some (.object "Dimfacts$Fact")), Cond.fieldLink RX3 17 "Dimfacts$ListedFacts" "count" "I", Cond.fieldLink RX3 11 "Dimfacts$ListedFacts" "facts" "[LDimfacts$Fact;", Cond.fieldLink RX3 21 "Dimfacts$Fact" "key" "I", Cond.fieldLink RX3 24 "Dimfacts$Fact" "filing" "I", Cond.methodLink RX3 27 yX0_replaces, Cond.instanceMethod yX0_replaces]
def wsL_isRollOff_r3 : List Cond := [Cond.selects RX0 yX0_replaces yX0_replaces, Cond.initialized RX0, Cond.code yX0_replaces cX0_replaces 2 (some .boolean), Cond.fieldLink RX0 13 "Dimfacts$Fact" "filing" "I", Cond.fieldLink RX0 19 "Dimfacts$Fact" "doubt" "I", Cond.methodLink RX4 199 yX4_isApart, Cond.static yX4_isApart, Cond.code yX4_isApart cX4_isApart 3 (some .boolean), Cond.methodLink RX4 203 Lib.Math.abs.name, Cond.static Lib.Math.abs.name, Cond.initialized "java/lang/Math", Cond.code Lib.Math.abs.name Lib.Math.abs.code 1 (some .int)]
def wsL_isRollOff : List Cond := .codeWith yL_isRollOff cL_isRollOff 7 (some .int) [(0, 21, 24, 19)] :: ((wsL_isRollOff_r1 ++ (wsL_isRollOff_r2 ++ wsL_isRollOff_r3)) ++ wsX40 ++ wsX00 ++ wsX20 ++ wsX30 ++ (vx_atS RX4 170 "java/lang/IndexOutOfBoundsException" ["java/lang/RuntimeException", "java/lang/Exception"]).filter goodWord)
def wsL_faults_r1 : List Cond := [Cond.classLink RL 19 "java/lang/IndexOutOfBoundsException", Cond.methodLink RL 70 yX4_faults, Cond.instanceMethod yX4_faults, Cond.selects RX4 yX4_faults yX4_faults, Cond.initialized RX4, Cond.code yX4_faults cX4_faults 4 (some .int), Cond.fieldLink RX4 42 "Dimfacts" "conceptCount" "I", Cond.fieldLink RX4 32 "Dimfacts" "keyed" "LDimfacts$KeyedFacts;", Cond.methodLink RX4 114 yX4_checkFiling, Cond.instanceMethod yX4_checkFiling, Cond.selects RX4 yX4_checkFiling yX4_checkFiling, Cond.code yX4_checkFiling cX4_checkFiling 2 none, Cond.classLink RX4 166 "java/lang/IndexOutOfBoundsException", Cond.initialized "java/lang/IndexOutOfBoundsException", Cond.fieldLink RX4 73 "Dimfacts" "latest" "I", Cond.methodLink RX4 145 yX2_holding, Cond.instanceMethod yX2_holding, Cond.selects RX2 yX2_holding yX2_holding, Cond.initialized RX2, Cond.code yX2_holding cX2_holding 4 (some (.object "Dimfacts$Fact")), Cond.fieldLink RX2 11 "Dimfacts$KeyedFacts" "firsts" "[LDimfacts$Fact;", Cond.fieldLink RX2 29 "Dimfacts$Fact" "filing" "I", Cond.fieldLink RX2 25 "Dimfacts$Fact" "next" "LDimfacts$Fact;", Cond.methodLink RX4 178 yX4_faultsAt]
def wsL_faults_r2 : List Cond := [Cond.instanceMethod yX4_faultsAt, Cond.selects RX4 yX4_faultsAt yX4_faultsAt, Cond.code yX4_faultsAt cX4_faultsAt 9 (some .int), Cond.fieldLink RX4 68 "Dimfacts" "ruleCount" "I", Cond.fieldLink RX4 16 "Dimfacts" "stocks" "[I", Cond.methodLink RX4 158 yX4_sumFails, Cond.instanceMethod yX4_sumFails, Cond.selects RX4 yX4_sumFails yX4_sumFails, Cond.code yX4_sumFails cX4_sumFails 12 (some .boolean), Cond.fieldLink RX4 138 "Dimfacts$Fact" "doubt" "I", Cond.fieldLink RX4 13 "Dimfacts" "weights" "[I", Cond.fieldLink RX4 135 "Dimfacts$Fact" "value" "I", Cond.methodLink RX4 96 yX4_keyOf, Cond.static yX4_keyOf, Cond.code yX4_keyOf cX4_keyOf 3 (some .int), Cond.methodLink RX4 196 ⟨"Dimfacts$FactStore", "holding", "(II)LDimfacts$Fact;"⟩, Cond.sameMethod "Dimfacts$FactStore" "Dimfacts$FactStore" "holding" "(II)LDimfacts$Fact;", Cond.selects RX2 ⟨"Dimfacts$FactStore", "holding", "(II)LDimfacts$Fact;"⟩ yX2_holding, Cond.selects RX3 ⟨"Dimfacts$FactStore", "holding", "(II)LDimfacts$Fact;"⟩ yX3_holding, Cond.instanceMethod yX3_holding, Cond.initialized RX3, Cond.code yX3_holding cX3_holding 6 (some (.object "Dimfacts$Fact")), Cond.fieldLink RX3 17 "Dimfacts$ListedFacts" "count" "I", Cond.fieldLink RX3 11 "Dimfacts$ListedFacts" "facts" "[LDimfacts$Fact;"]
def wsL_faults_r3 : List Cond := [Cond.fieldLink RX3 21 "Dimfacts$Fact" "key" "I", Cond.fieldLink RX3 24 "Dimfacts$Fact" "filing" "I", Cond.methodLink RX3 27 yX0_replaces, Cond.instanceMethod yX0_replaces, Cond.selects RX0 yX0_replaces yX0_replaces, Cond.initialized RX0, Cond.code yX0_replaces cX0_replaces 2 (some .boolean), Cond.fieldLink RX0 13 "Dimfacts$Fact" "filing" "I", Cond.fieldLink RX0 19 "Dimfacts$Fact" "doubt" "I", Cond.methodLink RX4 141 yX4_partHolding, Cond.instanceMethod yX4_partHolding, Cond.selects RX4 yX4_partHolding yX4_partHolding, Cond.code yX4_partHolding cX4_partHolding 6 (some (.object "Dimfacts$Fact")), Cond.fieldLink RX4 9 "Dimfacts" "parents" "[I", Cond.methodLink RX4 199 yX4_isApart, Cond.static yX4_isApart, Cond.code yX4_isApart cX4_isApart 3 (some .boolean), Cond.methodLink RX4 203 Lib.Math.abs.name, Cond.static Lib.Math.abs.name, Cond.initialized "java/lang/Math", Cond.code Lib.Math.abs.name Lib.Math.abs.code 1 (some .int), Cond.methodLink RX4 162 yX4_membersFail, Cond.static yX4_membersFail, Cond.code yX4_membersFail cX4_membersFail 9 (some .boolean)]
def wsL_faults_r4 : List Cond := [Cond.methodLink RX4 175 yX4_rollFails, Cond.instanceMethod yX4_rollFails, Cond.selects RX4 yX4_rollFails yX4_rollFails, Cond.code yX4_rollFails cX4_rollFails 9 (some .boolean), Cond.fieldLink RX4 19 "Dimfacts" "flows" "[I"]
def wsL_faults : List Cond := .codeWith yL_faults cL_faults 4 (some .int) [(0, 9, 12, 19)] :: ((wsL_faults_r1 ++ (wsL_faults_r2 ++ (wsL_faults_r3 ++ wsL_faults_r4))) ++ wsX40 ++ wsX20 ++ wsX00 ++ wsX30 ++ (vx_atS RX4 170 "java/lang/IndexOutOfBoundsException" ["java/lang/RuntimeException", "java/lang/Exception"]).filter goodWord)
def wsL_faultsByList_r1 : List Cond := [Cond.classLink RL 19 "java/lang/IndexOutOfBoundsException", Cond.methodLink RL 73 yX4_faultsByList, Cond.instanceMethod yX4_faultsByList, Cond.selects RX4 yX4_faultsByList yX4_faultsByList, Cond.initialized RX4, Cond.code yX4_faultsByList cX4_faultsByList 5 (some .int), Cond.fieldLink RX4 25 "Dimfacts" "listed" "LDimfacts$ListedFacts;", Cond.fieldLink RX4 111 "Dimfacts$ListedFacts" "count" "I", Cond.fieldLink RX4 117 "Dimfacts$ListedFacts" "facts" "[LDimfacts$Fact;", Cond.fieldLink RX4 182 "Dimfacts$Fact" "key" "I", Cond.methodLink RX4 114 yX4_checkFiling, Cond.instanceMethod yX4_checkFiling, Cond.selects RX4 yX4_checkFiling yX4_checkFiling, Cond.code yX4_checkFiling cX4_checkFiling 2 none, Cond.classLink RX4 166 "java/lang/IndexOutOfBoundsException", Cond.initialized "java/lang/IndexOutOfBoundsException", Cond.fieldLink RX4 73 "Dimfacts" "latest" "I", Cond.methodLink RX4 185 yX3_holding, Cond.instanceMethod yX3_holding, Cond.selects RX3 yX3_holding yX3_holding, Cond.initialized RX3, Cond.code yX3_holding cX3_holding 6 (some (.object "Dimfacts$Fact")), Cond.fieldLink RX3 17 "Dimfacts$ListedFacts" "count" "I", Cond.fieldLink RX3 11 "Dimfacts$ListedFacts" "facts" "[LDimfacts$Fact;"]
def wsL_faultsByList_r2 : List Cond := [Cond.fieldLink RX3 21 "Dimfacts$Fact" "key" "I", Cond.fieldLink RX3 24 "Dimfacts$Fact" "filing" "I", Cond.methodLink RX3 27 yX0_replaces, Cond.instanceMethod yX0_replaces, Cond.selects RX0 yX0_replaces yX0_replaces, Cond.initialized RX0, Cond.code yX0_replaces cX0_replaces 2 (some .boolean), Cond.fieldLink RX0 13 "Dimfacts$Fact" "filing" "I", Cond.fieldLink RX0 19 "Dimfacts$Fact" "doubt" "I", Cond.methodLink RX4 178 yX4_faultsAt, Cond.instanceMethod yX4_faultsAt, Cond.selects RX4 yX4_faultsAt yX4_faultsAt, Cond.code yX4_faultsAt cX4_faultsAt 9 (some .int), Cond.fieldLink RX4 68 "Dimfacts" "ruleCount" "I", Cond.fieldLink RX4 16 "Dimfacts" "stocks" "[I", Cond.methodLink RX4 158 yX4_sumFails, Cond.instanceMethod yX4_sumFails, Cond.selects RX4 yX4_sumFails yX4_sumFails, Cond.code yX4_sumFails cX4_sumFails 12 (some .boolean), Cond.fieldLink RX4 138 "Dimfacts$Fact" "doubt" "I", Cond.fieldLink RX4 42 "Dimfacts" "conceptCount" "I", Cond.fieldLink RX4 13 "Dimfacts" "weights" "[I", Cond.fieldLink RX4 135 "Dimfacts$Fact" "value" "I", Cond.methodLink RX4 96 yX4_keyOf]
def wsL_faultsByList_r3 : List Cond := [Cond.static yX4_keyOf, Cond.code yX4_keyOf cX4_keyOf 3 (some .int), Cond.methodLink RX4 196 ⟨"Dimfacts$FactStore", "holding", "(II)LDimfacts$Fact;"⟩, Cond.sameMethod "Dimfacts$FactStore" "Dimfacts$FactStore" "holding" "(II)LDimfacts$Fact;", Cond.selects RX2 ⟨"Dimfacts$FactStore", "holding", "(II)LDimfacts$Fact;"⟩ yX2_holding, Cond.instanceMethod yX2_holding, Cond.initialized RX2, Cond.code yX2_holding cX2_holding 4 (some (.object "Dimfacts$Fact")), Cond.fieldLink RX2 11 "Dimfacts$KeyedFacts" "firsts" "[LDimfacts$Fact;", Cond.fieldLink RX2 29 "Dimfacts$Fact" "filing" "I", Cond.fieldLink RX2 25 "Dimfacts$Fact" "next" "LDimfacts$Fact;", Cond.selects RX3 ⟨"Dimfacts$FactStore", "holding", "(II)LDimfacts$Fact;"⟩ yX3_holding, Cond.methodLink RX4 141 yX4_partHolding, Cond.instanceMethod yX4_partHolding, Cond.selects RX4 yX4_partHolding yX4_partHolding, Cond.code yX4_partHolding cX4_partHolding 6 (some (.object "Dimfacts$Fact")), Cond.fieldLink RX4 9 "Dimfacts" "parents" "[I", Cond.methodLink RX4 199 yX4_isApart, Cond.static yX4_isApart, Cond.code yX4_isApart cX4_isApart 3 (some .boolean), Cond.methodLink RX4 203 Lib.Math.abs.name, Cond.static Lib.Math.abs.name, Cond.initialized "java/lang/Math", Cond.code Lib.Math.abs.name Lib.Math.abs.code 1 (some .int)]
def wsL_faultsByList_r4 : List Cond := [Cond.methodLink RX4 162 yX4_membersFail, Cond.static yX4_membersFail, Cond.code yX4_membersFail cX4_membersFail 9 (some .boolean), Cond.methodLink RX4 175 yX4_rollFails, Cond.instanceMethod yX4_rollFails, Cond.selects RX4 yX4_rollFails yX4_rollFails, Cond.code yX4_rollFails cX4_rollFails 9 (some .boolean), Cond.fieldLink RX4 19 "Dimfacts" "flows" "[I"]
def wsL_faultsByList : List Cond := .codeWith yL_faultsByList cL_faultsByList 4 (some .int) [(0, 9, 12, 19)] :: ((wsL_faultsByList_r1 ++ (wsL_faultsByList_r2 ++ (wsL_faultsByList_r3 ++ wsL_faultsByList_r4))) ++ wsX40 ++ wsX30 ++ wsX00 ++ wsX20 ++ (vx_atS RX4 170 "java/lang/IndexOutOfBoundsException" ["java/lang/RuntimeException", "java/lang/Exception"]).filter goodWord)
def wsL_law0_r1 : List Cond := [Cond.classLink RL 8 RX4, Cond.instantiable RX4 11, Cond.initialized RX4, Cond.classLink RL 77 RX5, Cond.instantiable RX5 17, Cond.initialized RX5, Cond.arrayClass .long, Cond.methodLink RL 76 yX4_init, Cond.instanceMethod yX4_init, Cond.code yX4_init cX4_init 1 none, Cond.methodLink RX4 3 objectInit, Cond.instanceMethod objectInit, Cond.code objectInit ⟨#[0xb1]⟩ 1 none, Cond.arrayClass .int, Cond.fieldLink RX4 9 "Dimfacts" "parents" "[I", Cond.fieldLink RX4 13 "Dimfacts" "weights" "[I", Cond.fieldLink RX4 16 "Dimfacts" "stocks" "[I", Cond.fieldLink RX4 19 "Dimfacts" "flows" "[I", Cond.classLink RX4 22 RX3, Cond.instantiable RX3 2, Cond.initialized RX3, Cond.fieldLink RX4 25 "Dimfacts" "listed" "LDimfacts$ListedFacts;", Cond.classLink RX4 29 RX2, Cond.instantiable RX2 1]
def wsL_law0_r2 : List Cond := [Cond.initialized RX2, Cond.fieldLink RX4 32 "Dimfacts" "keyed" "LDimfacts$KeyedFacts;", Cond.fieldLink RX4 36 "Dimfacts" "reached" "[I", Cond.fieldLink RX4 39 "Dimfacts" "signs" "[I", Cond.instanceMethod yX3_init, Cond.code yX3_init cX3_init 1 none, Cond.classLink RX3 9 RX0, Cond.fieldLink RX3 11 "Dimfacts$ListedFacts" "facts" "[LDimfacts$Fact;", Cond.instanceMethod yX1_init, Cond.initialized RX1, Cond.code yX1_init cX1_init 1 none, Cond.methodLink RX1 1 objectInit, Cond.instanceMethod yX2_init, Cond.code yX2_init cX2_init 1 none, Cond.classLink RX2 9 RX0, Cond.fieldLink RX2 11 "Dimfacts$KeyedFacts" "firsts" "[LDimfacts$Fact;", Cond.methodLink RL 79 yX5_init, Cond.instanceMethod yX5_init, Cond.code yX5_init cX5_init 1 none, Cond.methodLink RX5 1 objectInit, Cond.fieldLink RX5 7 "DimfactsModel" "parent" "[I", Cond.fieldLink RX5 13 "DimfactsModel" "weight" "[I", Cond.fieldLink RX5 16 "DimfactsModel" "stock" "[I", Cond.fieldLink RX5 19 "DimfactsModel" "flow" "[I"]
def wsL_law0_r3 : List Cond := [Cond.fieldLink RX5 22 "DimfactsModel" "filings" "I", Cond.fieldLink RX5 26 "DimfactsModel" "concept" "[I", Cond.fieldLink RX5 29 "DimfactsModel" "period" "[I", Cond.fieldLink RX5 32 "DimfactsModel" "member" "[I", Cond.fieldLink RX5 35 "DimfactsModel" "filed" "[I", Cond.fieldLink RX5 38 "DimfactsModel" "value" "[I", Cond.fieldLink RX5 41 "DimfactsModel" "decimals" "[I", Cond.fieldLink RX5 44 "DimfactsModel" "derived" "[I", Cond.arrayClass .boolean, Cond.fieldLink RX5 47 "DimfactsModel" "isKnown" "[Z", Cond.methodLink RL 80 yL_addConcept, Cond.static yL_addConcept, Cond.initialized RL, Cond.codeWith yL_addConcept cL_addConcept 3 (some .int) [(0, 8, 11, 13)], Cond.classLink RL 13 "java/lang/IllegalStateException", Cond.methodLink RL 7 yX4_addConcept, Cond.instanceMethod yX4_addConcept, Cond.selects RX4 yX4_addConcept yX4_addConcept, Cond.code yX4_addConcept cX4_addConcept 2 (some .int), Cond.classLink RX4 46 "java/lang/IllegalStateException", Cond.initialized "java/lang/IllegalStateException", Cond.fieldLink RX4 42 "Dimfacts" "conceptCount" "I", Cond.methodLink RL 85 yX5_addConcept, Cond.instanceMethod yX5_addConcept]
def wsL_law0_r4 : List Cond := [Cond.selects RX5 yX5_addConcept yX5_addConcept, Cond.code yX5_addConcept cX5_addConcept 1 (some .int), Cond.fieldLink RX5 54 "DimfactsModel" "concepts" "I", Cond.methodLink RX5 65 yX5_can, Cond.instanceMethod yX5_can, Cond.selects RX5 yX5_can yX5_can, Cond.code yX5_can cX5_can 2 (some .boolean), Cond.fieldLink RX5 51 "DimfactsModel" "thrown" "I", Cond.methodLink RL 86 yX5_thrown, Cond.instanceMethod yX5_thrown, Cond.selects RX5 yX5_thrown yX5_thrown, Cond.code yX5_thrown cX5_thrown 1 (some .int), Cond.methodLink RL 89 yL_hang, Cond.static yL_hang, Cond.codeWith yL_hang cL_hang 6 (some .int) [(0, 12, 15, 19), (0, 12, 19, 21)], Cond.classLink RL 19 "java/lang/IndexOutOfBoundsException", Cond.classLink RL 21 "java/lang/IllegalArgumentException", Cond.methodLink RL 15 yX4_hang, Cond.instanceMethod yX4_hang, Cond.selects RX4 yX4_hang yX4_hang, Cond.code yX4_hang cX4_hang 5 (some .int), Cond.classLink RX4 61 "java/lang/IllegalArgumentException", Cond.initialized "java/lang/IllegalArgumentException", Cond.methodLink RX4 53 yX4_checkConcept]
def wsL_law0_r5 : List Cond := [Cond.instanceMethod yX4_checkConcept, Cond.selects RX4 yX4_checkConcept yX4_checkConcept, Cond.code yX4_checkConcept cX4_checkConcept 2 none, Cond.classLink RX4 166 "java/lang/IndexOutOfBoundsException", Cond.initialized "java/lang/IndexOutOfBoundsException", Cond.methodLink RX4 57 yX4_isAtOrUnder, Cond.instanceMethod yX4_isAtOrUnder, Cond.selects RX4 yX4_isAtOrUnder yX4_isAtOrUnder, Cond.code yX4_isAtOrUnder cX4_isAtOrUnder 5 (some .boolean), Cond.methodLink RL 92 yX5_hang, Cond.instanceMethod yX5_hang, Cond.selects RX5 yX5_hang yX5_hang, Cond.code yX5_hang cX5_hang 6 (some .int), Cond.methodLink RX5 61 yX5_isConcept, Cond.instanceMethod yX5_isConcept, Cond.selects RX5 yX5_isConcept yX5_isConcept, Cond.code yX5_isConcept cX5_isConcept 2 (some .boolean), Cond.methodLink RX5 57 yX5_isIn, Cond.static yX5_isIn, Cond.code yX5_isIn cX5_isIn 3 (some .boolean), Cond.methodLink RX5 68 yX5_isBelow, Cond.instanceMethod yX5_isBelow, Cond.selects RX5 yX5_isBelow yX5_isBelow, Cond.code yX5_isBelow cX5_isBelow 4 (some .boolean)]
def wsL_law0_r6 : List Cond := [Cond.methodLink RL 93 yL_unhang, Cond.static yL_unhang, Cond.codeWith yL_unhang cL_unhang 4 (some .int) [(0, 9, 12, 19)], Cond.methodLink RL 23 yX4_unhang, Cond.instanceMethod yX4_unhang, Cond.selects RX4 yX4_unhang yX4_unhang, Cond.code yX4_unhang cX4_unhang 3 (some .int), Cond.methodLink RL 96 yX5_unhang, Cond.instanceMethod yX5_unhang, Cond.selects RX5 yX5_unhang yX5_unhang, Cond.code yX5_unhang cX5_unhang 3 (some .int), Cond.methodLink RL 97 yL_addRoll, Cond.static yL_addRoll, Cond.codeWith yL_addRoll cL_addRoll 5 (some .int) [(0, 10, 13, 19), (0, 10, 17, 21), (0, 10, 21, 13)], Cond.methodLink RL 27 yX4_addRoll, Cond.instanceMethod yX4_addRoll, Cond.selects RX4 yX4_addRoll yX4_addRoll, Cond.code yX4_addRoll cX4_addRoll 4 (some .int), Cond.fieldLink RX4 68 "Dimfacts" "ruleCount" "I", Cond.methodLink RL 100 yX5_addRoll, Cond.instanceMethod yX5_addRoll, Cond.selects RX5 yX5_addRoll yX5_addRoll, Cond.code yX5_addRoll cX5_addRoll 4 (some .int), Cond.fieldLink RX5 72 "DimfactsModel" "rolls" "I"]
def wsL_law0_r7 : List Cond := [Cond.methodLink RL 101 yL_file, Cond.static yL_file, Cond.codeWith yL_file cL_file 3 (some .int) [(0, 8, 11, 13)], Cond.methodLink RL 31 yX4_file, Cond.instanceMethod yX4_file, Cond.selects RX4 yX4_file yX4_file, Cond.code yX4_file cX4_file 1 (some .int), Cond.fieldLink RX4 73 "Dimfacts" "latest" "I", Cond.methodLink RL 103 yX5_file, Cond.instanceMethod yX5_file, Cond.selects RX5 yX5_file yX5_file, Cond.code yX5_file cX5_file 1 (some .int), Cond.methodLink RL 104 yL_tell, Cond.static yL_tell, Cond.codeWith yL_tell cL_tell 8 (some .int) [(0, 16, 19, 19), (0, 16, 23, 21), (0, 16, 27, 13)], Cond.methodLink RL 34 yX4_tell, Cond.instanceMethod yX4_tell, Cond.selects RX4 yX4_tell yX4_tell, Cond.code yX4_tell cX4_tell 7 (some .int), Cond.constant RX4 82 (-1000000), Cond.constant RX4 83 (1000000), Cond.classLink RX4 94 RX0, Cond.instantiable RX0 5, Cond.initialized RX0]
def wsL_law0_r8 : List Cond := [Cond.fieldLink RX4 100 "Dimfacts" "DOUBTS" "[I", Cond.fieldLink RX4 111 "Dimfacts$ListedFacts" "count" "I", Cond.methodLink RX4 78 yX4_checkKey, Cond.instanceMethod yX4_checkKey, Cond.selects RX4 yX4_checkKey yX4_checkKey, Cond.code yX4_checkKey cX4_checkKey 4 none, Cond.methodLink RX4 171 yX4_checkPeriodAndMember, Cond.static yX4_checkPeriodAndMember, Cond.code yX4_checkPeriodAndMember cX4_checkPeriodAndMember 2 none, Cond.methodLink RX4 88 yX3_isFull, Cond.instanceMethod yX3_isFull, Cond.selects RX3 yX3_isFull yX3_isFull, Cond.code yX3_isFull cX3_isFull 1 (some .boolean), Cond.fieldLink RX3 17 "Dimfacts$ListedFacts" "count" "I", Cond.methodLink RX4 96 yX4_keyOf, Cond.static yX4_keyOf, Cond.code yX4_keyOf cX4_keyOf 3 (some .int), Cond.methodLink RX4 103 yX0_init, Cond.instanceMethod yX0_init, Cond.code yX0_init cX0_init 5 none, Cond.methodLink RX0 1 objectInit, Cond.fieldLink RX0 7 "Dimfacts$Fact" "key" "I", Cond.fieldLink RX0 13 "Dimfacts$Fact" "filing" "I", Cond.fieldLink RX0 16 "Dimfacts$Fact" "value" "I"]
def wsL_law0_r9 : List Cond := [Cond.fieldLink RX0 19 "Dimfacts$Fact" "doubt" "I", Cond.methodLink RX4 106 yX3_keep, Cond.instanceMethod yX3_keep, Cond.selects RX3 yX3_keep yX3_keep, Cond.code yX3_keep cX3_keep 2 none, Cond.methodLink RX4 110 yX2_keep, Cond.instanceMethod yX2_keep, Cond.selects RX2 yX2_keep yX2_keep, Cond.code yX2_keep cX2_keep 3 none, Cond.fieldLink RX2 17 "Dimfacts$Fact" "key" "I", Cond.fieldLink RX2 25 "Dimfacts$Fact" "next" "LDimfacts$Fact;", Cond.methodLink RX2 21 yX0_replaces, Cond.instanceMethod yX0_replaces, Cond.selects RX0 yX0_replaces yX0_replaces, Cond.code yX0_replaces cX0_replaces 2 (some .boolean), Cond.methodLink RL 107 yX5_tell, Cond.instanceMethod yX5_tell, Cond.selects RX5 yX5_tell yX5_tell, Cond.code yX5_tell cX5_tell 7 (some .int), Cond.constant RX5 75 (-1000000), Cond.constant RX5 76 (1000000), Cond.fieldLink RX5 80 "DimfactsModel" "facts" "I", Cond.methodLink RX5 77 yX5_isKey, Cond.instanceMethod yX5_isKey]
def wsL_law0_r10 : List Cond := [Cond.selects RX5 yX5_isKey yX5_isKey, Cond.code yX5_isKey cX5_isKey 4 (some .boolean), Cond.methodLink RL 108 yL_disagreements, Cond.static yL_disagreements, Cond.codeWith yL_disagreements cL_disagreements 4 (some .int) [(0, 9, 12, 19)], Cond.methodLink RL 38 yX4_disagreements, Cond.instanceMethod yX4_disagreements, Cond.selects RX4 yX4_disagreements yX4_disagreements, Cond.code yX4_disagreements cX4_disagreements 5 (some .int), Cond.fieldLink RX4 117 "Dimfacts$ListedFacts" "facts" "[LDimfacts$Fact;", Cond.fieldLink RX4 121 "Dimfacts$Fact" "filing" "I", Cond.methodLink RX4 114 yX4_checkFiling, Cond.instanceMethod yX4_checkFiling, Cond.selects RX4 yX4_checkFiling yX4_checkFiling, Cond.code yX4_checkFiling cX4_checkFiling 2 none, Cond.methodLink RX4 124 yX3_countAgainst, Cond.instanceMethod yX3_countAgainst, Cond.selects RX3 yX3_countAgainst yX3_countAgainst, Cond.code yX3_countAgainst cX3_countAgainst 6 (some .int), Cond.methodLink RX3 31 yX0_disagreesWith, Cond.instanceMethod yX0_disagreesWith, Cond.selects RX0 yX0_disagreesWith yX0_disagreesWith, Cond.code yX0_disagreesWith cX0_disagreesWith 2 (some .boolean), Cond.static yX4_isApart]
def wsL_law0_r11 : List Cond := [Cond.code yX4_isApart cX4_isApart 3 (some .boolean), Cond.methodLink RX4 203 Lib.Math.abs.name, Cond.static Lib.Math.abs.name, Cond.initialized "java/lang/Math", Cond.code Lib.Math.abs.name Lib.Math.abs.code 1 (some .int), Cond.methodLink RL 110 yX5_disagreements, Cond.instanceMethod yX5_disagreements, Cond.selects RX5 yX5_disagreements yX5_disagreements, Cond.code yX5_disagreements cX5_disagreements 6 (some .int), Cond.methodLink RX5 87 yX5_isFiling, Cond.instanceMethod yX5_isFiling, Cond.selects RX5 yX5_isFiling yX5_isFiling, Cond.code yX5_isFiling cX5_isFiling 2 (some .boolean), Cond.methodLink RX5 83 yX5_isOf, Cond.instanceMethod yX5_isOf, Cond.selects RX5 yX5_isOf yX5_isOf, Cond.code yX5_isOf cX5_isOf 5 (some .boolean), Cond.methodLink RX5 90 yX5_doubtOf, Cond.instanceMethod yX5_doubtOf, Cond.selects RX5 yX5_doubtOf yX5_doubtOf, Cond.code yX5_doubtOf cX5_doubtOf 4 (some .int), Cond.methodLink RX5 94 yX5_isFar, Cond.static yX5_isFar, Cond.code yX5_isFar cX5_isFar 4 (some .boolean)]
def wsL_law0_r12 : List Cond := [Cond.methodLink RL 111 yL_restated, Cond.static yL_restated, Cond.codeWith yL_restated cL_restated 4 (some .int) [(0, 9, 12, 19)], Cond.methodLink RL 41 yX4_restated, Cond.instanceMethod yX4_restated, Cond.selects RX4 yX4_restated yX4_restated, Cond.code yX4_restated cX4_restated 4 (some .int), Cond.methodLink RX4 128 yX4_isRestated, Cond.instanceMethod yX4_isRestated, Cond.selects RX4 yX4_isRestated yX4_isRestated, Cond.code yX4_isRestated cX4_isRestated 5 (some .boolean), Cond.fieldLink RX4 135 "Dimfacts$Fact" "value" "I", Cond.methodLink RX4 145 yX2_holding, Cond.instanceMethod yX2_holding, Cond.selects RX2 yX2_holding yX2_holding, Cond.code yX2_holding cX2_holding 4 (some (.object "Dimfacts$Fact")), Cond.fieldLink RX2 29 "Dimfacts$Fact" "filing" "I", Cond.methodLink RL 113 yX5_restated, Cond.instanceMethod yX5_restated, Cond.selects RX5 yX5_restated yX5_restated, Cond.code yX5_restated cX5_restated 6 (some .int), Cond.methodLink RX5 97 yX5_holds, Cond.instanceMethod yX5_holds, Cond.selects RX5 yX5_holds yX5_holds]
def wsL_law0_r13 : List Cond := [Cond.code yX5_holds cX5_holds 8 (some .int), Cond.methodLink RL 114 yL_value, Cond.static yL_value, Cond.codeWith yL_value cL_value 7 (some .int) [(0, 14, 17, 19), (0, 14, 21, 48)], Cond.classLink RL 48 "java/util/NoSuchElementException", Cond.methodLink RL 44 yX4_value, Cond.instanceMethod yX4_value, Cond.selects RX4 yX4_value yX4_value, Cond.code yX4_value cX4_value 5 (some .int), Cond.methodLink RX4 131 yX4_heldFact, Cond.instanceMethod yX4_heldFact, Cond.selects RX4 yX4_heldFact yX4_heldFact, Cond.code yX4_heldFact cX4_heldFact 6 (some (.object "Dimfacts$Fact")), Cond.classLink RX4 153 "java/util/NoSuchElementException", Cond.initialized "java/util/NoSuchElementException", Cond.methodLink RL 117 yX5_value, Cond.instanceMethod yX5_value, Cond.selects RX5 yX5_value yX5_value, Cond.code yX5_value cX5_value 7 (some .int), Cond.methodLink RX5 101 yX5_isAsked, Cond.instanceMethod yX5_isAsked, Cond.selects RX5 yX5_isAsked yX5_isAsked, Cond.code yX5_isAsked cX5_isAsked 5 (some .boolean), Cond.methodLink RL 118 yL_doubt]
def wsL_law0_r14 : List Cond := [Cond.static yL_doubt, Cond.codeWith yL_doubt cL_doubt 7 (some .int) [(0, 14, 17, 19), (0, 14, 21, 48)], Cond.methodLink RL 50 yX4_doubt, Cond.instanceMethod yX4_doubt, Cond.selects RX4 yX4_doubt yX4_doubt, Cond.code yX4_doubt cX4_doubt 5 (some .int), Cond.fieldLink RX4 138 "Dimfacts$Fact" "doubt" "I", Cond.methodLink RL 120 yX5_doubt, Cond.instanceMethod yX5_doubt, Cond.selects RX5 yX5_doubt yX5_doubt, Cond.code yX5_doubt cX5_doubt 7 (some .int), Cond.methodLink RL 121 yL_sum, Cond.static yL_sum, Cond.codeWith yL_sum cL_sum 7 (some .int) [(0, 14, 17, 19)], Cond.methodLink RL 53 yX4_sum, Cond.instanceMethod yX4_sum, Cond.selects RX4 yX4_sum yX4_sum, Cond.code yX4_sum cX4_sum 8 (some .int), Cond.methodLink RX4 141 yX4_partHolding, Cond.instanceMethod yX4_partHolding, Cond.selects RX4 yX4_partHolding yX4_partHolding, Cond.code yX4_partHolding cX4_partHolding 6 (some (.object "Dimfacts$Fact")), Cond.methodLink RX4 196 ⟨"Dimfacts$FactStore", "holding", "(II)LDimfacts$Fact;"⟩, Cond.sameMethod "Dimfacts$FactStore" "Dimfacts$FactStore" "holding" "(II)LDimfacts$Fact;"]
def wsL_law0_r15 : List Cond := [Cond.selects RX2 ⟨"Dimfacts$FactStore", "holding", "(II)LDimfacts$Fact;"⟩ yX2_holding, Cond.selects RX3 ⟨"Dimfacts$FactStore", "holding", "(II)LDimfacts$Fact;"⟩ yX3_holding, Cond.instanceMethod yX3_holding, Cond.code yX3_holding cX3_holding 6 (some (.object "Dimfacts$Fact")), Cond.fieldLink RX3 21 "Dimfacts$Fact" "key" "I", Cond.fieldLink RX3 24 "Dimfacts$Fact" "filing" "I", Cond.methodLink RX3 27 yX0_replaces, Cond.methodLink RL 123 yX5_sum, Cond.instanceMethod yX5_sum, Cond.selects RX5 yX5_sum yX5_sum, Cond.code yX5_sum cX5_sum 5 (some .int), Cond.methodLink RX5 104 yX5_sumOf, Cond.instanceMethod yX5_sumOf, Cond.selects RX5 yX5_sumOf yX5_sumOf, Cond.code yX5_sumOf cX5_sumOf 8 (some .int), Cond.methodLink RL 124 yL_derived, Cond.static yL_derived, Cond.codeWith yL_derived cL_derived 7 (some .int) [(0, 14, 17, 19), (0, 14, 21, 48)], Cond.methodLink RL 56 yX4_derived, Cond.instanceMethod yX4_derived, Cond.selects RX4 yX4_derived yX4_derived, Cond.code yX4_derived cX4_derived 10 (some .int), Cond.methodLink RX4 149 yX4_reachParts, Cond.instanceMethod yX4_reachParts]
def wsL_law0_r16 : List Cond := [Cond.selects RX4 yX4_reachParts yX4_reachParts, Cond.code yX4_reachParts cX4_reachParts 5 (some .int), Cond.methodLink RL 126 yX5_derived, Cond.instanceMethod yX5_derived, Cond.selects RX5 yX5_derived yX5_derived, Cond.code yX5_derived cX5_derived 5 (some .int), Cond.methodLink RX5 107 yX5_derives, Cond.instanceMethod yX5_derives, Cond.selects RX5 yX5_derives yX5_derives, Cond.code yX5_derives cX5_derives 10 none, Cond.methodLink RL 127 yL_isSumOff, Cond.static yL_isSumOff, Cond.codeWith yL_isSumOff cL_isSumOff 7 (some .int) [(0, 21, 24, 19)], Cond.methodLink RL 59 yX4_isSumOff, Cond.instanceMethod yX4_isSumOff, Cond.selects RX4 yX4_isSumOff yX4_isSumOff, Cond.code yX4_isSumOff cX4_isSumOff 5 (some .boolean), Cond.methodLink RX4 158 yX4_sumFails, Cond.instanceMethod yX4_sumFails, Cond.selects RX4 yX4_sumFails yX4_sumFails, Cond.code yX4_sumFails cX4_sumFails 12 (some .boolean), Cond.methodLink RX4 199 yX4_isApart, Cond.methodLink RL 129 yX5_isSumOff, Cond.instanceMethod yX5_isSumOff]
def wsL_law0_r17 : List Cond := [Cond.selects RX5 yX5_isSumOff yX5_isSumOff, Cond.code yX5_isSumOff cX5_isSumOff 5 (some .boolean), Cond.methodLink RX5 111 yX5_isOffBySum, Cond.instanceMethod yX5_isOffBySum, Cond.selects RX5 yX5_isOffBySum yX5_isOffBySum, Cond.code yX5_isOffBySum cX5_isOffBySum 10 (some .boolean), Cond.methodLink RL 130 yL_areMembersOff, Cond.static yL_areMembersOff, Cond.codeWith yL_areMembersOff cL_areMembersOff 6 (some .int) [(0, 19, 22, 19)], Cond.methodLink RL 63 yX4_areMembersOff, Cond.instanceMethod yX4_areMembersOff, Cond.selects RX4 yX4_areMembersOff yX4_areMembersOff, Cond.code yX4_areMembersOff cX4_areMembersOff 4 (some .boolean), Cond.methodLink RX4 162 yX4_membersFail, Cond.static yX4_membersFail, Cond.code yX4_membersFail cX4_membersFail 9 (some .boolean), Cond.methodLink RL 133 yX5_areMembersOff, Cond.instanceMethod yX5_areMembersOff, Cond.selects RX5 yX5_areMembersOff yX5_areMembersOff, Cond.code yX5_areMembersOff cX5_areMembersOff 4 (some .boolean), Cond.methodLink RX5 114 yX5_isOffByMembers, Cond.instanceMethod yX5_isOffByMembers, Cond.selects RX5 yX5_isOffByMembers yX5_isOffByMembers, Cond.code yX5_isOffByMembers cX5_isOffByMembers 9 (some .boolean)]
def wsL_law0_r18 : List Cond := [Cond.methodLink RL 134 yL_isRollOff, Cond.static yL_isRollOff, Cond.codeWith yL_isRollOff cL_isRollOff 7 (some .int) [(0, 21, 24, 19)], Cond.methodLink RL 67 yX4_isRollOff, Cond.instanceMethod yX4_isRollOff, Cond.selects RX4 yX4_isRollOff yX4_isRollOff, Cond.code yX4_isRollOff cX4_isRollOff 5 (some .boolean), Cond.methodLink RX4 175 yX4_rollFails, Cond.instanceMethod yX4_rollFails, Cond.selects RX4 yX4_rollFails yX4_rollFails, Cond.code yX4_rollFails cX4_rollFails 9 (some .boolean), Cond.methodLink RL 136 yX5_isRollOff, Cond.instanceMethod yX5_isRollOff, Cond.selects RX5 yX5_isRollOff yX5_isRollOff, Cond.code yX5_isRollOff cX5_isRollOff 6 (some .boolean), Cond.methodLink RX5 117 yX5_isOffByRoll, Cond.instanceMethod yX5_isOffByRoll, Cond.selects RX5 yX5_isOffByRoll yX5_isOffByRoll, Cond.code yX5_isOffByRoll cX5_isOffByRoll 9 (some .boolean), Cond.methodLink RL 137 yL_faults, Cond.static yL_faults, Cond.codeWith yL_faults cL_faults 4 (some .int) [(0, 9, 12, 19)], Cond.methodLink RL 70 yX4_faults, Cond.instanceMethod yX4_faults]
def wsL_law0_r19 : List Cond := [Cond.selects RX4 yX4_faults yX4_faults, Cond.code yX4_faults cX4_faults 4 (some .int), Cond.methodLink RX4 178 yX4_faultsAt, Cond.instanceMethod yX4_faultsAt, Cond.selects RX4 yX4_faultsAt yX4_faultsAt, Cond.code yX4_faultsAt cX4_faultsAt 9 (some .int), Cond.methodLink RL 139 yX5_faults, Cond.instanceMethod yX5_faults, Cond.selects RX5 yX5_faults yX5_faults, Cond.code yX5_faults cX5_faults 2 (some .int), Cond.methodLink RX5 120 yX5_allFaults, Cond.instanceMethod yX5_allFaults, Cond.selects RX5 yX5_allFaults yX5_allFaults, Cond.code yX5_allFaults cX5_allFaults 6 (some .int), Cond.methodLink RL 140 yL_faultsByList, Cond.static yL_faultsByList, Cond.codeWith yL_faultsByList cL_faultsByList 4 (some .int) [(0, 9, 12, 19)], Cond.methodLink RL 73 yX4_faultsByList, Cond.instanceMethod yX4_faultsByList, Cond.selects RX4 yX4_faultsByList yX4_faultsByList, Cond.code yX4_faultsByList cX4_faultsByList 5 (some .int), Cond.fieldLink RX4 182 "Dimfacts$Fact" "key" "I", Cond.methodLink RX4 185 yX3_holding, Cond.selects RX3 yX3_holding yX3_holding]
def wsL_law0_r20 : List Cond := [Cond.methodLink RL 142 yX5_faultsByList, Cond.instanceMethod yX5_faultsByList, Cond.selects RX5 yX5_faultsByList yX5_faultsByList, Cond.code yX5_faultsByList cX5_faultsByList 2 (some .int)]
def wsL_law0 : List Cond := (wsL_law0_r1 ++ (wsL_law0_r2 ++ (wsL_law0_r3 ++ (wsL_law0_r4 ++ (wsL_law0_r5 ++ (wsL_law0_r6 ++ (wsL_law0_r7 ++ (wsL_law0_r8 ++ (wsL_law0_r9 ++ (wsL_law0_r10 ++ (wsL_law0_r11 ++ (wsL_law0_r12 ++ (wsL_law0_r13 ++ (wsL_law0_r14 ++ (wsL_law0_r15 ++ (wsL_law0_r16 ++ (wsL_law0_r17 ++ (wsL_law0_r18 ++ (wsL_law0_r19 ++ wsL_law0_r20))))))))))))))))))) ++ wsX40 ++ wsX50 ++ wsX30 ++ wsX20 ++ wsX00 ++ ([] : List Cond)
def wsL_law : List Cond := wsL_law0 ++ (vx_atS RX4 50 "java/lang/IllegalStateException" ["java/lang/RuntimeException", "java/lang/Exception"]).filter goodWord ++ (vx_atS RX4 65 "java/lang/IllegalArgumentException" ["java/lang/RuntimeException", "java/lang/Exception"]).filter goodWord ++ (vx_atS RX4 170 "java/lang/IndexOutOfBoundsException" ["java/lang/RuntimeException", "java/lang/Exception"]).filter goodWord ++ (nx_at RX4 157).filter goodWord
set_option maxRecDepth 20000 in
theorem inJx145de : ∀ w ∈ wsJx145de0, w ∈ lw_tbl := by decide +kernel
theorem inJ9 : ∀ w ∈ wsJ90, w ∈ lw_tbl := by decide +kernel
theorem inJ0 : ∀ w ∈ wsJ00, w ∈ lw_tbl := by decide +kernel
theorem dX0_init_0 : decode cX0_init 0 = .ok (.aload_n 0, 1) := by decide +kernel
theorem dX0_init_1 : decode cX0_init 1 = .ok (.invokespecial 1, 3) := by decide +kernel
theorem dX0_init_4 : decode cX0_init 4 = .ok (.aload_n 0, 1) := by decide +kernel
theorem dX0_init_5 : decode cX0_init 5 = .ok (.iload_n 1, 1) := by decide +kernel
theorem dX0_init_6 : decode cX0_init 6 = .ok (.putfield 7, 3) := by decide +kernel
theorem dX0_init_9 : decode cX0_init 9 = .ok (.aload_n 0, 1) := by decide +kernel
theorem dX0_init_10 : decode cX0_init 10 = .ok (.iload_n 2, 1) := by decide +kernel
theorem dX0_init_11 : decode cX0_init 11 = .ok (.putfield 13, 3) := by decide +kernel
theorem dX0_init_14 : decode cX0_init 14 = .ok (.aload_n 0, 1) := by decide +kernel
theorem dX0_init_15 : decode cX0_init 15 = .ok (.iload_n 3, 1) := by decide +kernel
theorem dX0_init_16 : decode cX0_init 16 = .ok (.putfield 16, 3) := by decide +kernel
theorem dX0_init_19 : decode cX0_init 19 = .ok (.aload_n 0, 1) := by decide +kernel
theorem dX0_init_20 : decode cX0_init 20 = .ok (.iload 4, 2) := by decide +kernel
theorem dX0_init_22 : decode cX0_init 22 = .ok (.putfield 19, 3) := by decide +kernel
theorem dX0_init_25 : decode cX0_init 25 = .ok (.return_, 1) := by decide +kernel
theorem dX0_replaces_0 : decode cX0_replaces 0 = .ok (.aload_n 0, 1) := by decide +kernel
theorem dX0_replaces_1 : decode cX0_replaces 1 = .ok (.getfield 13, 3) := by decide +kernel
theorem dX0_replaces_4 : decode cX0_replaces 4 = .ok (.aload_n 1, 1) := by decide +kernel
theorem dX0_replaces_5 : decode cX0_replaces 5 = .ok (.getfield 13, 3) := by decide +kernel
theorem dX0_replaces_8 : decode cX0_replaces 8 = .ok (.if_icmp .gt 25, 3) := by decide +kernel
theorem dX0_replaces_11 : decode cX0_replaces 11 = .ok (.aload_n 0, 1) := by decide +kernel
theorem dX0_replaces_12 : decode cX0_replaces 12 = .ok (.getfield 13, 3) := by decide +kernel
theorem dX0_replaces_15 : decode cX0_replaces 15 = .ok (.aload_n 1, 1) := by decide +kernel
theorem dX0_replaces_16 : decode cX0_replaces 16 = .ok (.getfield 13, 3) := by decide +kernel
theorem dX0_replaces_19 : decode cX0_replaces 19 = .ok (.if_icmp .ne 18, 3) := by decide +kernel
theorem dX0_replaces_22 : decode cX0_replaces 22 = .ok (.aload_n 0, 1) := by decide +kernel
theorem dX0_replaces_23 : decode cX0_replaces 23 = .ok (.getfield 19, 3) := by decide +kernel
theorem dX0_replaces_26 : decode cX0_replaces 26 = .ok (.aload_n 1, 1) := by decide +kernel
theorem dX0_replaces_27 : decode cX0_replaces 27 = .ok (.getfield 19, 3) := by decide +kernel
theorem dX0_replaces_30 : decode cX0_replaces 30 = .ok (.if_icmp .ge 7, 3) := by decide +kernel
theorem dX0_replaces_33 : decode cX0_replaces 33 = .ok (.iconst 1, 1) := by decide +kernel
theorem dX0_replaces_34 : decode cX0_replaces 34 = .ok (.goto 4, 3) := by decide +kernel
theorem dX0_replaces_37 : decode cX0_replaces 37 = .ok (.iconst 0, 1) := by decide +kernel
theorem dX0_replaces_38 : decode cX0_replaces 38 = .ok (.ireturn, 1) := by decide +kernel
set_option maxRecDepth 20000 in
theorem ggX0_disagreesWith_X4_isApart : GoodIn wsX0_disagreesWith wsX4_isApart := goodIn_r _ [7, 8, 9, 10, 11] (by decide +kernel) (by decide +kernel)
set_option maxRecDepth 20000 in
theorem gX0_disagreesWith_X4_isApart_n22 : GoodIn wsX0_disagreesWith (wsX4_isApart) := ggX0_disagreesWith_X4_isApart
theorem dX0_disagreesWith_0 : decode cX0_disagreesWith 0 = .ok (.aload_n 0, 1) := by decide +kernel
theorem dX0_disagreesWith_1 : decode cX0_disagreesWith 1 = .ok (.getfield 13, 3) := by decide +kernel
theorem dX0_disagreesWith_4 : decode cX0_disagreesWith 4 = .ok (.aload_n 1, 1) := by decide +kernel
theorem dX0_disagreesWith_5 : decode cX0_disagreesWith 5 = .ok (.getfield 13, 3) := by decide +kernel
theorem dX0_disagreesWith_8 : decode cX0_disagreesWith 8 = .ok (.if_icmp .ne 41, 3) := by decide +kernel
theorem dX0_disagreesWith_11 : decode cX0_disagreesWith 11 = .ok (.aload_n 0, 1) := by decide +kernel
theorem dX0_disagreesWith_12 : decode cX0_disagreesWith 12 = .ok (.getfield 7, 3) := by decide +kernel
theorem dX0_disagreesWith_15 : decode cX0_disagreesWith 15 = .ok (.aload_n 1, 1) := by decide +kernel
theorem dX0_disagreesWith_16 : decode cX0_disagreesWith 16 = .ok (.getfield 7, 3) := by decide +kernel
theorem dX0_disagreesWith_19 : decode cX0_disagreesWith 19 = .ok (.if_icmp .ne 30, 3) := by decide +kernel
theorem dX0_disagreesWith_22 : decode cX0_disagreesWith 22 = .ok (.aload_n 0, 1) := by decide +kernel
theorem dX0_disagreesWith_23 : decode cX0_disagreesWith 23 = .ok (.getfield 16, 3) := by decide +kernel
theorem dX0_disagreesWith_26 : decode cX0_disagreesWith 26 = .ok (.aload_n 1, 1) := by decide +kernel
theorem dX0_disagreesWith_27 : decode cX0_disagreesWith 27 = .ok (.getfield 16, 3) := by decide +kernel
theorem dX0_disagreesWith_30 : decode cX0_disagreesWith 30 = .ok (.aload_n 0, 1) := by decide +kernel
theorem dX0_disagreesWith_31 : decode cX0_disagreesWith 31 = .ok (.getfield 19, 3) := by decide +kernel
theorem dX0_disagreesWith_34 : decode cX0_disagreesWith 34 = .ok (.aload_n 1, 1) := by decide +kernel
theorem dX0_disagreesWith_35 : decode cX0_disagreesWith 35 = .ok (.getfield 19, 3) := by decide +kernel
theorem dX0_disagreesWith_38 : decode cX0_disagreesWith 38 = .ok (.iadd, 1) := by decide +kernel
theorem dX0_disagreesWith_39 : decode cX0_disagreesWith 39 = .ok (.invokestatic 22, 3) := by decide +kernel
theorem dX0_disagreesWith_42 : decode cX0_disagreesWith 42 = .ok (.ifCond .eq 7, 3) := by decide +kernel
theorem dX0_disagreesWith_45 : decode cX0_disagreesWith 45 = .ok (.iconst 1, 1) := by decide +kernel
theorem dX0_disagreesWith_46 : decode cX0_disagreesWith 46 = .ok (.goto 4, 3) := by decide +kernel
theorem dX0_disagreesWith_49 : decode cX0_disagreesWith 49 = .ok (.iconst 0, 1) := by decide +kernel
theorem dX0_disagreesWith_50 : decode cX0_disagreesWith 50 = .ok (.ireturn, 1) := by decide +kernel
theorem dX1_init_0 : decode cX1_init 0 = .ok (.aload_n 0, 1) := by decide +kernel
theorem dX1_init_1 : decode cX1_init 1 = .ok (.invokespecial 1, 3) := by decide +kernel
theorem dX1_init_4 : decode cX1_init 4 = .ok (.return_, 1) := by decide +kernel
set_option maxRecDepth 20000 in
theorem ggX2_init_X1_init : GoodIn wsX2_init wsX1_init := goodIn_r _ [5, 6, 7, 8] (by decide +kernel) (by decide +kernel)
set_option maxRecDepth 20000 in
theorem gX2_init_X1_init_n3 : GoodIn wsX2_init (wsX1_init) := ggX2_init_X1_init
theorem dX2_init_0 : decode cX2_init 0 = .ok (.aload_n 0, 1) := by decide +kernel
theorem dX2_init_1 : decode cX2_init 1 = .ok (.invokespecial 3, 3) := by decide +kernel
theorem dX2_init_4 : decode cX2_init 4 = .ok (.aload_n 0, 1) := by decide +kernel
theorem dX2_init_5 : decode cX2_init 5 = .ok (.sipush 480, 3) := by decide +kernel
theorem dX2_init_8 : decode cX2_init 8 = .ok (.anewarray 9, 3) := by decide +kernel
theorem dX2_init_11 : decode cX2_init 11 = .ok (.putfield 11, 3) := by decide +kernel
theorem dX2_init_14 : decode cX2_init 14 = .ok (.return_, 1) := by decide +kernel
set_option maxRecDepth 20000 in
theorem ggX2_keep_X0_replaces : GoodIn wsX2_keep wsX0_replaces := goodIn_r _ [8, 9, 10, 12, 13, 14, 15, 16] (by decide +kernel) (by decide +kernel)
set_option maxRecDepth 20000 in
theorem gX2_keep_X0_replaces : GoodIn wsX2_keep (wsV RX2 21 RX0 yX0_replaces wsX0_replaces) := goodIn_app (goodIn_of _ (by decide +kernel)) ggX2_keep_X0_replaces
theorem dX2_keep_0 : decode cX2_keep 0 = .ok (.aload_n 0, 1) := by decide +kernel
theorem dX2_keep_1 : decode cX2_keep 1 = .ok (.getfield 11, 3) := by decide +kernel
theorem dX2_keep_4 : decode cX2_keep 4 = .ok (.aload_n 1, 1) := by decide +kernel
theorem dX2_keep_5 : decode cX2_keep 5 = .ok (.getfield 17, 3) := by decide +kernel
theorem dX2_keep_8 : decode cX2_keep 8 = .ok (.aaload, 1) := by decide +kernel
theorem dX2_keep_9 : decode cX2_keep 9 = .ok (.astore_n 2, 1) := by decide +kernel
theorem dX2_keep_10 : decode cX2_keep 10 = .ok (.aload_n 2, 1) := by decide +kernel
theorem dX2_keep_11 : decode cX2_keep 11 = .ok (.ifnull 11, 3) := by decide +kernel
theorem dX2_keep_14 : decode cX2_keep 14 = .ok (.aload_n 1, 1) := by decide +kernel
theorem dX2_keep_15 : decode cX2_keep 15 = .ok (.aload_n 2, 1) := by decide +kernel
theorem dX2_keep_16 : decode cX2_keep 16 = .ok (.invokevirtual 21, 3) := by decide +kernel
theorem dX2_keep_19 : decode cX2_keep 19 = .ok (.ifCond .eq 18, 3) := by decide +kernel
theorem dX2_keep_22 : decode cX2_keep 22 = .ok (.aload_n 1, 1) := by decide +kernel
theorem dX2_keep_23 : decode cX2_keep 23 = .ok (.aload_n 2, 1) := by decide +kernel
theorem dX2_keep_24 : decode cX2_keep 24 = .ok (.putfield 25, 3) := by decide +kernel
theorem dX2_keep_27 : decode cX2_keep 27 = .ok (.aload_n 0, 1) := by decide +kernel
theorem dX2_keep_28 : decode cX2_keep 28 = .ok (.getfield 11, 3) := by decide +kernel
theorem dX2_keep_31 : decode cX2_keep 31 = .ok (.aload_n 1, 1) := by decide +kernel
theorem dX2_keep_32 : decode cX2_keep 32 = .ok (.getfield 17, 3) := by decide +kernel
theorem dX2_keep_35 : decode cX2_keep 35 = .ok (.aload_n 1, 1) := by decide +kernel
theorem dX2_keep_36 : decode cX2_keep 36 = .ok (.aastore, 1) := by decide +kernel
theorem dX2_keep_37 : decode cX2_keep 37 = .ok (.return_, 1) := by decide +kernel
theorem dX2_holding_0 : decode cX2_holding 0 = .ok (.aload_n 0, 1) := by decide +kernel
theorem dX2_holding_1 : decode cX2_holding 1 = .ok (.getfield 11, 3) := by decide +kernel
theorem dX2_holding_4 : decode cX2_holding 4 = .ok (.iload_n 1, 1) := by decide +kernel
theorem dX2_holding_5 : decode cX2_holding 5 = .ok (.aaload, 1) := by decide +kernel
theorem dX2_holding_6 : decode cX2_holding 6 = .ok (.astore_n 3, 1) := by decide +kernel
theorem dX2_holding_7 : decode cX2_holding 7 = .ok (.aload_n 3, 1) := by decide +kernel
theorem dX2_holding_8 : decode cX2_holding 8 = .ok (.ifnull 19, 3) := by decide +kernel
theorem dX2_holding_11 : decode cX2_holding 11 = .ok (.aload_n 3, 1) := by decide +kernel
theorem dX2_holding_12 : decode cX2_holding 12 = .ok (.getfield 29, 3) := by decide +kernel
theorem dX2_holding_15 : decode cX2_holding 15 = .ok (.iload_n 2, 1) := by decide +kernel
theorem dX2_holding_16 : decode cX2_holding 16 = .ok (.if_icmp .le 11, 3) := by decide +kernel
theorem dX2_holding_19 : decode cX2_holding 19 = .ok (.aload_n 3, 1) := by decide +kernel
theorem dX2_holding_20 : decode cX2_holding 20 = .ok (.getfield 25, 3) := by decide +kernel
theorem dX2_holding_23 : decode cX2_holding 23 = .ok (.astore_n 3, 1) := by decide +kernel
theorem dX2_holding_24 : decode cX2_holding 24 = .ok (.goto (-17), 3) := by decide +kernel
theorem dX2_holding_27 : decode cX2_holding 27 = .ok (.aload_n 3, 1) := by decide +kernel
theorem dX2_holding_28 : decode cX2_holding 28 = .ok (.areturn, 1) := by decide +kernel
set_option maxRecDepth 20000 in
theorem ggX3_init_X1_init : GoodIn wsX3_init wsX1_init := goodIn_r _ [5, 6, 7, 8] (by decide +kernel) (by decide +kernel)
set_option maxRecDepth 20000 in
theorem gX3_init_X1_init_n3 : GoodIn wsX3_init (wsX1_init) := ggX3_init_X1_init
theorem dX3_init_0 : decode cX3_init 0 = .ok (.aload_n 0, 1) := by decide +kernel
theorem dX3_init_1 : decode cX3_init 1 = .ok (.invokespecial 3, 3) := by decide +kernel
theorem dX3_init_4 : decode cX3_init 4 = .ok (.aload_n 0, 1) := by decide +kernel
theorem dX3_init_5 : decode cX3_init 5 = .ok (.bipush 80, 2) := by decide +kernel
theorem dX3_init_7 : decode cX3_init 7 = .ok (.anewarray 9, 3) := by decide +kernel
theorem dX3_init_10 : decode cX3_init 10 = .ok (.putfield 11, 3) := by decide +kernel
theorem dX3_init_13 : decode cX3_init 13 = .ok (.return_, 1) := by decide +kernel
theorem dX3_isFull_0 : decode cX3_isFull 0 = .ok (.aload_n 0, 1) := by decide +kernel
theorem dX3_isFull_1 : decode cX3_isFull 1 = .ok (.getfield 17, 3) := by decide +kernel
theorem dX3_isFull_4 : decode cX3_isFull 4 = .ok (.bipush 80, 2) := by decide +kernel
theorem dX3_isFull_6 : decode cX3_isFull 6 = .ok (.if_icmp .lt 7, 3) := by decide +kernel
theorem dX3_isFull_9 : decode cX3_isFull 9 = .ok (.iconst 1, 1) := by decide +kernel
theorem dX3_isFull_10 : decode cX3_isFull 10 = .ok (.goto 4, 3) := by decide +kernel
theorem dX3_isFull_13 : decode cX3_isFull 13 = .ok (.iconst 0, 1) := by decide +kernel
theorem dX3_isFull_14 : decode cX3_isFull 14 = .ok (.ireturn, 1) := by decide +kernel
theorem dX3_keep_0 : decode cX3_keep 0 = .ok (.aload_n 0, 1) := by decide +kernel
theorem dX3_keep_1 : decode cX3_keep 1 = .ok (.getfield 17, 3) := by decide +kernel
theorem dX3_keep_4 : decode cX3_keep 4 = .ok (.bipush 80, 2) := by decide +kernel
theorem dX3_keep_6 : decode cX3_keep 6 = .ok (.if_icmp .ge 23, 3) := by decide +kernel
theorem dX3_keep_9 : decode cX3_keep 9 = .ok (.aload_n 0, 1) := by decide +kernel
theorem dX3_keep_10 : decode cX3_keep 10 = .ok (.getfield 11, 3) := by decide +kernel
theorem dX3_keep_13 : decode cX3_keep 13 = .ok (.aload_n 0, 1) := by decide +kernel
theorem dX3_keep_14 : decode cX3_keep 14 = .ok (.getfield 17, 3) := by decide +kernel
theorem dX3_keep_17 : decode cX3_keep 17 = .ok (.aload_n 1, 1) := by decide +kernel
theorem dX3_keep_18 : decode cX3_keep 18 = .ok (.aastore, 1) := by decide +kernel
theorem dX3_keep_19 : decode cX3_keep 19 = .ok (.aload_n 0, 1) := by decide +kernel
theorem dX3_keep_20 : decode cX3_keep 20 = .ok (.dup, 1) := by decide +kernel
theorem dX3_keep_21 : decode cX3_keep 21 = .ok (.getfield 17, 3) := by decide +kernel
theorem dX3_keep_24 : decode cX3_keep 24 = .ok (.iconst 1, 1) := by decide +kernel
theorem dX3_keep_25 : decode cX3_keep 25 = .ok (.iadd, 1) := by decide +kernel
theorem dX3_keep_26 : decode cX3_keep 26 = .ok (.putfield 17, 3) := by decide +kernel
theorem dX3_keep_29 : decode cX3_keep 29 = .ok (.return_, 1) := by decide +kernel
set_option maxRecDepth 20000 in
theorem ggX3_holding_X0_replaces : GoodIn wsX3_holding wsX0_replaces := goodIn_r _ [9, 10, 11, 14, 15, 16, 17, 18] (by decide +kernel) (by decide +kernel)
set_option maxRecDepth 20000 in
theorem gX3_holding_X0_replaces : GoodIn wsX3_holding (wsV RX3 27 RX0 yX0_replaces wsX0_replaces) := goodIn_app (goodIn_of _ (by decide +kernel)) ggX3_holding_X0_replaces
theorem dX3_holding_0 : decode cX3_holding 0 = .ok (.aconst_null, 1) := by decide +kernel
theorem dX3_holding_1 : decode cX3_holding 1 = .ok (.astore_n 3, 1) := by decide +kernel
theorem dX3_holding_2 : decode cX3_holding 2 = .ok (.iconst 0, 1) := by decide +kernel
theorem dX3_holding_3 : decode cX3_holding 3 = .ok (.istore 4, 2) := by decide +kernel
theorem dX3_holding_5 : decode cX3_holding 5 = .ok (.iload 4, 2) := by decide +kernel
theorem dX3_holding_7 : decode cX3_holding 7 = .ok (.aload_n 0, 1) := by decide +kernel
theorem dX3_holding_8 : decode cX3_holding 8 = .ok (.getfield 17, 3) := by decide +kernel
theorem dX3_holding_11 : decode cX3_holding 11 = .ok (.if_icmp .ge 57, 3) := by decide +kernel
theorem dX3_holding_14 : decode cX3_holding 14 = .ok (.aload_n 0, 1) := by decide +kernel
theorem dX3_holding_15 : decode cX3_holding 15 = .ok (.getfield 11, 3) := by decide +kernel
theorem dX3_holding_18 : decode cX3_holding 18 = .ok (.iload 4, 2) := by decide +kernel
theorem dX3_holding_20 : decode cX3_holding 20 = .ok (.aaload, 1) := by decide +kernel
theorem dX3_holding_21 : decode cX3_holding 21 = .ok (.astore 5, 2) := by decide +kernel
theorem dX3_holding_23 : decode cX3_holding 23 = .ok (.aload 5, 2) := by decide +kernel
theorem dX3_holding_25 : decode cX3_holding 25 = .ok (.ifnull 37, 3) := by decide +kernel
theorem dX3_holding_28 : decode cX3_holding 28 = .ok (.aload 5, 2) := by decide +kernel
theorem dX3_holding_30 : decode cX3_holding 30 = .ok (.getfield 21, 3) := by decide +kernel
theorem dX3_holding_33 : decode cX3_holding 33 = .ok (.iload_n 1, 1) := by decide +kernel
theorem dX3_holding_34 : decode cX3_holding 34 = .ok (.if_icmp .ne 28, 3) := by decide +kernel
theorem dX3_holding_37 : decode cX3_holding 37 = .ok (.aload 5, 2) := by decide +kernel
theorem dX3_holding_39 : decode cX3_holding 39 = .ok (.getfield 24, 3) := by decide +kernel
theorem dX3_holding_42 : decode cX3_holding 42 = .ok (.iload_n 2, 1) := by decide +kernel
theorem dX3_holding_43 : decode cX3_holding 43 = .ok (.if_icmp .gt 19, 3) := by decide +kernel
theorem dX3_holding_46 : decode cX3_holding 46 = .ok (.aload_n 3, 1) := by decide +kernel
theorem dX3_holding_47 : decode cX3_holding 47 = .ok (.ifnull 12, 3) := by decide +kernel
theorem dX3_holding_50 : decode cX3_holding 50 = .ok (.aload 5, 2) := by decide +kernel
theorem dX3_holding_52 : decode cX3_holding 52 = .ok (.aload_n 3, 1) := by decide +kernel
theorem dX3_holding_53 : decode cX3_holding 53 = .ok (.invokevirtual 27, 3) := by decide +kernel
theorem dX3_holding_56 : decode cX3_holding 56 = .ok (.ifCond .eq 6, 3) := by decide +kernel
theorem dX3_holding_59 : decode cX3_holding 59 = .ok (.aload 5, 2) := by decide +kernel
theorem dX3_holding_61 : decode cX3_holding 61 = .ok (.astore_n 3, 1) := by decide +kernel
theorem dX3_holding_62 : decode cX3_holding 62 = .ok (.iinc 4 1, 3) := by decide +kernel
theorem dX3_holding_65 : decode cX3_holding 65 = .ok (.goto (-60), 3) := by decide +kernel
theorem dX3_holding_68 : decode cX3_holding 68 = .ok (.aload_n 3, 1) := by decide +kernel
theorem dX3_holding_69 : decode cX3_holding 69 = .ok (.areturn, 1) := by decide +kernel
set_option maxRecDepth 20000 in
theorem ggX3_countAgainst_X0_disagreesWith : GoodIn wsX3_countAgainst wsX0_disagreesWith := goodIn_r _ [6, 7, 8, 9, 10, 11, 12, 13, 14, 15, 16, 17, 20, 21, 22, 23, 24] (by decide +kernel) (by decide +kernel)
set_option maxRecDepth 20000 in
theorem gX3_countAgainst_X0_disagreesWith : GoodIn wsX3_countAgainst (wsV RX3 31 RX0 yX0_disagreesWith wsX0_disagreesWith) := goodIn_app (goodIn_of _ (by decide +kernel)) ggX3_countAgainst_X0_disagreesWith
theorem dX3_countAgainst_0 : decode cX3_countAgainst 0 = .ok (.iconst 0, 1) := by decide +kernel
theorem dX3_countAgainst_1 : decode cX3_countAgainst 1 = .ok (.istore_n 3, 1) := by decide +kernel
theorem dX3_countAgainst_2 : decode cX3_countAgainst 2 = .ok (.iconst 0, 1) := by decide +kernel
theorem dX3_countAgainst_3 : decode cX3_countAgainst 3 = .ok (.istore 4, 2) := by decide +kernel
theorem dX3_countAgainst_5 : decode cX3_countAgainst 5 = .ok (.iload 4, 2) := by decide +kernel
theorem dX3_countAgainst_7 : decode cX3_countAgainst 7 = .ok (.iload_n 2, 1) := by decide +kernel
theorem dX3_countAgainst_8 : decode cX3_countAgainst 8 = .ok (.if_icmp .ge 35, 3) := by decide +kernel
theorem dX3_countAgainst_11 : decode cX3_countAgainst 11 = .ok (.aload_n 0, 1) := by decide +kernel
theorem dX3_countAgainst_12 : decode cX3_countAgainst 12 = .ok (.getfield 11, 3) := by decide +kernel
theorem dX3_countAgainst_15 : decode cX3_countAgainst 15 = .ok (.iload 4, 2) := by decide +kernel
theorem dX3_countAgainst_17 : decode cX3_countAgainst 17 = .ok (.aaload, 1) := by decide +kernel
theorem dX3_countAgainst_18 : decode cX3_countAgainst 18 = .ok (.astore 5, 2) := by decide +kernel
theorem dX3_countAgainst_20 : decode cX3_countAgainst 20 = .ok (.aload 5, 2) := by decide +kernel
theorem dX3_countAgainst_22 : decode cX3_countAgainst 22 = .ok (.ifnull 15, 3) := by decide +kernel
theorem dX3_countAgainst_25 : decode cX3_countAgainst 25 = .ok (.aload_n 1, 1) := by decide +kernel
theorem dX3_countAgainst_26 : decode cX3_countAgainst 26 = .ok (.aload 5, 2) := by decide +kernel
theorem dX3_countAgainst_28 : decode cX3_countAgainst 28 = .ok (.invokevirtual 31, 3) := by decide +kernel
theorem dX3_countAgainst_31 : decode cX3_countAgainst 31 = .ok (.ifCond .eq 6, 3) := by decide +kernel
theorem dX3_countAgainst_34 : decode cX3_countAgainst 34 = .ok (.iinc 3 1, 3) := by decide +kernel
theorem dX3_countAgainst_37 : decode cX3_countAgainst 37 = .ok (.iinc 4 1, 3) := by decide +kernel
theorem dX3_countAgainst_40 : decode cX3_countAgainst 40 = .ok (.goto (-35), 3) := by decide +kernel
theorem dX3_countAgainst_43 : decode cX3_countAgainst 43 = .ok (.iload_n 3, 1) := by decide +kernel
theorem dX3_countAgainst_44 : decode cX3_countAgainst 44 = .ok (.ireturn, 1) := by decide +kernel
set_option maxRecDepth 20000 in
theorem ggX4_init_X3_init : GoodIn wsX4_init wsX3_init := goodIn_r _ [20, 21, 22, 23, 24, 25, 26, 2, 3, 42, 43] (by decide +kernel) (by decide +kernel)
set_option maxRecDepth 20000 in
theorem gX4_init_X3_init_n24 : GoodIn wsX4_init (wsX3_init) := ggX4_init_X3_init
set_option maxRecDepth 20000 in
theorem ggX4_init_X2_init : GoodIn wsX4_init wsX2_init := goodIn_r _ [28, 29, 30, 23, 24, 25, 26, 2, 3, 44] (by decide +kernel) (by decide +kernel)
set_option maxRecDepth 20000 in
theorem gX4_init_X2_init_n31 : GoodIn wsX4_init (wsX2_init) := ggX4_init_X2_init
theorem dX4_init_0 : decode cX4_init 0 = .ok (.aload_n 0, 1) := by decide +kernel
theorem dX4_init_1 : decode cX4_init 1 = .ok (.invokespecial 3, 3) := by decide +kernel
theorem dX4_init_4 : decode cX4_init 4 = .ok (.aload_n 0, 1) := by decide +kernel
theorem dX4_init_5 : decode cX4_init 5 = .ok (.bipush 12, 2) := by decide +kernel
theorem dX4_init_7 : decode cX4_init 7 = .ok (.newarray .int, 2) := by decide +kernel
theorem dX4_init_9 : decode cX4_init 9 = .ok (.putfield 9, 3) := by decide +kernel
theorem dX4_init_12 : decode cX4_init 12 = .ok (.aload_n 0, 1) := by decide +kernel
theorem dX4_init_13 : decode cX4_init 13 = .ok (.bipush 12, 2) := by decide +kernel
theorem dX4_init_15 : decode cX4_init 15 = .ok (.newarray .int, 2) := by decide +kernel
theorem dX4_init_17 : decode cX4_init 17 = .ok (.putfield 13, 3) := by decide +kernel
theorem dX4_init_20 : decode cX4_init 20 = .ok (.aload_n 0, 1) := by decide +kernel
theorem dX4_init_21 : decode cX4_init 21 = .ok (.iconst 5, 1) := by decide +kernel
theorem dX4_init_22 : decode cX4_init 22 = .ok (.newarray .int, 2) := by decide +kernel
theorem dX4_init_24 : decode cX4_init 24 = .ok (.putfield 16, 3) := by decide +kernel
theorem dX4_init_27 : decode cX4_init 27 = .ok (.aload_n 0, 1) := by decide +kernel
theorem dX4_init_28 : decode cX4_init 28 = .ok (.iconst 5, 1) := by decide +kernel
theorem dX4_init_29 : decode cX4_init 29 = .ok (.newarray .int, 2) := by decide +kernel
theorem dX4_init_31 : decode cX4_init 31 = .ok (.putfield 19, 3) := by decide +kernel
theorem dX4_init_34 : decode cX4_init 34 = .ok (.aload_n 0, 1) := by decide +kernel
theorem dX4_init_35 : decode cX4_init 35 = .ok (.new 22, 3) := by decide +kernel
theorem dX4_init_38 : decode cX4_init 38 = .ok (.dup, 1) := by decide +kernel
theorem dX4_init_39 : decode cX4_init 39 = .ok (.invokespecial 24, 3) := by decide +kernel
theorem dX4_init_42 : decode cX4_init 42 = .ok (.putfield 25, 3) := by decide +kernel
theorem dX4_init_45 : decode cX4_init 45 = .ok (.aload_n 0, 1) := by decide +kernel
theorem dX4_init_46 : decode cX4_init 46 = .ok (.new 29, 3) := by decide +kernel
theorem dX4_init_49 : decode cX4_init 49 = .ok (.dup, 1) := by decide +kernel
theorem dX4_init_50 : decode cX4_init 50 = .ok (.invokespecial 31, 3) := by decide +kernel
theorem dX4_init_53 : decode cX4_init 53 = .ok (.putfield 32, 3) := by decide +kernel
theorem dX4_init_56 : decode cX4_init 56 = .ok (.aload_n 0, 1) := by decide +kernel
theorem dX4_init_57 : decode cX4_init 57 = .ok (.bipush 12, 2) := by decide +kernel
theorem dX4_init_59 : decode cX4_init 59 = .ok (.newarray .int, 2) := by decide +kernel
theorem dX4_init_61 : decode cX4_init 61 = .ok (.putfield 36, 3) := by decide +kernel
theorem dX4_init_64 : decode cX4_init 64 = .ok (.aload_n 0, 1) := by decide +kernel
theorem dX4_init_65 : decode cX4_init 65 = .ok (.bipush 12, 2) := by decide +kernel
theorem dX4_init_67 : decode cX4_init 67 = .ok (.newarray .int, 2) := by decide +kernel
theorem dX4_init_69 : decode cX4_init 69 = .ok (.putfield 39, 3) := by decide +kernel
theorem dX4_init_72 : decode cX4_init 72 = .ok (.return_, 1) := by decide +kernel
theorem dX4_addConcept_0 : decode cX4_addConcept 0 = .ok (.aload_n 0, 1) := by decide +kernel
theorem dX4_addConcept_1 : decode cX4_addConcept 1 = .ok (.getfield 42, 3) := by decide +kernel
theorem dX4_addConcept_4 : decode cX4_addConcept 4 = .ok (.bipush 12, 2) := by decide +kernel
theorem dX4_addConcept_6 : decode cX4_addConcept 6 = .ok (.if_icmp .lt 13, 3) := by decide +kernel
theorem dX4_addConcept_9 : decode cX4_addConcept 9 = .ok (.new 46, 3) := by decide +kernel
theorem dX4_addConcept_12 : decode cX4_addConcept 12 = .ok (.dup, 1) := by decide +kernel
theorem dX4_addConcept_13 : decode cX4_addConcept 13 = .ok (.ldc 48, 2) := by decide +kernel
theorem dX4_addConcept_15 : decode cX4_addConcept 15 = .ok (.invokespecial 50, 3) := by decide +kernel
theorem dX4_addConcept_18 : decode cX4_addConcept 18 = .ok (.athrow, 1) := by decide +kernel
theorem dX4_addConcept_19 : decode cX4_addConcept 19 = .ok (.aload_n 0, 1) := by decide +kernel
theorem dX4_addConcept_20 : decode cX4_addConcept 20 = .ok (.getfield 42, 3) := by decide +kernel
theorem dX4_addConcept_23 : decode cX4_addConcept 23 = .ok (.istore_n 1, 1) := by decide +kernel
theorem dX4_addConcept_24 : decode cX4_addConcept 24 = .ok (.aload_n 0, 1) := by decide +kernel
theorem dX4_addConcept_25 : decode cX4_addConcept 25 = .ok (.getfield 9, 3) := by decide +kernel
theorem dX4_addConcept_28 : decode cX4_addConcept 28 = .ok (.iload_n 1, 1) := by decide +kernel
theorem dX4_addConcept_29 : decode cX4_addConcept 29 = .ok (.iconst (-1), 1) := by decide +kernel
theorem dX4_addConcept_30 : decode cX4_addConcept 30 = .ok (.iastore, 1) := by decide +kernel
theorem dX4_addConcept_31 : decode cX4_addConcept 31 = .ok (.aload_n 0, 1) := by decide +kernel
theorem dX4_addConcept_32 : decode cX4_addConcept 32 = .ok (.dup, 1) := by decide +kernel
theorem dX4_addConcept_33 : decode cX4_addConcept 33 = .ok (.getfield 42, 3) := by decide +kernel
theorem dX4_addConcept_36 : decode cX4_addConcept 36 = .ok (.iconst 1, 1) := by decide +kernel
theorem dX4_addConcept_37 : decode cX4_addConcept 37 = .ok (.iadd, 1) := by decide +kernel
theorem dX4_addConcept_38 : decode cX4_addConcept 38 = .ok (.putfield 42, 3) := by decide +kernel
theorem dX4_addConcept_41 : decode cX4_addConcept 41 = .ok (.iload_n 1, 1) := by decide +kernel
theorem dX4_addConcept_42 : decode cX4_addConcept 42 = .ok (.ireturn, 1) := by decide +kernel
set_option maxRecDepth 20000 in
theorem ggX4_hang_X4_checkConcept : GoodIn wsX4_hang wsX4_checkConcept := goodIn_ca (goodIn_r _ [9, 10, 11, 12, 17, 18, 19, 20, 21, 22, 23, 24, 25, 26, 27] (by decide +kernel) (by decide +kernel)) (goodIn_sub (fun _ h => List.mem_cons_of_mem _ (List.mem_append_right _ h)) (by decide +kernel))
set_option maxRecDepth 20000 in
theorem gX4_hang_X4_checkConcept : GoodIn wsX4_hang (wsV RX4 53 RX4 yX4_checkConcept wsX4_checkConcept) := goodIn_app (goodIn_of _ (by decide +kernel)) ggX4_hang_X4_checkConcept
set_option maxRecDepth 20000 in
theorem ggX4_hang_X4_isAtOrUnder : GoodIn wsX4_hang wsX4_isAtOrUnder := goodIn_r _ [16, 3, 17, 18, 19, 20, 21, 22, 23, 24, 25, 26, 27] (by decide +kernel) (by decide +kernel)
set_option maxRecDepth 20000 in
theorem gX4_hang_X4_isAtOrUnder : GoodIn wsX4_hang (wsV RX4 57 RX4 yX4_isAtOrUnder wsX4_isAtOrUnder) := goodIn_app (goodIn_of _ (by decide +kernel)) ggX4_hang_X4_isAtOrUnder
theorem dX4_hang_0 : decode cX4_hang 0 = .ok (.aload_n 0, 1) := by decide +kernel
theorem dX4_hang_1 : decode cX4_hang 1 = .ok (.iload_n 1, 1) := by decide +kernel
theorem dX4_hang_2 : decode cX4_hang 2 = .ok (.invokevirtual 53, 3) := by decide +kernel
theorem dX4_hang_5 : decode cX4_hang 5 = .ok (.aload_n 0, 1) := by decide +kernel
theorem dX4_hang_6 : decode cX4_hang 6 = .ok (.iload_n 2, 1) := by decide +kernel
theorem dX4_hang_7 : decode cX4_hang 7 = .ok (.invokevirtual 53, 3) := by decide +kernel
theorem dX4_hang_10 : decode cX4_hang 10 = .ok (.aload_n 0, 1) := by decide +kernel
theorem dX4_hang_11 : decode cX4_hang 11 = .ok (.iload_n 2, 1) := by decide +kernel
theorem dX4_hang_12 : decode cX4_hang 12 = .ok (.iload_n 1, 1) := by decide +kernel
theorem dX4_hang_13 : decode cX4_hang 13 = .ok (.invokevirtual 57, 3) := by decide +kernel
theorem dX4_hang_16 : decode cX4_hang 16 = .ok (.ifCond .eq 13, 3) := by decide +kernel
theorem dX4_hang_19 : decode cX4_hang 19 = .ok (.new 61, 3) := by decide +kernel
theorem dX4_hang_22 : decode cX4_hang 22 = .ok (.dup, 1) := by decide +kernel
theorem dX4_hang_23 : decode cX4_hang 23 = .ok (.ldc 63, 2) := by decide +kernel
theorem dX4_hang_25 : decode cX4_hang 25 = .ok (.invokespecial 65, 3) := by decide +kernel
theorem dX4_hang_28 : decode cX4_hang 28 = .ok (.athrow, 1) := by decide +kernel
theorem dX4_hang_29 : decode cX4_hang 29 = .ok (.aload_n 0, 1) := by decide +kernel
theorem dX4_hang_30 : decode cX4_hang 30 = .ok (.getfield 9, 3) := by decide +kernel
theorem dX4_hang_33 : decode cX4_hang 33 = .ok (.iload_n 1, 1) := by decide +kernel
theorem dX4_hang_34 : decode cX4_hang 34 = .ok (.iaload, 1) := by decide +kernel
theorem dX4_hang_35 : decode cX4_hang 35 = .ok (.istore 4, 2) := by decide +kernel
theorem dX4_hang_37 : decode cX4_hang 37 = .ok (.aload_n 0, 1) := by decide +kernel
theorem dX4_hang_38 : decode cX4_hang 38 = .ok (.getfield 9, 3) := by decide +kernel
theorem dX4_hang_41 : decode cX4_hang 41 = .ok (.iload_n 1, 1) := by decide +kernel
theorem dX4_hang_42 : decode cX4_hang 42 = .ok (.iload_n 2, 1) := by decide +kernel
theorem dX4_hang_43 : decode cX4_hang 43 = .ok (.iastore, 1) := by decide +kernel
theorem dX4_hang_44 : decode cX4_hang 44 = .ok (.aload_n 0, 1) := by decide +kernel
theorem dX4_hang_45 : decode cX4_hang 45 = .ok (.getfield 13, 3) := by decide +kernel
theorem dX4_hang_48 : decode cX4_hang 48 = .ok (.iload_n 1, 1) := by decide +kernel
theorem dX4_hang_49 : decode cX4_hang 49 = .ok (.iload_n 3, 1) := by decide +kernel
theorem dX4_hang_50 : decode cX4_hang 50 = .ok (.ifCond .eq 7, 3) := by decide +kernel
theorem dX4_hang_53 : decode cX4_hang 53 = .ok (.iconst 1, 1) := by decide +kernel
theorem dX4_hang_54 : decode cX4_hang 54 = .ok (.goto 4, 3) := by decide +kernel
theorem dX4_hang_57 : decode cX4_hang 57 = .ok (.iconst (-1), 1) := by decide +kernel
theorem dX4_hang_58 : decode cX4_hang 58 = .ok (.iastore, 1) := by decide +kernel
theorem dX4_hang_59 : decode cX4_hang 59 = .ok (.iload 4, 2) := by decide +kernel
theorem dX4_hang_61 : decode cX4_hang 61 = .ok (.ireturn, 1) := by decide +kernel
set_option maxRecDepth 20000 in
theorem ggX4_unhang_X4_checkConcept : GoodIn wsX4_unhang wsX4_checkConcept := goodIn_ca (goodIn_r _ [6, 7, 8, 9, 10, 11, 12, 13, 14, 15, 16, 17, 18, 19, 20] (by decide +kernel) (by decide +kernel)) (goodIn_sub (fun _ h => List.mem_cons_of_mem _ (List.mem_append_right _ h)) (by decide +kernel))
set_option maxRecDepth 20000 in
theorem gX4_unhang_X4_checkConcept : GoodIn wsX4_unhang (wsV RX4 53 RX4 yX4_checkConcept wsX4_checkConcept) := goodIn_app (goodIn_of _ (by decide +kernel)) ggX4_unhang_X4_checkConcept
theorem dX4_unhang_0 : decode cX4_unhang 0 = .ok (.aload_n 0, 1) := by decide +kernel
theorem dX4_unhang_1 : decode cX4_unhang 1 = .ok (.iload_n 1, 1) := by decide +kernel
theorem dX4_unhang_2 : decode cX4_unhang 2 = .ok (.invokevirtual 53, 3) := by decide +kernel
theorem dX4_unhang_5 : decode cX4_unhang 5 = .ok (.aload_n 0, 1) := by decide +kernel
theorem dX4_unhang_6 : decode cX4_unhang 6 = .ok (.getfield 9, 3) := by decide +kernel
theorem dX4_unhang_9 : decode cX4_unhang 9 = .ok (.iload_n 1, 1) := by decide +kernel
theorem dX4_unhang_10 : decode cX4_unhang 10 = .ok (.iaload, 1) := by decide +kernel
theorem dX4_unhang_11 : decode cX4_unhang 11 = .ok (.istore_n 2, 1) := by decide +kernel
theorem dX4_unhang_12 : decode cX4_unhang 12 = .ok (.aload_n 0, 1) := by decide +kernel
theorem dX4_unhang_13 : decode cX4_unhang 13 = .ok (.getfield 9, 3) := by decide +kernel
theorem dX4_unhang_16 : decode cX4_unhang 16 = .ok (.iload_n 1, 1) := by decide +kernel
theorem dX4_unhang_17 : decode cX4_unhang 17 = .ok (.iconst (-1), 1) := by decide +kernel
theorem dX4_unhang_18 : decode cX4_unhang 18 = .ok (.iastore, 1) := by decide +kernel
theorem dX4_unhang_19 : decode cX4_unhang 19 = .ok (.iload_n 2, 1) := by decide +kernel
theorem dX4_unhang_20 : decode cX4_unhang 20 = .ok (.ireturn, 1) := by decide +kernel
set_option maxRecDepth 20000 in
theorem ggX4_addRoll_X4_checkConcept : GoodIn wsX4_addRoll wsX4_checkConcept := goodIn_ca (goodIn_r _ [12, 13, 14, 15, 16, 17, 18, 19, 20, 21, 22, 23, 24, 25, 26] (by decide +kernel) (by decide +kernel)) (goodIn_sub (fun _ h => List.mem_cons_of_mem _ (List.mem_append_right _ h)) (by decide +kernel))
set_option maxRecDepth 20000 in
theorem gX4_addRoll_X4_checkConcept : GoodIn wsX4_addRoll (wsV RX4 53 RX4 yX4_checkConcept wsX4_checkConcept) := goodIn_app (goodIn_of _ (by decide +kernel)) ggX4_addRoll_X4_checkConcept
theorem dX4_addRoll_0 : decode cX4_addRoll 0 = .ok (.aload_n 0, 1) := by decide +kernel
theorem dX4_addRoll_1 : decode cX4_addRoll 1 = .ok (.iload_n 1, 1) := by decide +kernel
theorem dX4_addRoll_2 : decode cX4_addRoll 2 = .ok (.invokevirtual 53, 3) := by decide +kernel
theorem dX4_addRoll_5 : decode cX4_addRoll 5 = .ok (.aload_n 0, 1) := by decide +kernel
theorem dX4_addRoll_6 : decode cX4_addRoll 6 = .ok (.iload_n 2, 1) := by decide +kernel
theorem dX4_addRoll_7 : decode cX4_addRoll 7 = .ok (.invokevirtual 53, 3) := by decide +kernel
theorem dX4_addRoll_10 : decode cX4_addRoll 10 = .ok (.iload_n 1, 1) := by decide +kernel
theorem dX4_addRoll_11 : decode cX4_addRoll 11 = .ok (.iload_n 2, 1) := by decide +kernel
theorem dX4_addRoll_12 : decode cX4_addRoll 12 = .ok (.if_icmp .ne 13, 3) := by decide +kernel
theorem dX4_addRoll_15 : decode cX4_addRoll 15 = .ok (.new 61, 3) := by decide +kernel
theorem dX4_addRoll_18 : decode cX4_addRoll 18 = .ok (.dup, 1) := by decide +kernel
theorem dX4_addRoll_19 : decode cX4_addRoll 19 = .ok (.ldc 66, 2) := by decide +kernel
theorem dX4_addRoll_21 : decode cX4_addRoll 21 = .ok (.invokespecial 65, 3) := by decide +kernel
theorem dX4_addRoll_24 : decode cX4_addRoll 24 = .ok (.athrow, 1) := by decide +kernel
theorem dX4_addRoll_25 : decode cX4_addRoll 25 = .ok (.aload_n 0, 1) := by decide +kernel
theorem dX4_addRoll_26 : decode cX4_addRoll 26 = .ok (.getfield 68, 3) := by decide +kernel
theorem dX4_addRoll_29 : decode cX4_addRoll 29 = .ok (.iconst 5, 1) := by decide +kernel
theorem dX4_addRoll_30 : decode cX4_addRoll 30 = .ok (.if_icmp .lt 13, 3) := by decide +kernel
theorem dX4_addRoll_33 : decode cX4_addRoll 33 = .ok (.new 46, 3) := by decide +kernel
theorem dX4_addRoll_36 : decode cX4_addRoll 36 = .ok (.dup, 1) := by decide +kernel
theorem dX4_addRoll_37 : decode cX4_addRoll 37 = .ok (.ldc 71, 2) := by decide +kernel
theorem dX4_addRoll_39 : decode cX4_addRoll 39 = .ok (.invokespecial 50, 3) := by decide +kernel
theorem dX4_addRoll_42 : decode cX4_addRoll 42 = .ok (.athrow, 1) := by decide +kernel
theorem dX4_addRoll_43 : decode cX4_addRoll 43 = .ok (.aload_n 0, 1) := by decide +kernel
theorem dX4_addRoll_44 : decode cX4_addRoll 44 = .ok (.getfield 68, 3) := by decide +kernel
theorem dX4_addRoll_47 : decode cX4_addRoll 47 = .ok (.istore_n 3, 1) := by decide +kernel
theorem dX4_addRoll_48 : decode cX4_addRoll 48 = .ok (.aload_n 0, 1) := by decide +kernel
theorem dX4_addRoll_49 : decode cX4_addRoll 49 = .ok (.getfield 16, 3) := by decide +kernel
theorem dX4_addRoll_52 : decode cX4_addRoll 52 = .ok (.iload_n 3, 1) := by decide +kernel
theorem dX4_addRoll_53 : decode cX4_addRoll 53 = .ok (.iload_n 1, 1) := by decide +kernel
theorem dX4_addRoll_54 : decode cX4_addRoll 54 = .ok (.iastore, 1) := by decide +kernel
theorem dX4_addRoll_55 : decode cX4_addRoll 55 = .ok (.aload_n 0, 1) := by decide +kernel
theorem dX4_addRoll_56 : decode cX4_addRoll 56 = .ok (.getfield 19, 3) := by decide +kernel
theorem dX4_addRoll_59 : decode cX4_addRoll 59 = .ok (.iload_n 3, 1) := by decide +kernel
theorem dX4_addRoll_60 : decode cX4_addRoll 60 = .ok (.iload_n 2, 1) := by decide +kernel
theorem dX4_addRoll_61 : decode cX4_addRoll 61 = .ok (.iastore, 1) := by decide +kernel
theorem dX4_addRoll_62 : decode cX4_addRoll 62 = .ok (.aload_n 0, 1) := by decide +kernel
theorem dX4_addRoll_63 : decode cX4_addRoll 63 = .ok (.dup, 1) := by decide +kernel
theorem dX4_addRoll_64 : decode cX4_addRoll 64 = .ok (.getfield 68, 3) := by decide +kernel
theorem dX4_addRoll_67 : decode cX4_addRoll 67 = .ok (.iconst 1, 1) := by decide +kernel
theorem dX4_addRoll_68 : decode cX4_addRoll 68 = .ok (.iadd, 1) := by decide +kernel
theorem dX4_addRoll_69 : decode cX4_addRoll 69 = .ok (.putfield 68, 3) := by decide +kernel
theorem dX4_addRoll_72 : decode cX4_addRoll 72 = .ok (.iload_n 3, 1) := by decide +kernel
theorem dX4_addRoll_73 : decode cX4_addRoll 73 = .ok (.ireturn, 1) := by decide +kernel
theorem dX4_file_0 : decode cX4_file 0 = .ok (.aload_n 0, 1) := by decide +kernel
theorem dX4_file_1 : decode cX4_file 1 = .ok (.getfield 73, 3) := by decide +kernel
theorem dX4_file_4 : decode cX4_file 4 = .ok (.bipush 7, 2) := by decide +kernel
theorem dX4_file_6 : decode cX4_file 6 = .ok (.if_icmp .lt 13, 3) := by decide +kernel
theorem dX4_file_9 : decode cX4_file 9 = .ok (.new 46, 3) := by decide +kernel
theorem dX4_file_12 : decode cX4_file 12 = .ok (.dup, 1) := by decide +kernel
theorem dX4_file_13 : decode cX4_file 13 = .ok (.ldc 76, 2) := by decide +kernel
theorem dX4_file_15 : decode cX4_file 15 = .ok (.invokespecial 50, 3) := by decide +kernel
theorem dX4_file_18 : decode cX4_file 18 = .ok (.athrow, 1) := by decide +kernel
theorem dX4_file_19 : decode cX4_file 19 = .ok (.aload_n 0, 1) := by decide +kernel
theorem dX4_file_20 : decode cX4_file 20 = .ok (.dup, 1) := by decide +kernel
theorem dX4_file_21 : decode cX4_file 21 = .ok (.getfield 73, 3) := by decide +kernel
theorem dX4_file_24 : decode cX4_file 24 = .ok (.iconst 1, 1) := by decide +kernel
theorem dX4_file_25 : decode cX4_file 25 = .ok (.iadd, 1) := by decide +kernel
theorem dX4_file_26 : decode cX4_file 26 = .ok (.putfield 73, 3) := by decide +kernel
theorem dX4_file_29 : decode cX4_file 29 = .ok (.aload_n 0, 1) := by decide +kernel
theorem dX4_file_30 : decode cX4_file 30 = .ok (.getfield 73, 3) := by decide +kernel
theorem dX4_file_33 : decode cX4_file 33 = .ok (.ireturn, 1) := by decide +kernel
set_option maxRecDepth 20000 in
theorem ggX4_tell_X4_checkKey : GoodIn wsX4_tell wsX4_checkKey := goodIn_ca (goodIn_r _ [19, 20, 21, 22, 18, 23, 24, 25, 26, 27, 28, 29, 66, 67, 68, 69, 70, 71, 72, 73, 74, 75, 76] (by decide +kernel) (by decide +kernel)) (goodIn_sub (fun _ h => List.mem_cons_of_mem _ (List.mem_append_right _ h)) (by decide +kernel))
set_option maxRecDepth 20000 in
theorem gX4_tell_X4_checkKey : GoodIn wsX4_tell (wsV RX4 78 RX4 yX4_checkKey wsX4_checkKey) := goodIn_app (goodIn_of _ (by decide +kernel)) ggX4_tell_X4_checkKey
set_option maxRecDepth 20000 in
theorem ggX4_tell_X3_isFull : GoodIn wsX4_tell wsX3_isFull := goodIn_r _ [34, 35, 82, 83] (by decide +kernel) (by decide +kernel)
set_option maxRecDepth 20000 in
theorem gX4_tell_X3_isFull : GoodIn wsX4_tell (wsV RX4 88 RX3 yX3_isFull wsX3_isFull) := goodIn_app (goodIn_of _ (by decide +kernel)) ggX4_tell_X3_isFull
set_option maxRecDepth 20000 in
theorem ggX4_tell_X4_keyOf : GoodIn wsX4_tell wsX4_keyOf := goodIn_r _ [38] (by decide +kernel) (by decide +kernel)
set_option maxRecDepth 20000 in
theorem gX4_tell_X4_keyOf : GoodIn wsX4_tell (va_wsS RX4 96 yX4_keyOf wsX4_keyOf) := goodIn_app (goodIn_of _ (by decide +kernel)) ggX4_tell_X4_keyOf
set_option maxRecDepth 20000 in
theorem ggX4_tell_X0_init : GoodIn wsX4_tell wsX0_init := goodIn_r _ [41, 42, 43, 44, 45, 46, 47, 48, 77, 78, 79, 80, 81] (by decide +kernel) (by decide +kernel)
set_option maxRecDepth 20000 in
theorem gX4_tell_X0_init : GoodIn wsX4_tell (wsX0_init) := ggX4_tell_X0_init
set_option maxRecDepth 20000 in
theorem ggX4_tell_X3_keep : GoodIn wsX4_tell wsX3_keep := goodIn_r _ [52, 35, 53, 82, 83] (by decide +kernel) (by decide +kernel)
set_option maxRecDepth 20000 in
theorem gX4_tell_X3_keep : GoodIn wsX4_tell (wsV RX4 106 RX3 yX3_keep wsX3_keep) := goodIn_app (goodIn_of _ (by decide +kernel)) ggX4_tell_X3_keep
set_option maxRecDepth 20000 in
theorem ggX4_tell_X2_keep : GoodIn wsX4_tell wsX2_keep := goodIn_r _ [58, 59, 60, 61, 62, 63, 64, 10, 65, 46, 48, 84, 77, 78, 79, 80, 81] (by decide +kernel) (by decide +kernel)
set_option maxRecDepth 20000 in
theorem gX4_tell_X2_keep : GoodIn wsX4_tell (wsV RX4 110 RX2 yX2_keep wsX2_keep) := goodIn_app (goodIn_of _ (by decide +kernel)) ggX4_tell_X2_keep
theorem dX4_tell_0 : decode cX4_tell 0 = .ok (.aload_n 0, 1) := by decide +kernel
theorem dX4_tell_1 : decode cX4_tell 1 = .ok (.iload_n 1, 1) := by decide +kernel
theorem dX4_tell_2 : decode cX4_tell 2 = .ok (.iload_n 2, 1) := by decide +kernel
theorem dX4_tell_3 : decode cX4_tell 3 = .ok (.iload_n 3, 1) := by decide +kernel
theorem dX4_tell_4 : decode cX4_tell 4 = .ok (.invokevirtual 78, 3) := by decide +kernel
theorem dX4_tell_7 : decode cX4_tell 7 = .ok (.iload 4, 2) := by decide +kernel
theorem dX4_tell_9 : decode cX4_tell 9 = .ok (.ldc 82, 2) := by decide +kernel
theorem dX4_tell_11 : decode cX4_tell 11 = .ok (.if_icmp .lt 10, 3) := by decide +kernel
theorem dX4_tell_14 : decode cX4_tell 14 = .ok (.iload 4, 2) := by decide +kernel
theorem dX4_tell_16 : decode cX4_tell 16 = .ok (.ldc 83, 2) := by decide +kernel
theorem dX4_tell_18 : decode cX4_tell 18 = .ok (.if_icmp .le 13, 3) := by decide +kernel
theorem dX4_tell_21 : decode cX4_tell 21 = .ok (.new 61, 3) := by decide +kernel
theorem dX4_tell_24 : decode cX4_tell 24 = .ok (.dup, 1) := by decide +kernel
theorem dX4_tell_25 : decode cX4_tell 25 = .ok (.ldc 84, 2) := by decide +kernel
theorem dX4_tell_27 : decode cX4_tell 27 = .ok (.invokespecial 65, 3) := by decide +kernel
theorem dX4_tell_30 : decode cX4_tell 30 = .ok (.athrow, 1) := by decide +kernel
theorem dX4_tell_31 : decode cX4_tell 31 = .ok (.iload 5, 2) := by decide +kernel
theorem dX4_tell_33 : decode cX4_tell 33 = .ok (.ifCond .lt 9, 3) := by decide +kernel
theorem dX4_tell_36 : decode cX4_tell 36 = .ok (.iload 5, 2) := by decide +kernel
theorem dX4_tell_38 : decode cX4_tell 38 = .ok (.iconst 4, 1) := by decide +kernel
theorem dX4_tell_39 : decode cX4_tell 39 = .ok (.if_icmp .le 13, 3) := by decide +kernel
theorem dX4_tell_42 : decode cX4_tell 42 = .ok (.new 61, 3) := by decide +kernel
theorem dX4_tell_45 : decode cX4_tell 45 = .ok (.dup, 1) := by decide +kernel
theorem dX4_tell_46 : decode cX4_tell 46 = .ok (.ldc 86, 2) := by decide +kernel
theorem dX4_tell_48 : decode cX4_tell 48 = .ok (.invokespecial 65, 3) := by decide +kernel
theorem dX4_tell_51 : decode cX4_tell 51 = .ok (.athrow, 1) := by decide +kernel
theorem dX4_tell_52 : decode cX4_tell 52 = .ok (.aload_n 0, 1) := by decide +kernel
theorem dX4_tell_53 : decode cX4_tell 53 = .ok (.getfield 25, 3) := by decide +kernel
theorem dX4_tell_56 : decode cX4_tell 56 = .ok (.invokevirtual 88, 3) := by decide +kernel
theorem dX4_tell_59 : decode cX4_tell 59 = .ok (.ifCond .eq 13, 3) := by decide +kernel
theorem dX4_tell_62 : decode cX4_tell 62 = .ok (.new 46, 3) := by decide +kernel
theorem dX4_tell_65 : decode cX4_tell 65 = .ok (.dup, 1) := by decide +kernel
theorem dX4_tell_66 : decode cX4_tell 66 = .ok (.ldc 92, 2) := by decide +kernel
theorem dX4_tell_68 : decode cX4_tell 68 = .ok (.invokespecial 50, 3) := by decide +kernel
theorem dX4_tell_71 : decode cX4_tell 71 = .ok (.athrow, 1) := by decide +kernel
theorem dX4_tell_72 : decode cX4_tell 72 = .ok (.new 94, 3) := by decide +kernel
theorem dX4_tell_75 : decode cX4_tell 75 = .ok (.dup, 1) := by decide +kernel
theorem dX4_tell_76 : decode cX4_tell 76 = .ok (.iload_n 1, 1) := by decide +kernel
theorem dX4_tell_77 : decode cX4_tell 77 = .ok (.iload_n 2, 1) := by decide +kernel
theorem dX4_tell_78 : decode cX4_tell 78 = .ok (.iload_n 3, 1) := by decide +kernel
theorem dX4_tell_79 : decode cX4_tell 79 = .ok (.invokestatic 96, 3) := by decide +kernel
theorem dX4_tell_82 : decode cX4_tell 82 = .ok (.aload_n 0, 1) := by decide +kernel
theorem dX4_tell_83 : decode cX4_tell 83 = .ok (.getfield 73, 3) := by decide +kernel
theorem dX4_tell_86 : decode cX4_tell 86 = .ok (.iload 4, 2) := by decide +kernel
theorem dX4_tell_88 : decode cX4_tell 88 = .ok (.getstatic 100, 3) := by decide +kernel
theorem dX4_tell_91 : decode cX4_tell 91 = .ok (.iload 5, 2) := by decide +kernel
theorem dX4_tell_93 : decode cX4_tell 93 = .ok (.iaload, 1) := by decide +kernel
theorem dX4_tell_94 : decode cX4_tell 94 = .ok (.invokespecial 103, 3) := by decide +kernel
theorem dX4_tell_97 : decode cX4_tell 97 = .ok (.astore 6, 2) := by decide +kernel
theorem dX4_tell_99 : decode cX4_tell 99 = .ok (.aload_n 0, 1) := by decide +kernel
theorem dX4_tell_100 : decode cX4_tell 100 = .ok (.getfield 25, 3) := by decide +kernel
theorem dX4_tell_103 : decode cX4_tell 103 = .ok (.aload 6, 2) := by decide +kernel
theorem dX4_tell_105 : decode cX4_tell 105 = .ok (.invokevirtual 106, 3) := by decide +kernel
theorem dX4_tell_108 : decode cX4_tell 108 = .ok (.aload_n 0, 1) := by decide +kernel
theorem dX4_tell_109 : decode cX4_tell 109 = .ok (.getfield 32, 3) := by decide +kernel
theorem dX4_tell_112 : decode cX4_tell 112 = .ok (.aload 6, 2) := by decide +kernel
theorem dX4_tell_114 : decode cX4_tell 114 = .ok (.invokevirtual 110, 3) := by decide +kernel
theorem dX4_tell_117 : decode cX4_tell 117 = .ok (.aload_n 0, 1) := by decide +kernel
theorem dX4_tell_118 : decode cX4_tell 118 = .ok (.getfield 25, 3) := by decide +kernel
theorem dX4_tell_121 : decode cX4_tell 121 = .ok (.getfield 111, 3) := by decide +kernel
theorem dX4_tell_124 : decode cX4_tell 124 = .ok (.ireturn, 1) := by decide +kernel
set_option maxRecDepth 20000 in
theorem ggX4_disagreements_X4_checkFiling : GoodIn wsX4_disagreements wsX4_checkFiling := goodIn_ca (goodIn_r _ [9, 10, 11, 12, 34, 35, 36, 37, 38, 39, 40, 41, 42, 43, 44] (by decide +kernel) (by decide +kernel)) (goodIn_sub (fun _ h => List.mem_cons_of_mem _ (List.mem_append_right _ h)) (by decide +kernel))
set_option maxRecDepth 20000 in
theorem gX4_disagreements_X4_checkFiling : GoodIn wsX4_disagreements (wsV RX4 114 RX4 yX4_checkFiling wsX4_checkFiling) := goodIn_app (goodIn_of _ (by decide +kernel)) ggX4_disagreements_X4_checkFiling
set_option maxRecDepth 20000 in
theorem ggX4_disagreements_X3_countAgainst : GoodIn wsX4_disagreements wsX3_countAgainst := goodIn_r _ [17, 18, 19, 20, 21, 22, 23, 24, 25, 26, 27, 28, 8, 29, 30, 31, 32, 33, 45, 46, 47, 48, 49, 50, 51] (by decide +kernel) (by decide +kernel)
set_option maxRecDepth 20000 in
theorem gX4_disagreements_X3_countAgainst : GoodIn wsX4_disagreements (wsV RX4 124 RX3 yX3_countAgainst wsX3_countAgainst) := goodIn_app (goodIn_of _ (by decide +kernel)) ggX4_disagreements_X3_countAgainst
theorem dX4_disagreements_0 : decode cX4_disagreements 0 = .ok (.aload_n 0, 1) := by decide +kernel
theorem dX4_disagreements_1 : decode cX4_disagreements 1 = .ok (.iload_n 1, 1) := by decide +kernel
theorem dX4_disagreements_2 : decode cX4_disagreements 2 = .ok (.invokevirtual 114, 3) := by decide +kernel
theorem dX4_disagreements_5 : decode cX4_disagreements 5 = .ok (.iconst 0, 1) := by decide +kernel
theorem dX4_disagreements_6 : decode cX4_disagreements 6 = .ok (.istore_n 2, 1) := by decide +kernel
theorem dX4_disagreements_7 : decode cX4_disagreements 7 = .ok (.iconst 0, 1) := by decide +kernel
theorem dX4_disagreements_8 : decode cX4_disagreements 8 = .ok (.istore_n 3, 1) := by decide +kernel
theorem dX4_disagreements_9 : decode cX4_disagreements 9 = .ok (.iload_n 3, 1) := by decide +kernel
theorem dX4_disagreements_10 : decode cX4_disagreements 10 = .ok (.aload_n 0, 1) := by decide +kernel
theorem dX4_disagreements_11 : decode cX4_disagreements 11 = .ok (.getfield 25, 3) := by decide +kernel
theorem dX4_disagreements_14 : decode cX4_disagreements 14 = .ok (.getfield 111, 3) := by decide +kernel
theorem dX4_disagreements_17 : decode cX4_disagreements 17 = .ok (.if_icmp .ge 47, 3) := by decide +kernel
theorem dX4_disagreements_20 : decode cX4_disagreements 20 = .ok (.aload_n 0, 1) := by decide +kernel
theorem dX4_disagreements_21 : decode cX4_disagreements 21 = .ok (.getfield 25, 3) := by decide +kernel
theorem dX4_disagreements_24 : decode cX4_disagreements 24 = .ok (.getfield 117, 3) := by decide +kernel
theorem dX4_disagreements_27 : decode cX4_disagreements 27 = .ok (.iload_n 3, 1) := by decide +kernel
theorem dX4_disagreements_28 : decode cX4_disagreements 28 = .ok (.aaload, 1) := by decide +kernel
theorem dX4_disagreements_29 : decode cX4_disagreements 29 = .ok (.astore 4, 2) := by decide +kernel
theorem dX4_disagreements_31 : decode cX4_disagreements 31 = .ok (.aload 4, 2) := by decide +kernel
theorem dX4_disagreements_33 : decode cX4_disagreements 33 = .ok (.ifnull 25, 3) := by decide +kernel
theorem dX4_disagreements_36 : decode cX4_disagreements 36 = .ok (.aload 4, 2) := by decide +kernel
theorem dX4_disagreements_38 : decode cX4_disagreements 38 = .ok (.getfield 121, 3) := by decide +kernel
theorem dX4_disagreements_41 : decode cX4_disagreements 41 = .ok (.iload_n 1, 1) := by decide +kernel
theorem dX4_disagreements_42 : decode cX4_disagreements 42 = .ok (.if_icmp .ne 16, 3) := by decide +kernel
theorem dX4_disagreements_45 : decode cX4_disagreements 45 = .ok (.iload_n 2, 1) := by decide +kernel
theorem dX4_disagreements_46 : decode cX4_disagreements 46 = .ok (.aload_n 0, 1) := by decide +kernel
theorem dX4_disagreements_47 : decode cX4_disagreements 47 = .ok (.getfield 25, 3) := by decide +kernel
theorem dX4_disagreements_50 : decode cX4_disagreements 50 = .ok (.aload 4, 2) := by decide +kernel
theorem dX4_disagreements_52 : decode cX4_disagreements 52 = .ok (.iload_n 3, 1) := by decide +kernel
theorem dX4_disagreements_53 : decode cX4_disagreements 53 = .ok (.invokevirtual 124, 3) := by decide +kernel
theorem dX4_disagreements_56 : decode cX4_disagreements 56 = .ok (.iadd, 1) := by decide +kernel
theorem dX4_disagreements_57 : decode cX4_disagreements 57 = .ok (.istore_n 2, 1) := by decide +kernel
theorem dX4_disagreements_58 : decode cX4_disagreements 58 = .ok (.iinc 3 1, 3) := by decide +kernel
theorem dX4_disagreements_61 : decode cX4_disagreements 61 = .ok (.goto (-52), 3) := by decide +kernel
theorem dX4_disagreements_64 : decode cX4_disagreements 64 = .ok (.iload_n 2, 1) := by decide +kernel
theorem dX4_disagreements_65 : decode cX4_disagreements 65 = .ok (.ireturn, 1) := by decide +kernel
set_option maxRecDepth 20000 in
theorem ggX4_restated_X4_checkFiling : GoodIn wsX4_restated wsX4_checkFiling := goodIn_ca (goodIn_r _ [6, 7, 8, 9, 25, 26, 27, 28, 29, 30, 31, 32, 33, 34, 35] (by decide +kernel) (by decide +kernel)) (goodIn_sub (fun _ h => List.mem_cons_of_mem _ (List.mem_append_right _ h)) (by decide +kernel))
set_option maxRecDepth 20000 in
theorem gX4_restated_X4_checkFiling : GoodIn wsX4_restated (wsV RX4 114 RX4 yX4_checkFiling wsX4_checkFiling) := goodIn_app (goodIn_of _ (by decide +kernel)) ggX4_restated_X4_checkFiling
set_option maxRecDepth 20000 in
theorem ggX4_restated_X4_isRestated : GoodIn wsX4_restated wsX4_isRestated := goodIn_r _ [13, 14, 15, 16, 17, 18, 19, 20, 21, 22, 23, 24, 25, 26, 27, 28, 29, 30, 31, 32, 33, 34, 35, 36, 37, 38, 39, 40, 41] (by decide +kernel) (by decide +kernel)
set_option maxRecDepth 20000 in
theorem gX4_restated_X4_isRestated : GoodIn wsX4_restated (wsV RX4 128 RX4 yX4_isRestated wsX4_isRestated) := goodIn_app (goodIn_of _ (by decide +kernel)) ggX4_restated_X4_isRestated
theorem dX4_restated_0 : decode cX4_restated 0 = .ok (.aload_n 0, 1) := by decide +kernel
theorem dX4_restated_1 : decode cX4_restated 1 = .ok (.iload_n 1, 1) := by decide +kernel
theorem dX4_restated_2 : decode cX4_restated 2 = .ok (.invokevirtual 114, 3) := by decide +kernel
theorem dX4_restated_5 : decode cX4_restated 5 = .ok (.iconst 0, 1) := by decide +kernel
theorem dX4_restated_6 : decode cX4_restated 6 = .ok (.istore_n 2, 1) := by decide +kernel
theorem dX4_restated_7 : decode cX4_restated 7 = .ok (.iconst 0, 1) := by decide +kernel
theorem dX4_restated_8 : decode cX4_restated 8 = .ok (.istore_n 3, 1) := by decide +kernel
theorem dX4_restated_9 : decode cX4_restated 9 = .ok (.iload_n 3, 1) := by decide +kernel
theorem dX4_restated_10 : decode cX4_restated 10 = .ok (.aload_n 0, 1) := by decide +kernel
theorem dX4_restated_11 : decode cX4_restated 11 = .ok (.getfield 42, 3) := by decide +kernel
theorem dX4_restated_14 : decode cX4_restated 14 = .ok (.bipush 40, 2) := by decide +kernel
theorem dX4_restated_16 : decode cX4_restated 16 = .ok (.imul, 1) := by decide +kernel
theorem dX4_restated_17 : decode cX4_restated 17 = .ok (.if_icmp .ge 21, 3) := by decide +kernel
theorem dX4_restated_20 : decode cX4_restated 20 = .ok (.aload_n 0, 1) := by decide +kernel
theorem dX4_restated_21 : decode cX4_restated 21 = .ok (.iload_n 3, 1) := by decide +kernel
theorem dX4_restated_22 : decode cX4_restated 22 = .ok (.iload_n 1, 1) := by decide +kernel
theorem dX4_restated_23 : decode cX4_restated 23 = .ok (.invokevirtual 128, 3) := by decide +kernel
theorem dX4_restated_26 : decode cX4_restated 26 = .ok (.ifCond .eq 6, 3) := by decide +kernel
theorem dX4_restated_29 : decode cX4_restated 29 = .ok (.iinc 2 1, 3) := by decide +kernel
theorem dX4_restated_32 : decode cX4_restated 32 = .ok (.iinc 3 1, 3) := by decide +kernel
theorem dX4_restated_35 : decode cX4_restated 35 = .ok (.goto (-26), 3) := by decide +kernel
theorem dX4_restated_38 : decode cX4_restated 38 = .ok (.iload_n 2, 1) := by decide +kernel
theorem dX4_restated_39 : decode cX4_restated 39 = .ok (.ireturn, 1) := by decide +kernel
set_option maxRecDepth 20000 in
theorem ggX4_value_X4_heldFact : GoodIn wsX4_value wsX4_heldFact := goodIn_ca (goodIn_ca (goodIn_r _ [6, 7, 8, 9, 10, 11, 12, 5, 13, 14, 15, 16, 17, 18, 19, 20, 21, 22, 23, 24, 25, 26, 27, 28, 29, 30, 31, 32, 33, 34, 35, 36, 37, 38, 39, 45, 46, 47, 48, 49, 50, 51, 52, 53, 54, 55, 56, 40, 41, 42, 43, 44] (by decide +kernel) (by decide +kernel)) (goodIn_sub (fun _ h => List.mem_cons_of_mem _ (List.mem_append_left _ (List.mem_append_right _ h))) (by decide +kernel))) (goodIn_sub (fun _ h => List.mem_cons_of_mem _ (List.mem_append_right _ h)) (by decide +kernel))
set_option maxRecDepth 20000 in
theorem gX4_value_X4_heldFact : GoodIn wsX4_value (wsV RX4 131 RX4 yX4_heldFact wsX4_heldFact) := goodIn_app (goodIn_of _ (by decide +kernel)) ggX4_value_X4_heldFact
theorem dX4_value_0 : decode cX4_value 0 = .ok (.aload_n 0, 1) := by decide +kernel
theorem dX4_value_1 : decode cX4_value 1 = .ok (.iload_n 1, 1) := by decide +kernel
theorem dX4_value_2 : decode cX4_value 2 = .ok (.iload_n 2, 1) := by decide +kernel
theorem dX4_value_3 : decode cX4_value 3 = .ok (.iload_n 3, 1) := by decide +kernel
theorem dX4_value_4 : decode cX4_value 4 = .ok (.iload 4, 2) := by decide +kernel
theorem dX4_value_6 : decode cX4_value 6 = .ok (.invokevirtual 131, 3) := by decide +kernel
theorem dX4_value_9 : decode cX4_value 9 = .ok (.getfield 135, 3) := by decide +kernel
theorem dX4_value_12 : decode cX4_value 12 = .ok (.ireturn, 1) := by decide +kernel
set_option maxRecDepth 20000 in
theorem ggX4_doubt_X4_heldFact : GoodIn wsX4_doubt wsX4_heldFact := goodIn_ca (goodIn_ca (goodIn_r _ [6, 7, 8, 9, 10, 11, 12, 5, 13, 14, 15, 16, 17, 18, 19, 20, 21, 22, 23, 24, 25, 26, 27, 28, 29, 30, 31, 32, 33, 34, 35, 36, 37, 38, 39, 45, 46, 47, 48, 49, 50, 51, 52, 53, 54, 55, 56, 40, 41, 42, 43, 44] (by decide +kernel) (by decide +kernel)) (goodIn_sub (fun _ h => List.mem_cons_of_mem _ (List.mem_append_left _ (List.mem_append_right _ h))) (by decide +kernel))) (goodIn_sub (fun _ h => List.mem_cons_of_mem _ (List.mem_append_right _ h)) (by decide +kernel))
set_option maxRecDepth 20000 in
theorem gX4_doubt_X4_heldFact : GoodIn wsX4_doubt (wsV RX4 131 RX4 yX4_heldFact wsX4_heldFact) := goodIn_app (goodIn_of _ (by decide +kernel)) ggX4_doubt_X4_heldFact
theorem dX4_doubt_0 : decode cX4_doubt 0 = .ok (.aload_n 0, 1) := by decide +kernel
theorem dX4_doubt_1 : decode cX4_doubt 1 = .ok (.iload_n 1, 1) := by decide +kernel
theorem dX4_doubt_2 : decode cX4_doubt 2 = .ok (.iload_n 2, 1) := by decide +kernel
theorem dX4_doubt_3 : decode cX4_doubt 3 = .ok (.iload_n 3, 1) := by decide +kernel
theorem dX4_doubt_4 : decode cX4_doubt 4 = .ok (.iload 4, 2) := by decide +kernel
theorem dX4_doubt_6 : decode cX4_doubt 6 = .ok (.invokevirtual 131, 3) := by decide +kernel
theorem dX4_doubt_9 : decode cX4_doubt 9 = .ok (.getfield 138, 3) := by decide +kernel
theorem dX4_doubt_12 : decode cX4_doubt 12 = .ok (.ireturn, 1) := by decide +kernel
set_option maxRecDepth 20000 in
theorem ggX4_sum_X4_checkKey : GoodIn wsX4_sum wsX4_checkKey := goodIn_ca (goodIn_r _ [9, 10, 11, 12, 8, 13, 14, 15, 1, 16, 17, 18, 56, 57, 58, 59, 60, 61, 62, 63, 64, 65, 66] (by decide +kernel) (by decide +kernel)) (goodIn_sub (fun _ h => List.mem_cons_of_mem _ (List.mem_append_right _ h)) (by decide +kernel))
set_option maxRecDepth 20000 in
theorem gX4_sum_X4_checkKey : GoodIn wsX4_sum (wsV RX4 78 RX4 yX4_checkKey wsX4_checkKey) := goodIn_app (goodIn_of _ (by decide +kernel)) ggX4_sum_X4_checkKey
set_option maxRecDepth 20000 in
theorem ggX4_sum_X4_checkFiling : GoodIn wsX4_sum wsX4_checkFiling := goodIn_ca (goodIn_r _ [22, 14, 15, 23, 56, 57, 58, 59, 60, 61, 62, 63, 64, 65, 66] (by decide +kernel) (by decide +kernel)) (goodIn_sub (fun _ h => List.mem_cons_of_mem _ (List.mem_append_right _ h)) (by decide +kernel))
set_option maxRecDepth 20000 in
theorem gX4_sum_X4_checkFiling : GoodIn wsX4_sum (wsV RX4 114 RX4 yX4_checkFiling wsX4_checkFiling) := goodIn_app (goodIn_of _ (by decide +kernel)) ggX4_sum_X4_checkFiling
set_option maxRecDepth 20000 in
theorem ggX4_sum_X4_keyOf : GoodIn wsX4_sum wsX4_keyOf := goodIn_r _ [26] (by decide +kernel) (by decide +kernel)
set_option maxRecDepth 20000 in
theorem gX4_sum_X4_keyOf : GoodIn wsX4_sum (va_wsS RX4 96 yX4_keyOf wsX4_keyOf) := goodIn_app (goodIn_of _ (by decide +kernel)) ggX4_sum_X4_keyOf
set_option maxRecDepth 20000 in
theorem ggX4_sum_X4_partHolding : GoodIn wsX4_sum wsX4_partHolding := goodIn_r _ [30, 31, 32, 33, 34, 35, 36, 37, 38, 39, 40, 41, 42, 43, 44, 45, 46, 47, 48, 49, 50, 51, 52, 53, 54, 55, 56, 57, 58, 59, 60, 61, 62, 63, 64, 65, 66, 72, 67, 68, 69, 70, 71, 73, 74] (by decide +kernel) (by decide +kernel)
set_option maxRecDepth 20000 in
theorem gX4_sum_X4_partHolding : GoodIn wsX4_sum (wsV RX4 141 RX4 yX4_partHolding wsX4_partHolding) := goodIn_app (goodIn_of _ (by decide +kernel)) ggX4_sum_X4_partHolding
theorem dX4_sum_0 : decode cX4_sum 0 = .ok (.aload_n 0, 1) := by decide +kernel
theorem dX4_sum_1 : decode cX4_sum 1 = .ok (.iload_n 1, 1) := by decide +kernel
theorem dX4_sum_2 : decode cX4_sum 2 = .ok (.iload_n 2, 1) := by decide +kernel
theorem dX4_sum_3 : decode cX4_sum 3 = .ok (.iload_n 3, 1) := by decide +kernel
theorem dX4_sum_4 : decode cX4_sum 4 = .ok (.invokevirtual 78, 3) := by decide +kernel
theorem dX4_sum_7 : decode cX4_sum 7 = .ok (.aload_n 0, 1) := by decide +kernel
theorem dX4_sum_8 : decode cX4_sum 8 = .ok (.iload 4, 2) := by decide +kernel
theorem dX4_sum_10 : decode cX4_sum 10 = .ok (.invokevirtual 114, 3) := by decide +kernel
theorem dX4_sum_13 : decode cX4_sum 13 = .ok (.iconst 0, 1) := by decide +kernel
theorem dX4_sum_14 : decode cX4_sum 14 = .ok (.istore 5, 2) := by decide +kernel
theorem dX4_sum_16 : decode cX4_sum 16 = .ok (.iconst 0, 1) := by decide +kernel
theorem dX4_sum_17 : decode cX4_sum 17 = .ok (.istore 6, 2) := by decide +kernel
theorem dX4_sum_19 : decode cX4_sum 19 = .ok (.iload 6, 2) := by decide +kernel
theorem dX4_sum_21 : decode cX4_sum 21 = .ok (.aload_n 0, 1) := by decide +kernel
theorem dX4_sum_22 : decode cX4_sum 22 = .ok (.getfield 42, 3) := by decide +kernel
theorem dX4_sum_25 : decode cX4_sum 25 = .ok (.if_icmp .ge 54, 3) := by decide +kernel
theorem dX4_sum_28 : decode cX4_sum 28 = .ok (.aload_n 0, 1) := by decide +kernel
theorem dX4_sum_29 : decode cX4_sum 29 = .ok (.aload_n 0, 1) := by decide +kernel
theorem dX4_sum_30 : decode cX4_sum 30 = .ok (.getfield 32, 3) := by decide +kernel
theorem dX4_sum_33 : decode cX4_sum 33 = .ok (.iload_n 1, 1) := by decide +kernel
theorem dX4_sum_34 : decode cX4_sum 34 = .ok (.iload 6, 2) := by decide +kernel
theorem dX4_sum_36 : decode cX4_sum 36 = .ok (.iload 6, 2) := by decide +kernel
theorem dX4_sum_38 : decode cX4_sum 38 = .ok (.iload_n 2, 1) := by decide +kernel
theorem dX4_sum_39 : decode cX4_sum 39 = .ok (.iload_n 3, 1) := by decide +kernel
theorem dX4_sum_40 : decode cX4_sum 40 = .ok (.invokestatic 96, 3) := by decide +kernel
theorem dX4_sum_43 : decode cX4_sum 43 = .ok (.iload 4, 2) := by decide +kernel
theorem dX4_sum_45 : decode cX4_sum 45 = .ok (.invokevirtual 141, 3) := by decide +kernel
theorem dX4_sum_48 : decode cX4_sum 48 = .ok (.astore 7, 2) := by decide +kernel
theorem dX4_sum_50 : decode cX4_sum 50 = .ok (.aload 7, 2) := by decide +kernel
theorem dX4_sum_52 : decode cX4_sum 52 = .ok (.ifnull 21, 3) := by decide +kernel
theorem dX4_sum_55 : decode cX4_sum 55 = .ok (.iload 5, 2) := by decide +kernel
theorem dX4_sum_57 : decode cX4_sum 57 = .ok (.aload_n 0, 1) := by decide +kernel
theorem dX4_sum_58 : decode cX4_sum 58 = .ok (.getfield 13, 3) := by decide +kernel
theorem dX4_sum_61 : decode cX4_sum 61 = .ok (.iload 6, 2) := by decide +kernel
theorem dX4_sum_63 : decode cX4_sum 63 = .ok (.iaload, 1) := by decide +kernel
theorem dX4_sum_64 : decode cX4_sum 64 = .ok (.aload 7, 2) := by decide +kernel
theorem dX4_sum_66 : decode cX4_sum 66 = .ok (.getfield 135, 3) := by decide +kernel
theorem dX4_sum_69 : decode cX4_sum 69 = .ok (.imul, 1) := by decide +kernel
theorem dX4_sum_70 : decode cX4_sum 70 = .ok (.iadd, 1) := by decide +kernel
theorem dX4_sum_71 : decode cX4_sum 71 = .ok (.istore 5, 2) := by decide +kernel
theorem dX4_sum_73 : decode cX4_sum 73 = .ok (.iinc 6 1, 3) := by decide +kernel
theorem dX4_sum_76 : decode cX4_sum 76 = .ok (.goto (-57), 3) := by decide +kernel
theorem dX4_sum_79 : decode cX4_sum 79 = .ok (.iload 5, 2) := by decide +kernel
theorem dX4_sum_81 : decode cX4_sum 81 = .ok (.ireturn, 1) := by decide +kernel
set_option maxRecDepth 20000 in
theorem ggX4_derived_X4_checkKey : GoodIn wsX4_derived wsX4_checkKey := goodIn_ca (goodIn_r _ [11, 12, 13, 14, 10, 15, 16, 17, 18, 19, 20, 21, 44, 45, 46, 47, 48, 49, 50, 51, 52, 53, 54] (by decide +kernel) (by decide +kernel)) (goodIn_sub (fun _ h => List.mem_cons_of_mem _ (List.mem_append_right _ h)) (by decide +kernel))
set_option maxRecDepth 20000 in
theorem gX4_derived_X4_checkKey : GoodIn wsX4_derived (wsV RX4 78 RX4 yX4_checkKey wsX4_checkKey) := goodIn_app (goodIn_of _ (by decide +kernel)) ggX4_derived_X4_checkKey
set_option maxRecDepth 20000 in
theorem ggX4_derived_X4_checkFiling : GoodIn wsX4_derived wsX4_checkFiling := goodIn_ca (goodIn_r _ [25, 16, 17, 26, 44, 45, 46, 47, 48, 49, 50, 51, 52, 53, 54] (by decide +kernel) (by decide +kernel)) (goodIn_sub (fun _ h => List.mem_cons_of_mem _ (List.mem_append_right _ h)) (by decide +kernel))
set_option maxRecDepth 20000 in
theorem gX4_derived_X4_checkFiling : GoodIn wsX4_derived (wsV RX4 114 RX4 yX4_checkFiling wsX4_checkFiling) := goodIn_app (goodIn_of _ (by decide +kernel)) ggX4_derived_X4_checkFiling
set_option maxRecDepth 20000 in
theorem ggX4_derived_X4_keyOf : GoodIn wsX4_derived wsX4_keyOf := goodIn_r _ [29] (by decide +kernel) (by decide +kernel)
set_option maxRecDepth 20000 in
theorem gX4_derived_X4_keyOf : GoodIn wsX4_derived (va_wsS RX4 96 yX4_keyOf wsX4_keyOf) := goodIn_app (goodIn_of _ (by decide +kernel)) ggX4_derived_X4_keyOf
set_option maxRecDepth 20000 in
theorem ggX4_derived_X2_holding : GoodIn wsX4_derived wsX2_holding := goodIn_r _ [34, 35, 36, 37, 60, 55, 56, 57, 58, 59] (by decide +kernel) (by decide +kernel)
set_option maxRecDepth 20000 in
theorem gX4_derived_X2_holding : GoodIn wsX4_derived (wsV RX4 145 RX2 yX2_holding wsX2_holding) := goodIn_app (goodIn_of _ (by decide +kernel)) ggX4_derived_X2_holding
set_option maxRecDepth 20000 in
theorem ggX4_derived_X4_reachParts : GoodIn wsX4_derived wsX4_reachParts := goodIn_r _ [41, 18, 42, 3, 4, 43, 44, 45, 46, 47, 48, 49, 50, 51, 52, 53, 54] (by decide +kernel) (by decide +kernel)
set_option maxRecDepth 20000 in
theorem gX4_derived_X4_reachParts : GoodIn wsX4_derived (wsV RX4 149 RX4 yX4_reachParts wsX4_reachParts) := goodIn_app (goodIn_of _ (by decide +kernel)) ggX4_derived_X4_reachParts
theorem dX4_derived_0 : decode cX4_derived 0 = .ok (.aload_n 0, 1) := by decide +kernel
theorem dX4_derived_1 : decode cX4_derived 1 = .ok (.iload_n 1, 1) := by decide +kernel
theorem dX4_derived_2 : decode cX4_derived 2 = .ok (.iload_n 2, 1) := by decide +kernel
theorem dX4_derived_3 : decode cX4_derived 3 = .ok (.iload_n 3, 1) := by decide +kernel
theorem dX4_derived_4 : decode cX4_derived 4 = .ok (.invokevirtual 78, 3) := by decide +kernel
theorem dX4_derived_7 : decode cX4_derived 7 = .ok (.aload_n 0, 1) := by decide +kernel
theorem dX4_derived_8 : decode cX4_derived 8 = .ok (.iload 4, 2) := by decide +kernel
theorem dX4_derived_10 : decode cX4_derived 10 = .ok (.invokevirtual 114, 3) := by decide +kernel
theorem dX4_derived_13 : decode cX4_derived 13 = .ok (.aload_n 0, 1) := by decide +kernel
theorem dX4_derived_14 : decode cX4_derived 14 = .ok (.getfield 36, 3) := by decide +kernel
theorem dX4_derived_17 : decode cX4_derived 17 = .ok (.iconst 0, 1) := by decide +kernel
theorem dX4_derived_18 : decode cX4_derived 18 = .ok (.iload_n 1, 1) := by decide +kernel
theorem dX4_derived_19 : decode cX4_derived 19 = .ok (.iastore, 1) := by decide +kernel
theorem dX4_derived_20 : decode cX4_derived 20 = .ok (.aload_n 0, 1) := by decide +kernel
theorem dX4_derived_21 : decode cX4_derived 21 = .ok (.getfield 39, 3) := by decide +kernel
theorem dX4_derived_24 : decode cX4_derived 24 = .ok (.iconst 0, 1) := by decide +kernel
theorem dX4_derived_25 : decode cX4_derived 25 = .ok (.iconst 1, 1) := by decide +kernel
theorem dX4_derived_26 : decode cX4_derived 26 = .ok (.iastore, 1) := by decide +kernel
theorem dX4_derived_27 : decode cX4_derived 27 = .ok (.iconst 1, 1) := by decide +kernel
theorem dX4_derived_28 : decode cX4_derived 28 = .ok (.istore 5, 2) := by decide +kernel
theorem dX4_derived_30 : decode cX4_derived 30 = .ok (.iconst 0, 1) := by decide +kernel
theorem dX4_derived_31 : decode cX4_derived 31 = .ok (.istore 6, 2) := by decide +kernel
theorem dX4_derived_33 : decode cX4_derived 33 = .ok (.iconst 0, 1) := by decide +kernel
theorem dX4_derived_34 : decode cX4_derived 34 = .ok (.istore 7, 2) := by decide +kernel
theorem dX4_derived_36 : decode cX4_derived 36 = .ok (.iload 7, 2) := by decide +kernel
theorem dX4_derived_38 : decode cX4_derived 38 = .ok (.bipush 12, 2) := by decide +kernel
theorem dX4_derived_40 : decode cX4_derived 40 = .ok (.if_icmp .ge 96, 3) := by decide +kernel
theorem dX4_derived_43 : decode cX4_derived 43 = .ok (.iload 7, 2) := by decide +kernel
theorem dX4_derived_45 : decode cX4_derived 45 = .ok (.iload 5, 2) := by decide +kernel
theorem dX4_derived_47 : decode cX4_derived 47 = .ok (.if_icmp .ge 89, 3) := by decide +kernel
theorem dX4_derived_50 : decode cX4_derived 50 = .ok (.aload_n 0, 1) := by decide +kernel
theorem dX4_derived_51 : decode cX4_derived 51 = .ok (.getfield 32, 3) := by decide +kernel
theorem dX4_derived_54 : decode cX4_derived 54 = .ok (.aload_n 0, 1) := by decide +kernel
theorem dX4_derived_55 : decode cX4_derived 55 = .ok (.getfield 36, 3) := by decide +kernel
theorem dX4_derived_58 : decode cX4_derived 58 = .ok (.iload 7, 2) := by decide +kernel
theorem dX4_derived_60 : decode cX4_derived 60 = .ok (.iaload, 1) := by decide +kernel
theorem dX4_derived_61 : decode cX4_derived 61 = .ok (.iload_n 2, 1) := by decide +kernel
theorem dX4_derived_62 : decode cX4_derived 62 = .ok (.iload_n 3, 1) := by decide +kernel
theorem dX4_derived_63 : decode cX4_derived 63 = .ok (.invokestatic 96, 3) := by decide +kernel
theorem dX4_derived_66 : decode cX4_derived 66 = .ok (.iload 4, 2) := by decide +kernel
theorem dX4_derived_68 : decode cX4_derived 68 = .ok (.invokevirtual 145, 3) := by decide +kernel
theorem dX4_derived_71 : decode cX4_derived 71 = .ok (.astore 8, 2) := by decide +kernel
theorem dX4_derived_73 : decode cX4_derived 73 = .ok (.aload 8, 2) := by decide +kernel
theorem dX4_derived_75 : decode cX4_derived 75 = .ok (.ifnull 24, 3) := by decide +kernel
theorem dX4_derived_78 : decode cX4_derived 78 = .ok (.iload 6, 2) := by decide +kernel
theorem dX4_derived_80 : decode cX4_derived 80 = .ok (.aload_n 0, 1) := by decide +kernel
theorem dX4_derived_81 : decode cX4_derived 81 = .ok (.getfield 39, 3) := by decide +kernel
theorem dX4_derived_84 : decode cX4_derived 84 = .ok (.iload 7, 2) := by decide +kernel
theorem dX4_derived_86 : decode cX4_derived 86 = .ok (.iaload, 1) := by decide +kernel
theorem dX4_derived_87 : decode cX4_derived 87 = .ok (.aload 8, 2) := by decide +kernel
theorem dX4_derived_89 : decode cX4_derived 89 = .ok (.getfield 135, 3) := by decide +kernel
theorem dX4_derived_92 : decode cX4_derived 92 = .ok (.imul, 1) := by decide +kernel
theorem dX4_derived_93 : decode cX4_derived 93 = .ok (.iadd, 1) := by decide +kernel
theorem dX4_derived_94 : decode cX4_derived 94 = .ok (.istore 6, 2) := by decide +kernel
theorem dX4_derived_96 : decode cX4_derived 96 = .ok (.goto 34, 3) := by decide +kernel
theorem dX4_derived_99 : decode cX4_derived 99 = .ok (.aload_n 0, 1) := by decide +kernel
theorem dX4_derived_100 : decode cX4_derived 100 = .ok (.iload 7, 2) := by decide +kernel
theorem dX4_derived_102 : decode cX4_derived 102 = .ok (.iload 5, 2) := by decide +kernel
theorem dX4_derived_104 : decode cX4_derived 104 = .ok (.invokevirtual 149, 3) := by decide +kernel
theorem dX4_derived_107 : decode cX4_derived 107 = .ok (.istore 9, 2) := by decide +kernel
theorem dX4_derived_109 : decode cX4_derived 109 = .ok (.iload 9, 2) := by decide +kernel
theorem dX4_derived_111 : decode cX4_derived 111 = .ok (.iload 5, 2) := by decide +kernel
theorem dX4_derived_113 : decode cX4_derived 113 = .ok (.if_icmp .ne 13, 3) := by decide +kernel
theorem dX4_derived_116 : decode cX4_derived 116 = .ok (.new 153, 3) := by decide +kernel
theorem dX4_derived_119 : decode cX4_derived 119 = .ok (.dup, 1) := by decide +kernel
theorem dX4_derived_120 : decode cX4_derived 120 = .ok (.ldc 155, 2) := by decide +kernel
theorem dX4_derived_122 : decode cX4_derived 122 = .ok (.invokespecial 157, 3) := by decide +kernel
theorem dX4_derived_125 : decode cX4_derived 125 = .ok (.athrow, 1) := by decide +kernel
theorem dX4_derived_126 : decode cX4_derived 126 = .ok (.iload 9, 2) := by decide +kernel
theorem dX4_derived_128 : decode cX4_derived 128 = .ok (.istore 5, 2) := by decide +kernel
theorem dX4_derived_130 : decode cX4_derived 130 = .ok (.iinc 7 1, 3) := by decide +kernel
theorem dX4_derived_133 : decode cX4_derived 133 = .ok (.goto (-97), 3) := by decide +kernel
theorem dX4_derived_136 : decode cX4_derived 136 = .ok (.iload 6, 2) := by decide +kernel
theorem dX4_derived_138 : decode cX4_derived 138 = .ok (.ireturn, 1) := by decide +kernel
set_option maxRecDepth 20000 in
theorem ggX4_isSumOff_X4_checkKey : GoodIn wsX4_isSumOff wsX4_checkKey := goodIn_ca (goodIn_r _ [6, 7, 8, 9, 5, 10, 11, 12, 13, 14, 15, 16, 68, 69, 70, 71, 72, 73, 74, 75, 76, 77, 78] (by decide +kernel) (by decide +kernel)) (goodIn_sub (fun _ h => List.mem_cons_of_mem _ (List.mem_append_right _ h)) (by decide +kernel))
set_option maxRecDepth 20000 in
theorem gX4_isSumOff_X4_checkKey : GoodIn wsX4_isSumOff (wsV RX4 78 RX4 yX4_checkKey wsX4_checkKey) := goodIn_app (goodIn_of _ (by decide +kernel)) ggX4_isSumOff_X4_checkKey
set_option maxRecDepth 20000 in
theorem ggX4_isSumOff_X4_checkFiling : GoodIn wsX4_isSumOff wsX4_checkFiling := goodIn_ca (goodIn_r _ [20, 11, 12, 21, 68, 69, 70, 71, 72, 73, 74, 75, 76, 77, 78] (by decide +kernel) (by decide +kernel)) (goodIn_sub (fun _ h => List.mem_cons_of_mem _ (List.mem_append_right _ h)) (by decide +kernel))
set_option maxRecDepth 20000 in
theorem gX4_isSumOff_X4_checkFiling : GoodIn wsX4_isSumOff (wsV RX4 114 RX4 yX4_checkFiling wsX4_checkFiling) := goodIn_app (goodIn_of _ (by decide +kernel)) ggX4_isSumOff_X4_checkFiling
set_option maxRecDepth 20000 in
theorem ggX4_isSumOff_X4_sumFails : GoodIn wsX4_isSumOff wsX4_sumFails := goodIn_r _ [25, 26, 13, 27, 28, 29, 30, 5, 31, 32, 33, 34, 35, 36, 37, 38, 39, 40, 41, 42, 43, 44, 45, 46, 47, 48, 49, 50, 51, 52, 53, 54, 55, 56, 57, 58, 59, 60, 61, 62, 63, 64, 65, 66, 67, 79, 80, 81, 82, 83, 68, 69, 70, 71, 72, 73, 74, 75, 76, 77, 78, 84, 85, 86] (by decide +kernel) (by decide +kernel)
set_option maxRecDepth 20000 in
theorem gX4_isSumOff_X4_sumFails : GoodIn wsX4_isSumOff (wsV RX4 158 RX4 yX4_sumFails wsX4_sumFails) := goodIn_app (goodIn_of _ (by decide +kernel)) ggX4_isSumOff_X4_sumFails
theorem dX4_isSumOff_0 : decode cX4_isSumOff 0 = .ok (.aload_n 0, 1) := by decide +kernel
theorem dX4_isSumOff_1 : decode cX4_isSumOff 1 = .ok (.iload_n 1, 1) := by decide +kernel
theorem dX4_isSumOff_2 : decode cX4_isSumOff 2 = .ok (.iload_n 2, 1) := by decide +kernel
theorem dX4_isSumOff_3 : decode cX4_isSumOff 3 = .ok (.iload_n 3, 1) := by decide +kernel
theorem dX4_isSumOff_4 : decode cX4_isSumOff 4 = .ok (.invokevirtual 78, 3) := by decide +kernel
theorem dX4_isSumOff_7 : decode cX4_isSumOff 7 = .ok (.aload_n 0, 1) := by decide +kernel
theorem dX4_isSumOff_8 : decode cX4_isSumOff 8 = .ok (.iload 4, 2) := by decide +kernel
theorem dX4_isSumOff_10 : decode cX4_isSumOff 10 = .ok (.invokevirtual 114, 3) := by decide +kernel
theorem dX4_isSumOff_13 : decode cX4_isSumOff 13 = .ok (.aload_n 0, 1) := by decide +kernel
theorem dX4_isSumOff_14 : decode cX4_isSumOff 14 = .ok (.aload_n 0, 1) := by decide +kernel
theorem dX4_isSumOff_15 : decode cX4_isSumOff 15 = .ok (.getfield 32, 3) := by decide +kernel
theorem dX4_isSumOff_18 : decode cX4_isSumOff 18 = .ok (.iload_n 1, 1) := by decide +kernel
theorem dX4_isSumOff_19 : decode cX4_isSumOff 19 = .ok (.iload_n 2, 1) := by decide +kernel
theorem dX4_isSumOff_20 : decode cX4_isSumOff 20 = .ok (.iload_n 3, 1) := by decide +kernel
theorem dX4_isSumOff_21 : decode cX4_isSumOff 21 = .ok (.iload 4, 2) := by decide +kernel
theorem dX4_isSumOff_23 : decode cX4_isSumOff 23 = .ok (.invokevirtual 158, 3) := by decide +kernel
theorem dX4_isSumOff_26 : decode cX4_isSumOff 26 = .ok (.ireturn, 1) := by decide +kernel
set_option maxRecDepth 20000 in
theorem ggX4_areMembersOff_X4_checkKey : GoodIn wsX4_areMembersOff wsX4_checkKey := goodIn_ca (goodIn_r _ [6, 7, 8, 9, 5, 10, 11, 12, 13, 14, 15, 16, 61, 62, 63, 64, 65, 66, 67, 68, 69, 70, 71] (by decide +kernel) (by decide +kernel)) (goodIn_sub (fun _ h => List.mem_cons_of_mem _ (List.mem_append_right _ h)) (by decide +kernel))
set_option maxRecDepth 20000 in
theorem gX4_areMembersOff_X4_checkKey : GoodIn wsX4_areMembersOff (wsV RX4 78 RX4 yX4_checkKey wsX4_checkKey) := goodIn_app (goodIn_of _ (by decide +kernel)) ggX4_areMembersOff_X4_checkKey
set_option maxRecDepth 20000 in
theorem ggX4_areMembersOff_X4_checkFiling : GoodIn wsX4_areMembersOff wsX4_checkFiling := goodIn_ca (goodIn_r _ [20, 11, 12, 21, 61, 62, 63, 64, 65, 66, 67, 68, 69, 70, 71] (by decide +kernel) (by decide +kernel)) (goodIn_sub (fun _ h => List.mem_cons_of_mem _ (List.mem_append_right _ h)) (by decide +kernel))
set_option maxRecDepth 20000 in
theorem gX4_areMembersOff_X4_checkFiling : GoodIn wsX4_areMembersOff (wsV RX4 114 RX4 yX4_checkFiling wsX4_checkFiling) := goodIn_app (goodIn_of _ (by decide +kernel)) ggX4_areMembersOff_X4_checkFiling
set_option maxRecDepth 20000 in
theorem ggX4_areMembersOff_X4_membersFail : GoodIn wsX4_areMembersOff wsX4_membersFail := goodIn_r _ [24, 25, 26, 27, 28, 5, 29, 30, 31, 32, 33, 34, 35, 36, 37, 38, 39, 40, 41, 42, 43, 44, 45, 46, 47, 48, 49, 50, 51, 52, 53, 54, 55, 56, 57, 58, 59, 60, 72, 73, 74, 75, 76, 77, 78, 79] (by decide +kernel) (by decide +kernel)
set_option maxRecDepth 20000 in
theorem gX4_areMembersOff_X4_membersFail : GoodIn wsX4_areMembersOff (va_wsS RX4 162 yX4_membersFail wsX4_membersFail) := goodIn_app (goodIn_of _ (by decide +kernel)) ggX4_areMembersOff_X4_membersFail
theorem dX4_areMembersOff_0 : decode cX4_areMembersOff 0 = .ok (.aload_n 0, 1) := by decide +kernel
theorem dX4_areMembersOff_1 : decode cX4_areMembersOff 1 = .ok (.iload_n 1, 1) := by decide +kernel
theorem dX4_areMembersOff_2 : decode cX4_areMembersOff 2 = .ok (.iload_n 2, 1) := by decide +kernel
theorem dX4_areMembersOff_3 : decode cX4_areMembersOff 3 = .ok (.iconst 0, 1) := by decide +kernel
theorem dX4_areMembersOff_4 : decode cX4_areMembersOff 4 = .ok (.invokevirtual 78, 3) := by decide +kernel
theorem dX4_areMembersOff_7 : decode cX4_areMembersOff 7 = .ok (.aload_n 0, 1) := by decide +kernel
theorem dX4_areMembersOff_8 : decode cX4_areMembersOff 8 = .ok (.iload_n 3, 1) := by decide +kernel
theorem dX4_areMembersOff_9 : decode cX4_areMembersOff 9 = .ok (.invokevirtual 114, 3) := by decide +kernel
theorem dX4_areMembersOff_12 : decode cX4_areMembersOff 12 = .ok (.aload_n 0, 1) := by decide +kernel
theorem dX4_areMembersOff_13 : decode cX4_areMembersOff 13 = .ok (.getfield 32, 3) := by decide +kernel
theorem dX4_areMembersOff_16 : decode cX4_areMembersOff 16 = .ok (.iload_n 1, 1) := by decide +kernel
theorem dX4_areMembersOff_17 : decode cX4_areMembersOff 17 = .ok (.iload_n 2, 1) := by decide +kernel
theorem dX4_areMembersOff_18 : decode cX4_areMembersOff 18 = .ok (.iload_n 3, 1) := by decide +kernel
theorem dX4_areMembersOff_19 : decode cX4_areMembersOff 19 = .ok (.invokestatic 162, 3) := by decide +kernel
theorem dX4_areMembersOff_22 : decode cX4_areMembersOff 22 = .ok (.ireturn, 1) := by decide +kernel
set_option maxRecDepth 20000 in
theorem ggX4_isRollOff_X4_checkPeriodAndMember : GoodIn wsX4_isRollOff wsX4_checkPeriodAndMember := goodIn_ca (goodIn_r _ [8, 1, 2] (by decide +kernel) (by decide +kernel)) (goodIn_sub (fun _ h => List.mem_cons_of_mem _ (List.mem_append_right _ h)) (by decide +kernel))
set_option maxRecDepth 20000 in
theorem gX4_isRollOff_X4_checkPeriodAndMember : GoodIn wsX4_isRollOff (va_wsS RX4 171 yX4_checkPeriodAndMember wsX4_checkPeriodAndMember) := goodIn_app (goodIn_of _ (by decide +kernel)) ggX4_isRollOff_X4_checkPeriodAndMember
set_option maxRecDepth 20000 in
theorem ggX4_isRollOff_X4_checkFiling : GoodIn wsX4_isRollOff wsX4_checkFiling := goodIn_ca (goodIn_r _ [12, 1, 2, 13, 56, 57, 58, 59, 60, 61, 62, 63, 64, 65, 66] (by decide +kernel) (by decide +kernel)) (goodIn_sub (fun _ h => List.mem_cons_of_mem _ (List.mem_append_right _ h)) (by decide +kernel))
set_option maxRecDepth 20000 in
theorem gX4_isRollOff_X4_checkFiling : GoodIn wsX4_isRollOff (wsV RX4 114 RX4 yX4_checkFiling wsX4_checkFiling) := goodIn_app (goodIn_of _ (by decide +kernel)) ggX4_isRollOff_X4_checkFiling
set_option maxRecDepth 20000 in
theorem ggX4_isRollOff_X4_rollFails : GoodIn wsX4_isRollOff wsX4_rollFails := goodIn_r _ [17, 18, 19, 20, 21, 22, 23, 7, 24, 25, 26, 27, 28, 29, 30, 31, 32, 33, 34, 35, 36, 37, 38, 39, 40, 41, 42, 43, 44, 45, 46, 47, 48, 49, 50, 51, 52, 53, 54, 55, 56, 57, 58, 59, 60, 61, 62, 63, 64, 65, 66, 67, 68, 69, 70, 71, 72, 73, 74] (by decide +kernel) (by decide +kernel)
set_option maxRecDepth 20000 in
theorem gX4_isRollOff_X4_rollFails : GoodIn wsX4_isRollOff (wsV RX4 175 RX4 yX4_rollFails wsX4_rollFails) := goodIn_app (goodIn_of _ (by decide +kernel)) ggX4_isRollOff_X4_rollFails
theorem dX4_isRollOff_0 : decode cX4_isRollOff 0 = .ok (.iload_n 1, 1) := by decide +kernel
theorem dX4_isRollOff_1 : decode cX4_isRollOff 1 = .ok (.ifCond .lt 11, 3) := by decide +kernel
theorem dX4_isRollOff_4 : decode cX4_isRollOff 4 = .ok (.iload_n 1, 1) := by decide +kernel
theorem dX4_isRollOff_5 : decode cX4_isRollOff 5 = .ok (.aload_n 0, 1) := by decide +kernel
theorem dX4_isRollOff_6 : decode cX4_isRollOff 6 = .ok (.getfield 68, 3) := by decide +kernel
theorem dX4_isRollOff_9 : decode cX4_isRollOff 9 = .ok (.if_icmp .lt 13, 3) := by decide +kernel
theorem dX4_isRollOff_12 : decode cX4_isRollOff 12 = .ok (.new 166, 3) := by decide +kernel
theorem dX4_isRollOff_15 : decode cX4_isRollOff 15 = .ok (.dup, 1) := by decide +kernel
theorem dX4_isRollOff_16 : decode cX4_isRollOff 16 = .ok (.ldc 168, 2) := by decide +kernel
theorem dX4_isRollOff_18 : decode cX4_isRollOff 18 = .ok (.invokespecial 170, 3) := by decide +kernel
theorem dX4_isRollOff_21 : decode cX4_isRollOff 21 = .ok (.athrow, 1) := by decide +kernel
theorem dX4_isRollOff_22 : decode cX4_isRollOff 22 = .ok (.iload_n 2, 1) := by decide +kernel
theorem dX4_isRollOff_23 : decode cX4_isRollOff 23 = .ok (.iload_n 3, 1) := by decide +kernel
theorem dX4_isRollOff_24 : decode cX4_isRollOff 24 = .ok (.invokestatic 171, 3) := by decide +kernel
theorem dX4_isRollOff_27 : decode cX4_isRollOff 27 = .ok (.aload_n 0, 1) := by decide +kernel
theorem dX4_isRollOff_28 : decode cX4_isRollOff 28 = .ok (.iload 4, 2) := by decide +kernel
theorem dX4_isRollOff_30 : decode cX4_isRollOff 30 = .ok (.invokevirtual 114, 3) := by decide +kernel
theorem dX4_isRollOff_33 : decode cX4_isRollOff 33 = .ok (.aload_n 0, 1) := by decide +kernel
theorem dX4_isRollOff_34 : decode cX4_isRollOff 34 = .ok (.aload_n 0, 1) := by decide +kernel
theorem dX4_isRollOff_35 : decode cX4_isRollOff 35 = .ok (.getfield 32, 3) := by decide +kernel
theorem dX4_isRollOff_38 : decode cX4_isRollOff 38 = .ok (.iload_n 1, 1) := by decide +kernel
theorem dX4_isRollOff_39 : decode cX4_isRollOff 39 = .ok (.iload_n 2, 1) := by decide +kernel
theorem dX4_isRollOff_40 : decode cX4_isRollOff 40 = .ok (.iload_n 3, 1) := by decide +kernel
theorem dX4_isRollOff_41 : decode cX4_isRollOff 41 = .ok (.iload 4, 2) := by decide +kernel
theorem dX4_isRollOff_43 : decode cX4_isRollOff 43 = .ok (.invokevirtual 175, 3) := by decide +kernel
theorem dX4_isRollOff_46 : decode cX4_isRollOff 46 = .ok (.ireturn, 1) := by decide +kernel
set_option maxRecDepth 20000 in
theorem ggX4_faults_X4_checkFiling : GoodIn wsX4_faults wsX4_checkFiling := goodIn_ca (goodIn_r _ [7, 8, 9, 10, 73, 74, 75, 76, 77, 78, 79, 80, 81, 82, 83] (by decide +kernel) (by decide +kernel)) (goodIn_sub (fun _ h => List.mem_cons_of_mem _ (List.mem_append_right _ h)) (by decide +kernel))
set_option maxRecDepth 20000 in
theorem gX4_faults_X4_checkFiling : GoodIn wsX4_faults (wsV RX4 114 RX4 yX4_checkFiling wsX4_checkFiling) := goodIn_app (goodIn_of _ (by decide +kernel)) ggX4_faults_X4_checkFiling
set_option maxRecDepth 20000 in
theorem ggX4_faults_X2_holding : GoodIn wsX4_faults wsX2_holding := goodIn_r _ [15, 16, 17, 18, 84, 85, 86, 87, 88, 89] (by decide +kernel) (by decide +kernel)
set_option maxRecDepth 20000 in
theorem gX4_faults_X2_holding : GoodIn wsX4_faults (wsV RX4 145 RX2 yX2_holding wsX2_holding) := goodIn_app (goodIn_of _ (by decide +kernel)) ggX4_faults_X2_holding
set_option maxRecDepth 20000 in
theorem ggX4_faults_X4_faultsAt : GoodIn wsX4_faults wsX4_faultsAt := goodIn_r _ [22, 23, 24, 25, 26, 27, 6, 28, 29, 1, 30, 31, 32, 33, 34, 35, 36, 37, 12, 14, 15, 16, 17, 18, 38, 39, 40, 41, 42, 43, 44, 45, 46, 47, 48, 49, 50, 51, 52, 53, 54, 55, 56, 57, 58, 59, 60, 61, 62, 63, 64, 65, 66, 67, 68, 69, 70, 71, 72, 73, 74, 75, 76, 77, 78, 79, 80, 81, 82, 83, 85, 86, 87, 88, 89, 84, 90, 91] (by decide +kernel) (by decide +kernel)
set_option maxRecDepth 20000 in
theorem gX4_faults_X4_faultsAt : GoodIn wsX4_faults (wsV RX4 178 RX4 yX4_faultsAt wsX4_faultsAt) := goodIn_app (goodIn_of _ (by decide +kernel)) ggX4_faults_X4_faultsAt
theorem dX4_faults_0 : decode cX4_faults 0 = .ok (.aload_n 0, 1) := by decide +kernel
theorem dX4_faults_1 : decode cX4_faults 1 = .ok (.iload_n 1, 1) := by decide +kernel
theorem dX4_faults_2 : decode cX4_faults 2 = .ok (.invokevirtual 114, 3) := by decide +kernel
theorem dX4_faults_5 : decode cX4_faults 5 = .ok (.iconst 0, 1) := by decide +kernel
theorem dX4_faults_6 : decode cX4_faults 6 = .ok (.istore_n 2, 1) := by decide +kernel
theorem dX4_faults_7 : decode cX4_faults 7 = .ok (.iconst 0, 1) := by decide +kernel
theorem dX4_faults_8 : decode cX4_faults 8 = .ok (.istore_n 3, 1) := by decide +kernel
theorem dX4_faults_9 : decode cX4_faults 9 = .ok (.iload_n 3, 1) := by decide +kernel
theorem dX4_faults_10 : decode cX4_faults 10 = .ok (.aload_n 0, 1) := by decide +kernel
theorem dX4_faults_11 : decode cX4_faults 11 = .ok (.getfield 42, 3) := by decide +kernel
theorem dX4_faults_14 : decode cX4_faults 14 = .ok (.bipush 40, 2) := by decide +kernel
theorem dX4_faults_16 : decode cX4_faults 16 = .ok (.imul, 1) := by decide +kernel
theorem dX4_faults_17 : decode cX4_faults 17 = .ok (.if_icmp .ge 34, 3) := by decide +kernel
theorem dX4_faults_20 : decode cX4_faults 20 = .ok (.aload_n 0, 1) := by decide +kernel
theorem dX4_faults_21 : decode cX4_faults 21 = .ok (.getfield 32, 3) := by decide +kernel
theorem dX4_faults_24 : decode cX4_faults 24 = .ok (.iload_n 3, 1) := by decide +kernel
theorem dX4_faults_25 : decode cX4_faults 25 = .ok (.iload_n 1, 1) := by decide +kernel
theorem dX4_faults_26 : decode cX4_faults 26 = .ok (.invokevirtual 145, 3) := by decide +kernel
theorem dX4_faults_29 : decode cX4_faults 29 = .ok (.ifnull 16, 3) := by decide +kernel
theorem dX4_faults_32 : decode cX4_faults 32 = .ok (.iload_n 2, 1) := by decide +kernel
theorem dX4_faults_33 : decode cX4_faults 33 = .ok (.aload_n 0, 1) := by decide +kernel
theorem dX4_faults_34 : decode cX4_faults 34 = .ok (.aload_n 0, 1) := by decide +kernel
theorem dX4_faults_35 : decode cX4_faults 35 = .ok (.getfield 32, 3) := by decide +kernel
theorem dX4_faults_38 : decode cX4_faults 38 = .ok (.iload_n 3, 1) := by decide +kernel
theorem dX4_faults_39 : decode cX4_faults 39 = .ok (.iload_n 1, 1) := by decide +kernel
theorem dX4_faults_40 : decode cX4_faults 40 = .ok (.invokevirtual 178, 3) := by decide +kernel
theorem dX4_faults_43 : decode cX4_faults 43 = .ok (.iadd, 1) := by decide +kernel
theorem dX4_faults_44 : decode cX4_faults 44 = .ok (.istore_n 2, 1) := by decide +kernel
theorem dX4_faults_45 : decode cX4_faults 45 = .ok (.iinc 3 1, 3) := by decide +kernel
theorem dX4_faults_48 : decode cX4_faults 48 = .ok (.goto (-39), 3) := by decide +kernel
theorem dX4_faults_51 : decode cX4_faults 51 = .ok (.iload_n 2, 1) := by decide +kernel
theorem dX4_faults_52 : decode cX4_faults 52 = .ok (.ireturn, 1) := by decide +kernel
set_option maxRecDepth 20000 in
theorem ggX4_faultsByList_X4_checkFiling : GoodIn wsX4_faultsByList wsX4_checkFiling := goodIn_ca (goodIn_r _ [9, 10, 11, 12, 76, 77, 78, 79, 80, 81, 82, 83, 84, 85, 86] (by decide +kernel) (by decide +kernel)) (goodIn_sub (fun _ h => List.mem_cons_of_mem _ (List.mem_append_right _ h)) (by decide +kernel))
set_option maxRecDepth 20000 in
theorem gX4_faultsByList_X4_checkFiling : GoodIn wsX4_faultsByList (wsV RX4 114 RX4 yX4_checkFiling wsX4_checkFiling) := goodIn_app (goodIn_of _ (by decide +kernel)) ggX4_faultsByList_X4_checkFiling
set_option maxRecDepth 20000 in
theorem ggX4_faultsByList_X3_holding : GoodIn wsX4_faultsByList wsX3_holding := goodIn_r _ [17, 18, 19, 20, 21, 22, 23, 24, 25, 26, 27, 28, 87, 88, 89, 90, 91, 92, 93] (by decide +kernel) (by decide +kernel)
set_option maxRecDepth 20000 in
theorem gX4_faultsByList_X3_holding : GoodIn wsX4_faultsByList (wsV RX4 185 RX3 yX3_holding wsX3_holding) := goodIn_app (goodIn_of _ (by decide +kernel)) ggX4_faultsByList_X3_holding
set_option maxRecDepth 20000 in
theorem ggX4_faultsByList_X4_faultsAt : GoodIn wsX4_faultsByList wsX4_faultsAt := goodIn_r _ [32, 33, 34, 35, 36, 37, 8, 38, 39, 40, 41, 42, 43, 44, 45, 46, 47, 48, 49, 50, 51, 52, 53, 54, 55, 14, 16, 17, 18, 19, 20, 21, 22, 23, 24, 25, 26, 27, 28, 56, 57, 58, 59, 60, 61, 62, 63, 64, 65, 66, 67, 68, 69, 70, 71, 72, 73, 74, 75, 76, 77, 78, 79, 80, 81, 82, 83, 84, 85, 86, 89, 90, 91, 92, 93, 94, 87, 88] (by decide +kernel) (by decide +kernel)
set_option maxRecDepth 20000 in
theorem gX4_faultsByList_X4_faultsAt : GoodIn wsX4_faultsByList (wsV RX4 178 RX4 yX4_faultsAt wsX4_faultsAt) := goodIn_app (goodIn_of _ (by decide +kernel)) ggX4_faultsByList_X4_faultsAt
theorem dX4_faultsByList_0 : decode cX4_faultsByList 0 = .ok (.aload_n 0, 1) := by decide +kernel
theorem dX4_faultsByList_1 : decode cX4_faultsByList 1 = .ok (.iload_n 1, 1) := by decide +kernel
theorem dX4_faultsByList_2 : decode cX4_faultsByList 2 = .ok (.invokevirtual 114, 3) := by decide +kernel
theorem dX4_faultsByList_5 : decode cX4_faultsByList 5 = .ok (.iconst 0, 1) := by decide +kernel
theorem dX4_faultsByList_6 : decode cX4_faultsByList 6 = .ok (.istore_n 2, 1) := by decide +kernel
theorem dX4_faultsByList_7 : decode cX4_faultsByList 7 = .ok (.iconst 0, 1) := by decide +kernel
theorem dX4_faultsByList_8 : decode cX4_faultsByList 8 = .ok (.istore_n 3, 1) := by decide +kernel
theorem dX4_faultsByList_9 : decode cX4_faultsByList 9 = .ok (.iload_n 3, 1) := by decide +kernel
theorem dX4_faultsByList_10 : decode cX4_faultsByList 10 = .ok (.aload_n 0, 1) := by decide +kernel
theorem dX4_faultsByList_11 : decode cX4_faultsByList 11 = .ok (.getfield 25, 3) := by decide +kernel
theorem dX4_faultsByList_14 : decode cX4_faultsByList 14 = .ok (.getfield 111, 3) := by decide +kernel
theorem dX4_faultsByList_17 : decode cX4_faultsByList 17 = .ok (.if_icmp .ge 60, 3) := by decide +kernel
theorem dX4_faultsByList_20 : decode cX4_faultsByList 20 = .ok (.aload_n 0, 1) := by decide +kernel
theorem dX4_faultsByList_21 : decode cX4_faultsByList 21 = .ok (.getfield 25, 3) := by decide +kernel
theorem dX4_faultsByList_24 : decode cX4_faultsByList 24 = .ok (.getfield 117, 3) := by decide +kernel
theorem dX4_faultsByList_27 : decode cX4_faultsByList 27 = .ok (.iload_n 3, 1) := by decide +kernel
theorem dX4_faultsByList_28 : decode cX4_faultsByList 28 = .ok (.aaload, 1) := by decide +kernel
theorem dX4_faultsByList_29 : decode cX4_faultsByList 29 = .ok (.astore 4, 2) := by decide +kernel
theorem dX4_faultsByList_31 : decode cX4_faultsByList 31 = .ok (.aload 4, 2) := by decide +kernel
theorem dX4_faultsByList_33 : decode cX4_faultsByList 33 = .ok (.ifnull 38, 3) := by decide +kernel
theorem dX4_faultsByList_36 : decode cX4_faultsByList 36 = .ok (.aload_n 0, 1) := by decide +kernel
theorem dX4_faultsByList_37 : decode cX4_faultsByList 37 = .ok (.getfield 25, 3) := by decide +kernel
theorem dX4_faultsByList_40 : decode cX4_faultsByList 40 = .ok (.aload 4, 2) := by decide +kernel
theorem dX4_faultsByList_42 : decode cX4_faultsByList 42 = .ok (.getfield 182, 3) := by decide +kernel
theorem dX4_faultsByList_45 : decode cX4_faultsByList 45 = .ok (.iload_n 1, 1) := by decide +kernel
theorem dX4_faultsByList_46 : decode cX4_faultsByList 46 = .ok (.invokevirtual 185, 3) := by decide +kernel
theorem dX4_faultsByList_49 : decode cX4_faultsByList 49 = .ok (.aload 4, 2) := by decide +kernel
theorem dX4_faultsByList_51 : decode cX4_faultsByList 51 = .ok (.if_acmp .ne 20, 3) := by decide +kernel
theorem dX4_faultsByList_54 : decode cX4_faultsByList 54 = .ok (.iload_n 2, 1) := by decide +kernel
theorem dX4_faultsByList_55 : decode cX4_faultsByList 55 = .ok (.aload_n 0, 1) := by decide +kernel
theorem dX4_faultsByList_56 : decode cX4_faultsByList 56 = .ok (.aload_n 0, 1) := by decide +kernel
theorem dX4_faultsByList_57 : decode cX4_faultsByList 57 = .ok (.getfield 25, 3) := by decide +kernel
theorem dX4_faultsByList_60 : decode cX4_faultsByList 60 = .ok (.aload 4, 2) := by decide +kernel
theorem dX4_faultsByList_62 : decode cX4_faultsByList 62 = .ok (.getfield 182, 3) := by decide +kernel
theorem dX4_faultsByList_65 : decode cX4_faultsByList 65 = .ok (.iload_n 1, 1) := by decide +kernel
theorem dX4_faultsByList_66 : decode cX4_faultsByList 66 = .ok (.invokevirtual 178, 3) := by decide +kernel
theorem dX4_faultsByList_69 : decode cX4_faultsByList 69 = .ok (.iadd, 1) := by decide +kernel
theorem dX4_faultsByList_70 : decode cX4_faultsByList 70 = .ok (.istore_n 2, 1) := by decide +kernel
theorem dX4_faultsByList_71 : decode cX4_faultsByList 71 = .ok (.iinc 3 1, 3) := by decide +kernel
theorem dX4_faultsByList_74 : decode cX4_faultsByList 74 = .ok (.goto (-65), 3) := by decide +kernel
theorem dX4_faultsByList_77 : decode cX4_faultsByList 77 = .ok (.iload_n 2, 1) := by decide +kernel
theorem dX4_faultsByList_78 : decode cX4_faultsByList 78 = .ok (.ireturn, 1) := by decide +kernel
theorem dX4_checkConcept_0 : decode cX4_checkConcept 0 = .ok (.iload_n 1, 1) := by decide +kernel
theorem dX4_checkConcept_1 : decode cX4_checkConcept 1 = .ok (.ifCond .lt 11, 3) := by decide +kernel
theorem dX4_checkConcept_4 : decode cX4_checkConcept 4 = .ok (.iload_n 1, 1) := by decide +kernel
theorem dX4_checkConcept_5 : decode cX4_checkConcept 5 = .ok (.aload_n 0, 1) := by decide +kernel
theorem dX4_checkConcept_6 : decode cX4_checkConcept 6 = .ok (.getfield 42, 3) := by decide +kernel
theorem dX4_checkConcept_9 : decode cX4_checkConcept 9 = .ok (.if_icmp .lt 13, 3) := by decide +kernel
theorem dX4_checkConcept_12 : decode cX4_checkConcept 12 = .ok (.new 166, 3) := by decide +kernel
theorem dX4_checkConcept_15 : decode cX4_checkConcept 15 = .ok (.dup, 1) := by decide +kernel
theorem dX4_checkConcept_16 : decode cX4_checkConcept 16 = .ok (.ldc 186, 2) := by decide +kernel
theorem dX4_checkConcept_18 : decode cX4_checkConcept 18 = .ok (.invokespecial 170, 3) := by decide +kernel
theorem dX4_checkConcept_21 : decode cX4_checkConcept 21 = .ok (.athrow, 1) := by decide +kernel
theorem dX4_checkConcept_22 : decode cX4_checkConcept 22 = .ok (.return_, 1) := by decide +kernel
theorem dX4_checkPeriodAndMember_0 : decode cX4_checkPeriodAndMember 0 = .ok (.iload_n 0, 1) := by decide +kernel
theorem dX4_checkPeriodAndMember_1 : decode cX4_checkPeriodAndMember 1 = .ok (.ifCond .lt 9, 3) := by decide +kernel
theorem dX4_checkPeriodAndMember_4 : decode cX4_checkPeriodAndMember 4 = .ok (.iload_n 0, 1) := by decide +kernel
theorem dX4_checkPeriodAndMember_5 : decode cX4_checkPeriodAndMember 5 = .ok (.bipush 10, 2) := by decide +kernel
theorem dX4_checkPeriodAndMember_7 : decode cX4_checkPeriodAndMember 7 = .ok (.if_icmp .lt 13, 3) := by decide +kernel
theorem dX4_checkPeriodAndMember_10 : decode cX4_checkPeriodAndMember 10 = .ok (.new 166, 3) := by decide +kernel
theorem dX4_checkPeriodAndMember_13 : decode cX4_checkPeriodAndMember 13 = .ok (.dup, 1) := by decide +kernel
theorem dX4_checkPeriodAndMember_14 : decode cX4_checkPeriodAndMember 14 = .ok (.ldc 188, 2) := by decide +kernel
theorem dX4_checkPeriodAndMember_16 : decode cX4_checkPeriodAndMember 16 = .ok (.invokespecial 170, 3) := by decide +kernel
theorem dX4_checkPeriodAndMember_19 : decode cX4_checkPeriodAndMember 19 = .ok (.athrow, 1) := by decide +kernel
theorem dX4_checkPeriodAndMember_20 : decode cX4_checkPeriodAndMember 20 = .ok (.iload_n 1, 1) := by decide +kernel
theorem dX4_checkPeriodAndMember_21 : decode cX4_checkPeriodAndMember 21 = .ok (.ifCond .lt 8, 3) := by decide +kernel
theorem dX4_checkPeriodAndMember_24 : decode cX4_checkPeriodAndMember 24 = .ok (.iload_n 1, 1) := by decide +kernel
theorem dX4_checkPeriodAndMember_25 : decode cX4_checkPeriodAndMember 25 = .ok (.iconst 4, 1) := by decide +kernel
theorem dX4_checkPeriodAndMember_26 : decode cX4_checkPeriodAndMember 26 = .ok (.if_icmp .lt 13, 3) := by decide +kernel
theorem dX4_checkPeriodAndMember_29 : decode cX4_checkPeriodAndMember 29 = .ok (.new 166, 3) := by decide +kernel
theorem dX4_checkPeriodAndMember_32 : decode cX4_checkPeriodAndMember 32 = .ok (.dup, 1) := by decide +kernel
theorem dX4_checkPeriodAndMember_33 : decode cX4_checkPeriodAndMember 33 = .ok (.ldc 190, 2) := by decide +kernel
theorem dX4_checkPeriodAndMember_35 : decode cX4_checkPeriodAndMember 35 = .ok (.invokespecial 170, 3) := by decide +kernel
theorem dX4_checkPeriodAndMember_38 : decode cX4_checkPeriodAndMember 38 = .ok (.athrow, 1) := by decide +kernel
theorem dX4_checkPeriodAndMember_39 : decode cX4_checkPeriodAndMember 39 = .ok (.return_, 1) := by decide +kernel
set_option maxRecDepth 20000 in
theorem ggX4_checkKey_X4_checkConcept : GoodIn wsX4_checkKey wsX4_checkConcept := goodIn_ca (goodIn_r _ [5, 6, 7, 8, 12, 13, 14, 15, 16, 17, 18, 19, 20, 21, 22] (by decide +kernel) (by decide +kernel)) (goodIn_sub (fun _ h => List.mem_cons_of_mem _ (List.mem_append_right _ h)) (by decide +kernel))
set_option maxRecDepth 20000 in
theorem gX4_checkKey_X4_checkConcept : GoodIn wsX4_checkKey (wsV RX4 53 RX4 yX4_checkConcept wsX4_checkConcept) := goodIn_app (goodIn_of _ (by decide +kernel)) ggX4_checkKey_X4_checkConcept
set_option maxRecDepth 20000 in
theorem ggX4_checkKey_X4_checkPeriodAndMember : GoodIn wsX4_checkKey wsX4_checkPeriodAndMember := goodIn_ca (goodIn_r _ [11, 6, 7] (by decide +kernel) (by decide +kernel)) (goodIn_sub (fun _ h => List.mem_cons_of_mem _ (List.mem_append_right _ h)) (by decide +kernel))
set_option maxRecDepth 20000 in
theorem gX4_checkKey_X4_checkPeriodAndMember : GoodIn wsX4_checkKey (va_wsS RX4 171 yX4_checkPeriodAndMember wsX4_checkPeriodAndMember) := goodIn_app (goodIn_of _ (by decide +kernel)) ggX4_checkKey_X4_checkPeriodAndMember
theorem dX4_checkKey_0 : decode cX4_checkKey 0 = .ok (.aload_n 0, 1) := by decide +kernel
theorem dX4_checkKey_1 : decode cX4_checkKey 1 = .ok (.iload_n 1, 1) := by decide +kernel
theorem dX4_checkKey_2 : decode cX4_checkKey 2 = .ok (.invokevirtual 53, 3) := by decide +kernel
theorem dX4_checkKey_5 : decode cX4_checkKey 5 = .ok (.iload_n 2, 1) := by decide +kernel
theorem dX4_checkKey_6 : decode cX4_checkKey 6 = .ok (.iload_n 3, 1) := by decide +kernel
theorem dX4_checkKey_7 : decode cX4_checkKey 7 = .ok (.invokestatic 171, 3) := by decide +kernel
theorem dX4_checkKey_10 : decode cX4_checkKey 10 = .ok (.return_, 1) := by decide +kernel
theorem dX4_checkFiling_0 : decode cX4_checkFiling 0 = .ok (.iload_n 1, 1) := by decide +kernel
theorem dX4_checkFiling_1 : decode cX4_checkFiling 1 = .ok (.ifCond .lt 11, 3) := by decide +kernel
theorem dX4_checkFiling_4 : decode cX4_checkFiling 4 = .ok (.iload_n 1, 1) := by decide +kernel
theorem dX4_checkFiling_5 : decode cX4_checkFiling 5 = .ok (.aload_n 0, 1) := by decide +kernel
theorem dX4_checkFiling_6 : decode cX4_checkFiling 6 = .ok (.getfield 73, 3) := by decide +kernel
theorem dX4_checkFiling_9 : decode cX4_checkFiling 9 = .ok (.if_icmp .le 13, 3) := by decide +kernel
theorem dX4_checkFiling_12 : decode cX4_checkFiling 12 = .ok (.new 166, 3) := by decide +kernel
theorem dX4_checkFiling_15 : decode cX4_checkFiling 15 = .ok (.dup, 1) := by decide +kernel
theorem dX4_checkFiling_16 : decode cX4_checkFiling 16 = .ok (.ldc 192, 2) := by decide +kernel
theorem dX4_checkFiling_18 : decode cX4_checkFiling 18 = .ok (.invokespecial 170, 3) := by decide +kernel
theorem dX4_checkFiling_21 : decode cX4_checkFiling 21 = .ok (.athrow, 1) := by decide +kernel
theorem dX4_checkFiling_22 : decode cX4_checkFiling 22 = .ok (.return_, 1) := by decide +kernel
set_option maxRecDepth 20000 in
theorem ggX4_heldFact_X4_checkKey : GoodIn wsX4_heldFact wsX4_checkKey := goodIn_ca (goodIn_r _ [8, 9, 10, 11, 7, 12, 13, 14, 15, 16, 17, 18, 35, 36, 37, 38, 39, 40, 41, 42, 43, 44, 45] (by decide +kernel) (by decide +kernel)) (goodIn_sub (fun _ h => List.mem_cons_of_mem _ (List.mem_append_right _ h)) (by decide +kernel))
set_option maxRecDepth 20000 in
theorem gX4_heldFact_X4_checkKey : GoodIn wsX4_heldFact (wsV RX4 78 RX4 yX4_checkKey wsX4_checkKey) := goodIn_app (goodIn_of _ (by decide +kernel)) ggX4_heldFact_X4_checkKey
set_option maxRecDepth 20000 in
theorem ggX4_heldFact_X4_checkFiling : GoodIn wsX4_heldFact wsX4_checkFiling := goodIn_ca (goodIn_r _ [22, 13, 14, 23, 35, 36, 37, 38, 39, 40, 41, 42, 43, 44, 45] (by decide +kernel) (by decide +kernel)) (goodIn_sub (fun _ h => List.mem_cons_of_mem _ (List.mem_append_right _ h)) (by decide +kernel))
set_option maxRecDepth 20000 in
theorem gX4_heldFact_X4_checkFiling : GoodIn wsX4_heldFact (wsV RX4 114 RX4 yX4_checkFiling wsX4_checkFiling) := goodIn_app (goodIn_of _ (by decide +kernel)) ggX4_heldFact_X4_checkFiling
set_option maxRecDepth 20000 in
theorem ggX4_heldFact_X4_keyOf : GoodIn wsX4_heldFact wsX4_keyOf := goodIn_r _ [26] (by decide +kernel) (by decide +kernel)
set_option maxRecDepth 20000 in
theorem gX4_heldFact_X4_keyOf : GoodIn wsX4_heldFact (va_wsS RX4 96 yX4_keyOf wsX4_keyOf) := goodIn_app (goodIn_of _ (by decide +kernel)) ggX4_heldFact_X4_keyOf
set_option maxRecDepth 20000 in
theorem ggX4_heldFact_X2_holding : GoodIn wsX4_heldFact wsX2_holding := goodIn_r _ [31, 32, 33, 34, 46, 47, 48, 49, 50, 51] (by decide +kernel) (by decide +kernel)
set_option maxRecDepth 20000 in
theorem gX4_heldFact_X2_holding : GoodIn wsX4_heldFact (wsV RX4 145 RX2 yX2_holding wsX2_holding) := goodIn_app (goodIn_of _ (by decide +kernel)) ggX4_heldFact_X2_holding
theorem dX4_heldFact_0 : decode cX4_heldFact 0 = .ok (.aload_n 0, 1) := by decide +kernel
theorem dX4_heldFact_1 : decode cX4_heldFact 1 = .ok (.iload_n 1, 1) := by decide +kernel
theorem dX4_heldFact_2 : decode cX4_heldFact 2 = .ok (.iload_n 2, 1) := by decide +kernel
theorem dX4_heldFact_3 : decode cX4_heldFact 3 = .ok (.iload_n 3, 1) := by decide +kernel
theorem dX4_heldFact_4 : decode cX4_heldFact 4 = .ok (.invokevirtual 78, 3) := by decide +kernel
theorem dX4_heldFact_7 : decode cX4_heldFact 7 = .ok (.aload_n 0, 1) := by decide +kernel
theorem dX4_heldFact_8 : decode cX4_heldFact 8 = .ok (.iload 4, 2) := by decide +kernel
theorem dX4_heldFact_10 : decode cX4_heldFact 10 = .ok (.invokevirtual 114, 3) := by decide +kernel
theorem dX4_heldFact_13 : decode cX4_heldFact 13 = .ok (.aload_n 0, 1) := by decide +kernel
theorem dX4_heldFact_14 : decode cX4_heldFact 14 = .ok (.getfield 32, 3) := by decide +kernel
theorem dX4_heldFact_17 : decode cX4_heldFact 17 = .ok (.iload_n 1, 1) := by decide +kernel
theorem dX4_heldFact_18 : decode cX4_heldFact 18 = .ok (.iload_n 2, 1) := by decide +kernel
theorem dX4_heldFact_19 : decode cX4_heldFact 19 = .ok (.iload_n 3, 1) := by decide +kernel
theorem dX4_heldFact_20 : decode cX4_heldFact 20 = .ok (.invokestatic 96, 3) := by decide +kernel
theorem dX4_heldFact_23 : decode cX4_heldFact 23 = .ok (.iload 4, 2) := by decide +kernel
theorem dX4_heldFact_25 : decode cX4_heldFact 25 = .ok (.invokevirtual 145, 3) := by decide +kernel
theorem dX4_heldFact_28 : decode cX4_heldFact 28 = .ok (.astore 5, 2) := by decide +kernel
theorem dX4_heldFact_30 : decode cX4_heldFact 30 = .ok (.aload 5, 2) := by decide +kernel
theorem dX4_heldFact_32 : decode cX4_heldFact 32 = .ok (.ifnonnull 13, 3) := by decide +kernel
theorem dX4_heldFact_35 : decode cX4_heldFact 35 = .ok (.new 153, 3) := by decide +kernel
theorem dX4_heldFact_38 : decode cX4_heldFact 38 = .ok (.dup, 1) := by decide +kernel
theorem dX4_heldFact_39 : decode cX4_heldFact 39 = .ok (.ldc 194, 2) := by decide +kernel
theorem dX4_heldFact_41 : decode cX4_heldFact 41 = .ok (.invokespecial 157, 3) := by decide +kernel
theorem dX4_heldFact_44 : decode cX4_heldFact 44 = .ok (.athrow, 1) := by decide +kernel
theorem dX4_heldFact_45 : decode cX4_heldFact 45 = .ok (.aload 5, 2) := by decide +kernel
theorem dX4_heldFact_47 : decode cX4_heldFact 47 = .ok (.areturn, 1) := by decide +kernel
theorem dX4_keyOf_0 : decode cX4_keyOf 0 = .ok (.iload_n 0, 1) := by decide +kernel
theorem dX4_keyOf_1 : decode cX4_keyOf 1 = .ok (.bipush 10, 2) := by decide +kernel
theorem dX4_keyOf_3 : decode cX4_keyOf 3 = .ok (.imul, 1) := by decide +kernel
theorem dX4_keyOf_4 : decode cX4_keyOf 4 = .ok (.iload_n 1, 1) := by decide +kernel
theorem dX4_keyOf_5 : decode cX4_keyOf 5 = .ok (.iadd, 1) := by decide +kernel
theorem dX4_keyOf_6 : decode cX4_keyOf 6 = .ok (.iconst 4, 1) := by decide +kernel
theorem dX4_keyOf_7 : decode cX4_keyOf 7 = .ok (.imul, 1) := by decide +kernel
theorem dX4_keyOf_8 : decode cX4_keyOf 8 = .ok (.iload_n 2, 1) := by decide +kernel
theorem dX4_keyOf_9 : decode cX4_keyOf 9 = .ok (.iadd, 1) := by decide +kernel
theorem dX4_keyOf_10 : decode cX4_keyOf 10 = .ok (.ireturn, 1) := by decide +kernel
set_option maxRecDepth 20000 in
theorem ggX4_isRestated_X2_holding : GoodIn wsX4_isRestated wsX2_holding := goodIn_r _ [8, 9, 10, 11, 28, 23, 24, 25, 26, 27] (by decide +kernel) (by decide +kernel)
set_option maxRecDepth 20000 in
theorem gX4_isRestated_X2_holding : GoodIn wsX4_isRestated (wsV RX4 145 RX2 yX2_holding wsX2_holding) := goodIn_app (goodIn_of _ (by decide +kernel)) ggX4_isRestated_X2_holding
theorem dX4_isRestated_0 : decode cX4_isRestated 0 = .ok (.aload_n 0, 1) := by decide +kernel
theorem dX4_isRestated_1 : decode cX4_isRestated 1 = .ok (.getfield 32, 3) := by decide +kernel
theorem dX4_isRestated_4 : decode cX4_isRestated 4 = .ok (.iload_n 1, 1) := by decide +kernel
theorem dX4_isRestated_5 : decode cX4_isRestated 5 = .ok (.iload_n 2, 1) := by decide +kernel
theorem dX4_isRestated_6 : decode cX4_isRestated 6 = .ok (.invokevirtual 145, 3) := by decide +kernel
theorem dX4_isRestated_9 : decode cX4_isRestated 9 = .ok (.astore_n 3, 1) := by decide +kernel
theorem dX4_isRestated_10 : decode cX4_isRestated 10 = .ok (.aload_n 3, 1) := by decide +kernel
theorem dX4_isRestated_11 : decode cX4_isRestated 11 = .ok (.ifnull 11, 3) := by decide +kernel
theorem dX4_isRestated_14 : decode cX4_isRestated 14 = .ok (.aload_n 3, 1) := by decide +kernel
theorem dX4_isRestated_15 : decode cX4_isRestated 15 = .ok (.getfield 121, 3) := by decide +kernel
theorem dX4_isRestated_18 : decode cX4_isRestated 18 = .ok (.iload_n 2, 1) := by decide +kernel
theorem dX4_isRestated_19 : decode cX4_isRestated 19 = .ok (.if_icmp .eq 5, 3) := by decide +kernel
theorem dX4_isRestated_22 : decode cX4_isRestated 22 = .ok (.iconst 0, 1) := by decide +kernel
theorem dX4_isRestated_23 : decode cX4_isRestated 23 = .ok (.ireturn, 1) := by decide +kernel
theorem dX4_isRestated_24 : decode cX4_isRestated 24 = .ok (.aload_n 0, 1) := by decide +kernel
theorem dX4_isRestated_25 : decode cX4_isRestated 25 = .ok (.getfield 32, 3) := by decide +kernel
theorem dX4_isRestated_28 : decode cX4_isRestated 28 = .ok (.iload_n 1, 1) := by decide +kernel
theorem dX4_isRestated_29 : decode cX4_isRestated 29 = .ok (.iload_n 2, 1) := by decide +kernel
theorem dX4_isRestated_30 : decode cX4_isRestated 30 = .ok (.iconst 1, 1) := by decide +kernel
theorem dX4_isRestated_31 : decode cX4_isRestated 31 = .ok (.isub, 1) := by decide +kernel
theorem dX4_isRestated_32 : decode cX4_isRestated 32 = .ok (.invokevirtual 145, 3) := by decide +kernel
theorem dX4_isRestated_35 : decode cX4_isRestated 35 = .ok (.astore 4, 2) := by decide +kernel
theorem dX4_isRestated_37 : decode cX4_isRestated 37 = .ok (.aload 4, 2) := by decide +kernel
theorem dX4_isRestated_39 : decode cX4_isRestated 39 = .ok (.ifnull 19, 3) := by decide +kernel
theorem dX4_isRestated_42 : decode cX4_isRestated 42 = .ok (.aload 4, 2) := by decide +kernel
theorem dX4_isRestated_44 : decode cX4_isRestated 44 = .ok (.getfield 135, 3) := by decide +kernel
theorem dX4_isRestated_47 : decode cX4_isRestated 47 = .ok (.aload_n 3, 1) := by decide +kernel
theorem dX4_isRestated_48 : decode cX4_isRestated 48 = .ok (.getfield 135, 3) := by decide +kernel
theorem dX4_isRestated_51 : decode cX4_isRestated 51 = .ok (.if_icmp .eq 7, 3) := by decide +kernel
theorem dX4_isRestated_54 : decode cX4_isRestated 54 = .ok (.iconst 1, 1) := by decide +kernel
theorem dX4_isRestated_55 : decode cX4_isRestated 55 = .ok (.goto 4, 3) := by decide +kernel
theorem dX4_isRestated_58 : decode cX4_isRestated 58 = .ok (.iconst 0, 1) := by decide +kernel
theorem dX4_isRestated_59 : decode cX4_isRestated 59 = .ok (.ireturn, 1) := by decide +kernel
theorem dX4_isAtOrUnder_0 : decode cX4_isAtOrUnder 0 = .ok (.iload_n 1, 1) := by decide +kernel
theorem dX4_isAtOrUnder_1 : decode cX4_isAtOrUnder 1 = .ok (.istore_n 3, 1) := by decide +kernel
theorem dX4_isAtOrUnder_2 : decode cX4_isAtOrUnder 2 = .ok (.iconst 0, 1) := by decide +kernel
theorem dX4_isAtOrUnder_3 : decode cX4_isAtOrUnder 3 = .ok (.istore 4, 2) := by decide +kernel
theorem dX4_isAtOrUnder_5 : decode cX4_isAtOrUnder 5 = .ok (.iload 4, 2) := by decide +kernel
theorem dX4_isAtOrUnder_7 : decode cX4_isAtOrUnder 7 = .ok (.bipush 12, 2) := by decide +kernel
theorem dX4_isAtOrUnder_9 : decode cX4_isAtOrUnder 9 = .ok (.if_icmp .ge 28, 3) := by decide +kernel
theorem dX4_isAtOrUnder_12 : decode cX4_isAtOrUnder 12 = .ok (.iload_n 3, 1) := by decide +kernel
theorem dX4_isAtOrUnder_13 : decode cX4_isAtOrUnder 13 = .ok (.iconst (-1), 1) := by decide +kernel
theorem dX4_isAtOrUnder_14 : decode cX4_isAtOrUnder 14 = .ok (.if_icmp .eq 23, 3) := by decide +kernel
theorem dX4_isAtOrUnder_17 : decode cX4_isAtOrUnder 17 = .ok (.iload_n 3, 1) := by decide +kernel
theorem dX4_isAtOrUnder_18 : decode cX4_isAtOrUnder 18 = .ok (.iload_n 2, 1) := by decide +kernel
theorem dX4_isAtOrUnder_19 : decode cX4_isAtOrUnder 19 = .ok (.if_icmp .ne 5, 3) := by decide +kernel
theorem dX4_isAtOrUnder_22 : decode cX4_isAtOrUnder 22 = .ok (.iconst 1, 1) := by decide +kernel
theorem dX4_isAtOrUnder_23 : decode cX4_isAtOrUnder 23 = .ok (.ireturn, 1) := by decide +kernel
theorem dX4_isAtOrUnder_24 : decode cX4_isAtOrUnder 24 = .ok (.aload_n 0, 1) := by decide +kernel
theorem dX4_isAtOrUnder_25 : decode cX4_isAtOrUnder 25 = .ok (.getfield 9, 3) := by decide +kernel
theorem dX4_isAtOrUnder_28 : decode cX4_isAtOrUnder 28 = .ok (.iload_n 3, 1) := by decide +kernel
theorem dX4_isAtOrUnder_29 : decode cX4_isAtOrUnder 29 = .ok (.iaload, 1) := by decide +kernel
theorem dX4_isAtOrUnder_30 : decode cX4_isAtOrUnder 30 = .ok (.istore_n 3, 1) := by decide +kernel
theorem dX4_isAtOrUnder_31 : decode cX4_isAtOrUnder 31 = .ok (.iinc 4 1, 3) := by decide +kernel
theorem dX4_isAtOrUnder_34 : decode cX4_isAtOrUnder 34 = .ok (.goto (-29), 3) := by decide +kernel
theorem dX4_isAtOrUnder_37 : decode cX4_isAtOrUnder 37 = .ok (.iconst 0, 1) := by decide +kernel
theorem dX4_isAtOrUnder_38 : decode cX4_isAtOrUnder 38 = .ok (.ireturn, 1) := by decide +kernel
theorem dX4_reachParts_0 : decode cX4_reachParts 0 = .ok (.iload_n 2, 1) := by decide +kernel
theorem dX4_reachParts_1 : decode cX4_reachParts 1 = .ok (.istore_n 3, 1) := by decide +kernel
theorem dX4_reachParts_2 : decode cX4_reachParts 2 = .ok (.iconst 0, 1) := by decide +kernel
theorem dX4_reachParts_3 : decode cX4_reachParts 3 = .ok (.istore 4, 2) := by decide +kernel
theorem dX4_reachParts_5 : decode cX4_reachParts 5 = .ok (.iload 4, 2) := by decide +kernel
theorem dX4_reachParts_7 : decode cX4_reachParts 7 = .ok (.aload_n 0, 1) := by decide +kernel
theorem dX4_reachParts_8 : decode cX4_reachParts 8 = .ok (.getfield 42, 3) := by decide +kernel
theorem dX4_reachParts_11 : decode cX4_reachParts 11 = .ok (.if_icmp .ge 62, 3) := by decide +kernel
theorem dX4_reachParts_14 : decode cX4_reachParts 14 = .ok (.aload_n 0, 1) := by decide +kernel
theorem dX4_reachParts_15 : decode cX4_reachParts 15 = .ok (.getfield 9, 3) := by decide +kernel
theorem dX4_reachParts_18 : decode cX4_reachParts 18 = .ok (.iload 4, 2) := by decide +kernel
theorem dX4_reachParts_20 : decode cX4_reachParts 20 = .ok (.iaload, 1) := by decide +kernel
theorem dX4_reachParts_21 : decode cX4_reachParts 21 = .ok (.aload_n 0, 1) := by decide +kernel
theorem dX4_reachParts_22 : decode cX4_reachParts 22 = .ok (.getfield 36, 3) := by decide +kernel
theorem dX4_reachParts_25 : decode cX4_reachParts 25 = .ok (.iload_n 1, 1) := by decide +kernel
theorem dX4_reachParts_26 : decode cX4_reachParts 26 = .ok (.iaload, 1) := by decide +kernel
theorem dX4_reachParts_27 : decode cX4_reachParts 27 = .ok (.if_icmp .ne 40, 3) := by decide +kernel
theorem dX4_reachParts_30 : decode cX4_reachParts 30 = .ok (.iload_n 3, 1) := by decide +kernel
theorem dX4_reachParts_31 : decode cX4_reachParts 31 = .ok (.bipush 12, 2) := by decide +kernel
theorem dX4_reachParts_33 : decode cX4_reachParts 33 = .ok (.if_icmp .ge 34, 3) := by decide +kernel
theorem dX4_reachParts_36 : decode cX4_reachParts 36 = .ok (.aload_n 0, 1) := by decide +kernel
theorem dX4_reachParts_37 : decode cX4_reachParts 37 = .ok (.getfield 36, 3) := by decide +kernel
theorem dX4_reachParts_40 : decode cX4_reachParts 40 = .ok (.iload_n 3, 1) := by decide +kernel
theorem dX4_reachParts_41 : decode cX4_reachParts 41 = .ok (.iload 4, 2) := by decide +kernel
theorem dX4_reachParts_43 : decode cX4_reachParts 43 = .ok (.iastore, 1) := by decide +kernel
theorem dX4_reachParts_44 : decode cX4_reachParts 44 = .ok (.aload_n 0, 1) := by decide +kernel
theorem dX4_reachParts_45 : decode cX4_reachParts 45 = .ok (.getfield 39, 3) := by decide +kernel
theorem dX4_reachParts_48 : decode cX4_reachParts 48 = .ok (.iload_n 3, 1) := by decide +kernel
theorem dX4_reachParts_49 : decode cX4_reachParts 49 = .ok (.aload_n 0, 1) := by decide +kernel
theorem dX4_reachParts_50 : decode cX4_reachParts 50 = .ok (.getfield 39, 3) := by decide +kernel
theorem dX4_reachParts_53 : decode cX4_reachParts 53 = .ok (.iload_n 1, 1) := by decide +kernel
theorem dX4_reachParts_54 : decode cX4_reachParts 54 = .ok (.iaload, 1) := by decide +kernel
theorem dX4_reachParts_55 : decode cX4_reachParts 55 = .ok (.aload_n 0, 1) := by decide +kernel
theorem dX4_reachParts_56 : decode cX4_reachParts 56 = .ok (.getfield 13, 3) := by decide +kernel
theorem dX4_reachParts_59 : decode cX4_reachParts 59 = .ok (.iload 4, 2) := by decide +kernel
theorem dX4_reachParts_61 : decode cX4_reachParts 61 = .ok (.iaload, 1) := by decide +kernel
theorem dX4_reachParts_62 : decode cX4_reachParts 62 = .ok (.imul, 1) := by decide +kernel
theorem dX4_reachParts_63 : decode cX4_reachParts 63 = .ok (.iastore, 1) := by decide +kernel
theorem dX4_reachParts_64 : decode cX4_reachParts 64 = .ok (.iinc 3 1, 3) := by decide +kernel
theorem dX4_reachParts_67 : decode cX4_reachParts 67 = .ok (.iinc 4 1, 3) := by decide +kernel
theorem dX4_reachParts_70 : decode cX4_reachParts 70 = .ok (.goto (-65), 3) := by decide +kernel
theorem dX4_reachParts_73 : decode cX4_reachParts 73 = .ok (.iload_n 3, 1) := by decide +kernel
theorem dX4_reachParts_74 : decode cX4_reachParts 74 = .ok (.ireturn, 1) := by decide +kernel
set_option maxRecDepth 20000 in
theorem ggX4_partHolding_X2_holding : GoodIn wsX4_partHolding wsX2_holding := goodIn_r _ [7, 8, 9, 10, 37, 38, 39, 40, 41, 42] (by decide +kernel) (by decide +kernel)
set_option maxRecDepth 20000 in
theorem gX4_partHolding_X2_holding_u196X2 : GoodIn wsX4_partHolding (va_wsU RX4 196 RX2 "Dimfacts$FactStore" ⟨"Dimfacts$FactStore", "holding", "(II)LDimfacts$Fact;"⟩ yX2_holding wsX2_holding) := goodIn_app (goodIn_of _ (by decide +kernel)) ggX4_partHolding_X2_holding
set_option maxRecDepth 20000 in
theorem ggX4_partHolding_X3_holding : GoodIn wsX4_partHolding wsX3_holding := goodIn_r _ [14, 15, 16, 17, 18, 19, 20, 21, 22, 23, 24, 25, 43, 44, 38, 39, 40, 41, 42] (by decide +kernel) (by decide +kernel)
set_option maxRecDepth 20000 in
theorem gX4_partHolding_X3_holding_u196X3 : GoodIn wsX4_partHolding (va_wsU RX4 196 RX3 "Dimfacts$FactStore" ⟨"Dimfacts$FactStore", "holding", "(II)LDimfacts$Fact;"⟩ yX3_holding wsX3_holding) := goodIn_app (goodIn_of _ (by decide +kernel)) ggX4_partHolding_X3_holding
theorem dX4_partHolding_0 : decode cX4_partHolding 0 = .ok (.aload_n 0, 1) := by decide +kernel
theorem dX4_partHolding_1 : decode cX4_partHolding 1 = .ok (.getfield 9, 3) := by decide +kernel
theorem dX4_partHolding_4 : decode cX4_partHolding 4 = .ok (.iload_n 3, 1) := by decide +kernel
theorem dX4_partHolding_5 : decode cX4_partHolding 5 = .ok (.iaload, 1) := by decide +kernel
theorem dX4_partHolding_6 : decode cX4_partHolding 6 = .ok (.iload_n 2, 1) := by decide +kernel
theorem dX4_partHolding_7 : decode cX4_partHolding 7 = .ok (.if_icmp .ne 14, 3) := by decide +kernel
theorem dX4_partHolding_10 : decode cX4_partHolding 10 = .ok (.aload_n 1, 1) := by decide +kernel
theorem dX4_partHolding_11 : decode cX4_partHolding 11 = .ok (.iload 4, 2) := by decide +kernel
theorem dX4_partHolding_13 : decode cX4_partHolding 13 = .ok (.iload 5, 2) := by decide +kernel
theorem dX4_partHolding_15 : decode cX4_partHolding 15 = .ok (.invokevirtual 196, 3) := by decide +kernel
theorem dX4_partHolding_18 : decode cX4_partHolding 18 = .ok (.goto 4, 3) := by decide +kernel
theorem dX4_partHolding_21 : decode cX4_partHolding 21 = .ok (.aconst_null, 1) := by decide +kernel
theorem dX4_partHolding_22 : decode cX4_partHolding 22 = .ok (.areturn, 1) := by decide +kernel
set_option maxRecDepth 20000 in
theorem ggX4_sumFails_X4_keyOf : GoodIn wsX4_sumFails wsX4_keyOf := goodIn_r _ [8] (by decide +kernel) (by decide +kernel)
set_option maxRecDepth 20000 in
theorem gX4_sumFails_X4_keyOf : GoodIn wsX4_sumFails (va_wsS RX4 96 yX4_keyOf wsX4_keyOf) := goodIn_app (goodIn_of _ (by decide +kernel)) ggX4_sumFails_X4_keyOf
set_option maxRecDepth 20000 in
theorem ggX4_sumFails_X2_holding : GoodIn wsX4_sumFails wsX2_holding := goodIn_r _ [14, 15, 16, 17, 61, 45, 46, 47, 48, 49] (by decide +kernel) (by decide +kernel)
set_option maxRecDepth 20000 in
theorem gX4_sumFails_X2_holding_u196X2 : GoodIn wsX4_sumFails (va_wsU RX4 196 RX2 "Dimfacts$FactStore" ⟨"Dimfacts$FactStore", "holding", "(II)LDimfacts$Fact;"⟩ yX2_holding wsX2_holding) := goodIn_app (goodIn_of _ (by decide +kernel)) ggX4_sumFails_X2_holding
set_option maxRecDepth 20000 in
theorem ggX4_sumFails_X3_holding : GoodIn wsX4_sumFails wsX3_holding := goodIn_r _ [21, 22, 23, 24, 25, 26, 27, 28, 29, 30, 31, 32, 62, 63, 45, 46, 47, 48, 49] (by decide +kernel) (by decide +kernel)
set_option maxRecDepth 20000 in
theorem gX4_sumFails_X3_holding_u196X3 : GoodIn wsX4_sumFails (va_wsU RX4 196 RX3 "Dimfacts$FactStore" ⟨"Dimfacts$FactStore", "holding", "(II)LDimfacts$Fact;"⟩ yX3_holding wsX3_holding) := goodIn_app (goodIn_of _ (by decide +kernel)) ggX4_sumFails_X3_holding
set_option maxRecDepth 20000 in
theorem ggX4_sumFails_X4_partHolding : GoodIn wsX4_sumFails wsX4_partHolding := goodIn_r _ [36, 37, 9, 10, 11, 12, 13, 14, 15, 16, 17, 18, 19, 20, 21, 22, 23, 24, 25, 26, 27, 28, 29, 30, 31, 32, 50, 51, 52, 53, 54, 55, 56, 57, 58, 59, 60, 61, 45, 46, 47, 48, 49, 62, 63] (by decide +kernel) (by decide +kernel)
set_option maxRecDepth 20000 in
theorem gX4_sumFails_X4_partHolding : GoodIn wsX4_sumFails (wsV RX4 141 RX4 yX4_partHolding wsX4_partHolding) := goodIn_app (goodIn_of _ (by decide +kernel)) ggX4_sumFails_X4_partHolding
set_option maxRecDepth 20000 in
theorem ggX4_sumFails_X4_isApart : GoodIn wsX4_sumFails wsX4_isApart := goodIn_r _ [40, 41, 42, 43, 44] (by decide +kernel) (by decide +kernel)
set_option maxRecDepth 20000 in
theorem gX4_sumFails_X4_isApart : GoodIn wsX4_sumFails (va_wsS RX4 199 yX4_isApart wsX4_isApart) := goodIn_app (goodIn_of _ (by decide +kernel)) ggX4_sumFails_X4_isApart
theorem dX4_sumFails_0 : decode cX4_sumFails 0 = .ok (.aload_n 1, 1) := by decide +kernel
theorem dX4_sumFails_1 : decode cX4_sumFails 1 = .ok (.iload_n 2, 1) := by decide +kernel
theorem dX4_sumFails_2 : decode cX4_sumFails 2 = .ok (.iload_n 3, 1) := by decide +kernel
theorem dX4_sumFails_3 : decode cX4_sumFails 3 = .ok (.iload 4, 2) := by decide +kernel
theorem dX4_sumFails_5 : decode cX4_sumFails 5 = .ok (.invokestatic 96, 3) := by decide +kernel
theorem dX4_sumFails_8 : decode cX4_sumFails 8 = .ok (.iload 5, 2) := by decide +kernel
theorem dX4_sumFails_10 : decode cX4_sumFails 10 = .ok (.invokevirtual 196, 3) := by decide +kernel
theorem dX4_sumFails_13 : decode cX4_sumFails 13 = .ok (.astore 6, 2) := by decide +kernel
theorem dX4_sumFails_15 : decode cX4_sumFails 15 = .ok (.aload 6, 2) := by decide +kernel
theorem dX4_sumFails_17 : decode cX4_sumFails 17 = .ok (.ifnonnull 5, 3) := by decide +kernel
theorem dX4_sumFails_20 : decode cX4_sumFails 20 = .ok (.iconst 0, 1) := by decide +kernel
theorem dX4_sumFails_21 : decode cX4_sumFails 21 = .ok (.ireturn, 1) := by decide +kernel
theorem dX4_sumFails_22 : decode cX4_sumFails 22 = .ok (.iconst 0, 1) := by decide +kernel
theorem dX4_sumFails_23 : decode cX4_sumFails 23 = .ok (.istore 7, 2) := by decide +kernel
theorem dX4_sumFails_25 : decode cX4_sumFails 25 = .ok (.aload 6, 2) := by decide +kernel
theorem dX4_sumFails_27 : decode cX4_sumFails 27 = .ok (.getfield 138, 3) := by decide +kernel
theorem dX4_sumFails_30 : decode cX4_sumFails 30 = .ok (.istore 8, 2) := by decide +kernel
theorem dX4_sumFails_32 : decode cX4_sumFails 32 = .ok (.iconst 0, 1) := by decide +kernel
theorem dX4_sumFails_33 : decode cX4_sumFails 33 = .ok (.istore 9, 2) := by decide +kernel
theorem dX4_sumFails_35 : decode cX4_sumFails 35 = .ok (.iconst 0, 1) := by decide +kernel
theorem dX4_sumFails_36 : decode cX4_sumFails 36 = .ok (.istore 10, 2) := by decide +kernel
theorem dX4_sumFails_38 : decode cX4_sumFails 38 = .ok (.iload 10, 2) := by decide +kernel
theorem dX4_sumFails_40 : decode cX4_sumFails 40 = .ok (.aload_n 0, 1) := by decide +kernel
theorem dX4_sumFails_41 : decode cX4_sumFails 41 = .ok (.getfield 42, 3) := by decide +kernel
theorem dX4_sumFails_44 : decode cX4_sumFails 44 = .ok (.if_icmp .ge 65, 3) := by decide +kernel
theorem dX4_sumFails_47 : decode cX4_sumFails 47 = .ok (.aload_n 0, 1) := by decide +kernel
theorem dX4_sumFails_48 : decode cX4_sumFails 48 = .ok (.aload_n 1, 1) := by decide +kernel
theorem dX4_sumFails_49 : decode cX4_sumFails 49 = .ok (.iload_n 2, 1) := by decide +kernel
theorem dX4_sumFails_50 : decode cX4_sumFails 50 = .ok (.iload 10, 2) := by decide +kernel
theorem dX4_sumFails_52 : decode cX4_sumFails 52 = .ok (.iload 10, 2) := by decide +kernel
theorem dX4_sumFails_54 : decode cX4_sumFails 54 = .ok (.iload_n 3, 1) := by decide +kernel
theorem dX4_sumFails_55 : decode cX4_sumFails 55 = .ok (.iload 4, 2) := by decide +kernel
theorem dX4_sumFails_57 : decode cX4_sumFails 57 = .ok (.invokestatic 96, 3) := by decide +kernel
theorem dX4_sumFails_60 : decode cX4_sumFails 60 = .ok (.iload 5, 2) := by decide +kernel
theorem dX4_sumFails_62 : decode cX4_sumFails 62 = .ok (.invokevirtual 141, 3) := by decide +kernel
theorem dX4_sumFails_65 : decode cX4_sumFails 65 = .ok (.astore 11, 2) := by decide +kernel
theorem dX4_sumFails_67 : decode cX4_sumFails 67 = .ok (.aload 11, 2) := by decide +kernel
theorem dX4_sumFails_69 : decode cX4_sumFails 69 = .ok (.ifnull 34, 3) := by decide +kernel
theorem dX4_sumFails_72 : decode cX4_sumFails 72 = .ok (.iload 7, 2) := by decide +kernel
theorem dX4_sumFails_74 : decode cX4_sumFails 74 = .ok (.aload_n 0, 1) := by decide +kernel
theorem dX4_sumFails_75 : decode cX4_sumFails 75 = .ok (.getfield 13, 3) := by decide +kernel
theorem dX4_sumFails_78 : decode cX4_sumFails 78 = .ok (.iload 10, 2) := by decide +kernel
theorem dX4_sumFails_80 : decode cX4_sumFails 80 = .ok (.iaload, 1) := by decide +kernel
theorem dX4_sumFails_81 : decode cX4_sumFails 81 = .ok (.aload 11, 2) := by decide +kernel
theorem dX4_sumFails_83 : decode cX4_sumFails 83 = .ok (.getfield 135, 3) := by decide +kernel
theorem dX4_sumFails_86 : decode cX4_sumFails 86 = .ok (.imul, 1) := by decide +kernel
theorem dX4_sumFails_87 : decode cX4_sumFails 87 = .ok (.iadd, 1) := by decide +kernel
theorem dX4_sumFails_88 : decode cX4_sumFails 88 = .ok (.istore 7, 2) := by decide +kernel
theorem dX4_sumFails_90 : decode cX4_sumFails 90 = .ok (.iload 8, 2) := by decide +kernel
theorem dX4_sumFails_92 : decode cX4_sumFails 92 = .ok (.aload 11, 2) := by decide +kernel
theorem dX4_sumFails_94 : decode cX4_sumFails 94 = .ok (.getfield 138, 3) := by decide +kernel
theorem dX4_sumFails_97 : decode cX4_sumFails 97 = .ok (.iadd, 1) := by decide +kernel
theorem dX4_sumFails_98 : decode cX4_sumFails 98 = .ok (.istore 8, 2) := by decide +kernel
theorem dX4_sumFails_100 : decode cX4_sumFails 100 = .ok (.iconst 1, 1) := by decide +kernel
theorem dX4_sumFails_101 : decode cX4_sumFails 101 = .ok (.istore 9, 2) := by decide +kernel
theorem dX4_sumFails_103 : decode cX4_sumFails 103 = .ok (.iinc 10 1, 3) := by decide +kernel
theorem dX4_sumFails_106 : decode cX4_sumFails 106 = .ok (.goto (-68), 3) := by decide +kernel
theorem dX4_sumFails_109 : decode cX4_sumFails 109 = .ok (.iload 9, 2) := by decide +kernel
theorem dX4_sumFails_111 : decode cX4_sumFails 111 = .ok (.ifCond .eq 22, 3) := by decide +kernel
theorem dX4_sumFails_114 : decode cX4_sumFails 114 = .ok (.aload 6, 2) := by decide +kernel
theorem dX4_sumFails_116 : decode cX4_sumFails 116 = .ok (.getfield 135, 3) := by decide +kernel
theorem dX4_sumFails_119 : decode cX4_sumFails 119 = .ok (.iload 7, 2) := by decide +kernel
theorem dX4_sumFails_121 : decode cX4_sumFails 121 = .ok (.iload 8, 2) := by decide +kernel
theorem dX4_sumFails_123 : decode cX4_sumFails 123 = .ok (.invokestatic 199, 3) := by decide +kernel
theorem dX4_sumFails_126 : decode cX4_sumFails 126 = .ok (.ifCond .eq 7, 3) := by decide +kernel
theorem dX4_sumFails_129 : decode cX4_sumFails 129 = .ok (.iconst 1, 1) := by decide +kernel
theorem dX4_sumFails_130 : decode cX4_sumFails 130 = .ok (.goto 4, 3) := by decide +kernel
theorem dX4_sumFails_133 : decode cX4_sumFails 133 = .ok (.iconst 0, 1) := by decide +kernel
theorem dX4_sumFails_134 : decode cX4_sumFails 134 = .ok (.ireturn, 1) := by decide +kernel
set_option maxRecDepth 20000 in
theorem ggX4_membersFail_X4_keyOf : GoodIn wsX4_membersFail wsX4_keyOf := goodIn_r _ [6] (by decide +kernel) (by decide +kernel)
set_option maxRecDepth 20000 in
theorem gX4_membersFail_X4_keyOf : GoodIn wsX4_membersFail (va_wsS RX4 96 yX4_keyOf wsX4_keyOf) := goodIn_app (goodIn_of _ (by decide +kernel)) ggX4_membersFail_X4_keyOf
set_option maxRecDepth 20000 in
theorem ggX4_membersFail_X2_holding : GoodIn wsX4_membersFail wsX2_holding := goodIn_r _ [12, 13, 14, 15, 43, 38, 39, 40, 41, 42] (by decide +kernel) (by decide +kernel)
set_option maxRecDepth 20000 in
theorem gX4_membersFail_X2_holding_u196X2 : GoodIn wsX4_membersFail (va_wsU RX4 196 RX2 "Dimfacts$FactStore" ⟨"Dimfacts$FactStore", "holding", "(II)LDimfacts$Fact;"⟩ yX2_holding wsX2_holding) := goodIn_app (goodIn_of _ (by decide +kernel)) ggX4_membersFail_X2_holding
set_option maxRecDepth 20000 in
theorem ggX4_membersFail_X3_holding : GoodIn wsX4_membersFail wsX3_holding := goodIn_r _ [19, 20, 21, 22, 23, 24, 25, 26, 27, 28, 29, 30, 44, 45, 38, 39, 40, 41, 42] (by decide +kernel) (by decide +kernel)
set_option maxRecDepth 20000 in
theorem gX4_membersFail_X3_holding_u196X3 : GoodIn wsX4_membersFail (va_wsU RX4 196 RX3 "Dimfacts$FactStore" ⟨"Dimfacts$FactStore", "holding", "(II)LDimfacts$Fact;"⟩ yX3_holding wsX3_holding) := goodIn_app (goodIn_of _ (by decide +kernel)) ggX4_membersFail_X3_holding
set_option maxRecDepth 20000 in
theorem ggX4_membersFail_X4_isApart : GoodIn wsX4_membersFail wsX4_isApart := goodIn_r _ [33, 34, 35, 36, 37] (by decide +kernel) (by decide +kernel)
set_option maxRecDepth 20000 in
theorem gX4_membersFail_X4_isApart : GoodIn wsX4_membersFail (va_wsS RX4 199 yX4_isApart wsX4_isApart) := goodIn_app (goodIn_of _ (by decide +kernel)) ggX4_membersFail_X4_isApart
theorem dX4_membersFail_0 : decode cX4_membersFail 0 = .ok (.aload_n 0, 1) := by decide +kernel
theorem dX4_membersFail_1 : decode cX4_membersFail 1 = .ok (.iload_n 1, 1) := by decide +kernel
theorem dX4_membersFail_2 : decode cX4_membersFail 2 = .ok (.iload_n 2, 1) := by decide +kernel
theorem dX4_membersFail_3 : decode cX4_membersFail 3 = .ok (.iconst 0, 1) := by decide +kernel
theorem dX4_membersFail_4 : decode cX4_membersFail 4 = .ok (.invokestatic 96, 3) := by decide +kernel
theorem dX4_membersFail_7 : decode cX4_membersFail 7 = .ok (.iload_n 3, 1) := by decide +kernel
theorem dX4_membersFail_8 : decode cX4_membersFail 8 = .ok (.invokevirtual 196, 3) := by decide +kernel
theorem dX4_membersFail_11 : decode cX4_membersFail 11 = .ok (.astore 4, 2) := by decide +kernel
theorem dX4_membersFail_13 : decode cX4_membersFail 13 = .ok (.aload 4, 2) := by decide +kernel
theorem dX4_membersFail_15 : decode cX4_membersFail 15 = .ok (.ifnonnull 5, 3) := by decide +kernel
theorem dX4_membersFail_18 : decode cX4_membersFail 18 = .ok (.iconst 0, 1) := by decide +kernel
theorem dX4_membersFail_19 : decode cX4_membersFail 19 = .ok (.ireturn, 1) := by decide +kernel
theorem dX4_membersFail_20 : decode cX4_membersFail 20 = .ok (.iconst 0, 1) := by decide +kernel
theorem dX4_membersFail_21 : decode cX4_membersFail 21 = .ok (.istore 5, 2) := by decide +kernel
theorem dX4_membersFail_23 : decode cX4_membersFail 23 = .ok (.aload 4, 2) := by decide +kernel
theorem dX4_membersFail_25 : decode cX4_membersFail 25 = .ok (.getfield 138, 3) := by decide +kernel
theorem dX4_membersFail_28 : decode cX4_membersFail 28 = .ok (.istore 6, 2) := by decide +kernel
theorem dX4_membersFail_30 : decode cX4_membersFail 30 = .ok (.iconst 1, 1) := by decide +kernel
theorem dX4_membersFail_31 : decode cX4_membersFail 31 = .ok (.istore 7, 2) := by decide +kernel
theorem dX4_membersFail_33 : decode cX4_membersFail 33 = .ok (.iload 7, 2) := by decide +kernel
theorem dX4_membersFail_35 : decode cX4_membersFail 35 = .ok (.iconst 4, 1) := by decide +kernel
theorem dX4_membersFail_36 : decode cX4_membersFail 36 = .ok (.if_icmp .ge 50, 3) := by decide +kernel
theorem dX4_membersFail_39 : decode cX4_membersFail 39 = .ok (.aload_n 0, 1) := by decide +kernel
theorem dX4_membersFail_40 : decode cX4_membersFail 40 = .ok (.iload_n 1, 1) := by decide +kernel
theorem dX4_membersFail_41 : decode cX4_membersFail 41 = .ok (.iload_n 2, 1) := by decide +kernel
theorem dX4_membersFail_42 : decode cX4_membersFail 42 = .ok (.iload 7, 2) := by decide +kernel
theorem dX4_membersFail_44 : decode cX4_membersFail 44 = .ok (.invokestatic 96, 3) := by decide +kernel
theorem dX4_membersFail_47 : decode cX4_membersFail 47 = .ok (.iload_n 3, 1) := by decide +kernel
theorem dX4_membersFail_48 : decode cX4_membersFail 48 = .ok (.invokevirtual 196, 3) := by decide +kernel
theorem dX4_membersFail_51 : decode cX4_membersFail 51 = .ok (.astore 8, 2) := by decide +kernel
theorem dX4_membersFail_53 : decode cX4_membersFail 53 = .ok (.aload 8, 2) := by decide +kernel
theorem dX4_membersFail_55 : decode cX4_membersFail 55 = .ok (.ifnonnull 5, 3) := by decide +kernel
theorem dX4_membersFail_58 : decode cX4_membersFail 58 = .ok (.iconst 0, 1) := by decide +kernel
theorem dX4_membersFail_59 : decode cX4_membersFail 59 = .ok (.ireturn, 1) := by decide +kernel
theorem dX4_membersFail_60 : decode cX4_membersFail 60 = .ok (.iload 5, 2) := by decide +kernel
theorem dX4_membersFail_62 : decode cX4_membersFail 62 = .ok (.aload 8, 2) := by decide +kernel
theorem dX4_membersFail_64 : decode cX4_membersFail 64 = .ok (.getfield 135, 3) := by decide +kernel
theorem dX4_membersFail_67 : decode cX4_membersFail 67 = .ok (.iadd, 1) := by decide +kernel
theorem dX4_membersFail_68 : decode cX4_membersFail 68 = .ok (.istore 5, 2) := by decide +kernel
theorem dX4_membersFail_70 : decode cX4_membersFail 70 = .ok (.iload 6, 2) := by decide +kernel
theorem dX4_membersFail_72 : decode cX4_membersFail 72 = .ok (.aload 8, 2) := by decide +kernel
theorem dX4_membersFail_74 : decode cX4_membersFail 74 = .ok (.getfield 138, 3) := by decide +kernel
theorem dX4_membersFail_77 : decode cX4_membersFail 77 = .ok (.iadd, 1) := by decide +kernel
theorem dX4_membersFail_78 : decode cX4_membersFail 78 = .ok (.istore 6, 2) := by decide +kernel
theorem dX4_membersFail_80 : decode cX4_membersFail 80 = .ok (.iinc 7 1, 3) := by decide +kernel
theorem dX4_membersFail_83 : decode cX4_membersFail 83 = .ok (.goto (-50), 3) := by decide +kernel
theorem dX4_membersFail_86 : decode cX4_membersFail 86 = .ok (.aload 4, 2) := by decide +kernel
theorem dX4_membersFail_88 : decode cX4_membersFail 88 = .ok (.getfield 135, 3) := by decide +kernel
theorem dX4_membersFail_91 : decode cX4_membersFail 91 = .ok (.iload 5, 2) := by decide +kernel
theorem dX4_membersFail_93 : decode cX4_membersFail 93 = .ok (.iload 6, 2) := by decide +kernel
theorem dX4_membersFail_95 : decode cX4_membersFail 95 = .ok (.invokestatic 199, 3) := by decide +kernel
theorem dX4_membersFail_98 : decode cX4_membersFail 98 = .ok (.ireturn, 1) := by decide +kernel
set_option maxRecDepth 20000 in
theorem ggX4_rollFails_X4_keyOf : GoodIn wsX4_rollFails wsX4_keyOf := goodIn_r _ [8] (by decide +kernel) (by decide +kernel)
set_option maxRecDepth 20000 in
theorem gX4_rollFails_X4_keyOf : GoodIn wsX4_rollFails (va_wsS RX4 96 yX4_keyOf wsX4_keyOf) := goodIn_app (goodIn_of _ (by decide +kernel)) ggX4_rollFails_X4_keyOf
set_option maxRecDepth 20000 in
theorem ggX4_rollFails_X2_holding : GoodIn wsX4_rollFails wsX2_holding := goodIn_r _ [14, 15, 16, 17, 56, 51, 52, 53, 54, 55] (by decide +kernel) (by decide +kernel)
set_option maxRecDepth 20000 in
theorem gX4_rollFails_X2_holding_u196X2 : GoodIn wsX4_rollFails (va_wsU RX4 196 RX2 "Dimfacts$FactStore" ⟨"Dimfacts$FactStore", "holding", "(II)LDimfacts$Fact;"⟩ yX2_holding wsX2_holding) := goodIn_app (goodIn_of _ (by decide +kernel)) ggX4_rollFails_X2_holding
set_option maxRecDepth 20000 in
theorem ggX4_rollFails_X3_holding : GoodIn wsX4_rollFails wsX3_holding := goodIn_r _ [21, 22, 23, 24, 25, 26, 27, 28, 29, 30, 31, 32, 57, 58, 51, 52, 53, 54, 55] (by decide +kernel) (by decide +kernel)
set_option maxRecDepth 20000 in
theorem gX4_rollFails_X3_holding_u196X3 : GoodIn wsX4_rollFails (va_wsU RX4 196 RX3 "Dimfacts$FactStore" ⟨"Dimfacts$FactStore", "holding", "(II)LDimfacts$Fact;"⟩ yX3_holding wsX3_holding) := goodIn_app (goodIn_of _ (by decide +kernel)) ggX4_rollFails_X3_holding
set_option maxRecDepth 20000 in
theorem ggX4_rollFails_X4_isApart : GoodIn wsX4_rollFails wsX4_isApart := goodIn_r _ [35, 36, 37, 38, 39] (by decide +kernel) (by decide +kernel)
set_option maxRecDepth 20000 in
theorem gX4_rollFails_X4_isApart : GoodIn wsX4_rollFails (va_wsS RX4 199 yX4_isApart wsX4_isApart) := goodIn_app (goodIn_of _ (by decide +kernel)) ggX4_rollFails_X4_isApart
theorem dX4_rollFails_0 : decode cX4_rollFails 0 = .ok (.iload_n 3, 1) := by decide +kernel
theorem dX4_rollFails_1 : decode cX4_rollFails 1 = .ok (.ifCond .ne 5, 3) := by decide +kernel
theorem dX4_rollFails_4 : decode cX4_rollFails 4 = .ok (.iconst 0, 1) := by decide +kernel
theorem dX4_rollFails_5 : decode cX4_rollFails 5 = .ok (.ireturn, 1) := by decide +kernel
theorem dX4_rollFails_6 : decode cX4_rollFails 6 = .ok (.aload_n 1, 1) := by decide +kernel
theorem dX4_rollFails_7 : decode cX4_rollFails 7 = .ok (.aload_n 0, 1) := by decide +kernel
theorem dX4_rollFails_8 : decode cX4_rollFails 8 = .ok (.getfield 16, 3) := by decide +kernel
theorem dX4_rollFails_11 : decode cX4_rollFails 11 = .ok (.iload_n 2, 1) := by decide +kernel
theorem dX4_rollFails_12 : decode cX4_rollFails 12 = .ok (.iaload, 1) := by decide +kernel
theorem dX4_rollFails_13 : decode cX4_rollFails 13 = .ok (.iload_n 3, 1) := by decide +kernel
theorem dX4_rollFails_14 : decode cX4_rollFails 14 = .ok (.iload 4, 2) := by decide +kernel
theorem dX4_rollFails_16 : decode cX4_rollFails 16 = .ok (.invokestatic 96, 3) := by decide +kernel
theorem dX4_rollFails_19 : decode cX4_rollFails 19 = .ok (.iload 5, 2) := by decide +kernel
theorem dX4_rollFails_21 : decode cX4_rollFails 21 = .ok (.invokevirtual 196, 3) := by decide +kernel
theorem dX4_rollFails_24 : decode cX4_rollFails 24 = .ok (.astore 6, 2) := by decide +kernel
theorem dX4_rollFails_26 : decode cX4_rollFails 26 = .ok (.aload_n 1, 1) := by decide +kernel
theorem dX4_rollFails_27 : decode cX4_rollFails 27 = .ok (.aload_n 0, 1) := by decide +kernel
theorem dX4_rollFails_28 : decode cX4_rollFails 28 = .ok (.getfield 16, 3) := by decide +kernel
theorem dX4_rollFails_31 : decode cX4_rollFails 31 = .ok (.iload_n 2, 1) := by decide +kernel
theorem dX4_rollFails_32 : decode cX4_rollFails 32 = .ok (.iaload, 1) := by decide +kernel
theorem dX4_rollFails_33 : decode cX4_rollFails 33 = .ok (.iload_n 3, 1) := by decide +kernel
theorem dX4_rollFails_34 : decode cX4_rollFails 34 = .ok (.iconst 1, 1) := by decide +kernel
theorem dX4_rollFails_35 : decode cX4_rollFails 35 = .ok (.isub, 1) := by decide +kernel
theorem dX4_rollFails_36 : decode cX4_rollFails 36 = .ok (.iload 4, 2) := by decide +kernel
theorem dX4_rollFails_38 : decode cX4_rollFails 38 = .ok (.invokestatic 96, 3) := by decide +kernel
theorem dX4_rollFails_41 : decode cX4_rollFails 41 = .ok (.iload 5, 2) := by decide +kernel
theorem dX4_rollFails_43 : decode cX4_rollFails 43 = .ok (.invokevirtual 196, 3) := by decide +kernel
theorem dX4_rollFails_46 : decode cX4_rollFails 46 = .ok (.astore 7, 2) := by decide +kernel
theorem dX4_rollFails_48 : decode cX4_rollFails 48 = .ok (.aload_n 1, 1) := by decide +kernel
theorem dX4_rollFails_49 : decode cX4_rollFails 49 = .ok (.aload_n 0, 1) := by decide +kernel
theorem dX4_rollFails_50 : decode cX4_rollFails 50 = .ok (.getfield 19, 3) := by decide +kernel
theorem dX4_rollFails_53 : decode cX4_rollFails 53 = .ok (.iload_n 2, 1) := by decide +kernel
theorem dX4_rollFails_54 : decode cX4_rollFails 54 = .ok (.iaload, 1) := by decide +kernel
theorem dX4_rollFails_55 : decode cX4_rollFails 55 = .ok (.iload_n 3, 1) := by decide +kernel
theorem dX4_rollFails_56 : decode cX4_rollFails 56 = .ok (.iload 4, 2) := by decide +kernel
theorem dX4_rollFails_58 : decode cX4_rollFails 58 = .ok (.invokestatic 96, 3) := by decide +kernel
theorem dX4_rollFails_61 : decode cX4_rollFails 61 = .ok (.iload 5, 2) := by decide +kernel
theorem dX4_rollFails_63 : decode cX4_rollFails 63 = .ok (.invokevirtual 196, 3) := by decide +kernel
theorem dX4_rollFails_66 : decode cX4_rollFails 66 = .ok (.astore 8, 2) := by decide +kernel
theorem dX4_rollFails_68 : decode cX4_rollFails 68 = .ok (.aload 6, 2) := by decide +kernel
theorem dX4_rollFails_70 : decode cX4_rollFails 70 = .ok (.ifnull 13, 3) := by decide +kernel
theorem dX4_rollFails_73 : decode cX4_rollFails 73 = .ok (.aload 7, 2) := by decide +kernel
theorem dX4_rollFails_75 : decode cX4_rollFails 75 = .ok (.ifnull 8, 3) := by decide +kernel
theorem dX4_rollFails_78 : decode cX4_rollFails 78 = .ok (.aload 8, 2) := by decide +kernel
theorem dX4_rollFails_80 : decode cX4_rollFails 80 = .ok (.ifnonnull 5, 3) := by decide +kernel
theorem dX4_rollFails_83 : decode cX4_rollFails 83 = .ok (.iconst 0, 1) := by decide +kernel
theorem dX4_rollFails_84 : decode cX4_rollFails 84 = .ok (.ireturn, 1) := by decide +kernel
theorem dX4_rollFails_85 : decode cX4_rollFails 85 = .ok (.aload 6, 2) := by decide +kernel
theorem dX4_rollFails_87 : decode cX4_rollFails 87 = .ok (.getfield 135, 3) := by decide +kernel
theorem dX4_rollFails_90 : decode cX4_rollFails 90 = .ok (.aload 7, 2) := by decide +kernel
theorem dX4_rollFails_92 : decode cX4_rollFails 92 = .ok (.getfield 135, 3) := by decide +kernel
theorem dX4_rollFails_95 : decode cX4_rollFails 95 = .ok (.aload 8, 2) := by decide +kernel
theorem dX4_rollFails_97 : decode cX4_rollFails 97 = .ok (.getfield 135, 3) := by decide +kernel
theorem dX4_rollFails_100 : decode cX4_rollFails 100 = .ok (.iadd, 1) := by decide +kernel
theorem dX4_rollFails_101 : decode cX4_rollFails 101 = .ok (.aload 6, 2) := by decide +kernel
theorem dX4_rollFails_103 : decode cX4_rollFails 103 = .ok (.getfield 138, 3) := by decide +kernel
theorem dX4_rollFails_106 : decode cX4_rollFails 106 = .ok (.aload 7, 2) := by decide +kernel
theorem dX4_rollFails_108 : decode cX4_rollFails 108 = .ok (.getfield 138, 3) := by decide +kernel
theorem dX4_rollFails_111 : decode cX4_rollFails 111 = .ok (.iadd, 1) := by decide +kernel
theorem dX4_rollFails_112 : decode cX4_rollFails 112 = .ok (.aload 8, 2) := by decide +kernel
theorem dX4_rollFails_114 : decode cX4_rollFails 114 = .ok (.getfield 138, 3) := by decide +kernel
theorem dX4_rollFails_117 : decode cX4_rollFails 117 = .ok (.iadd, 1) := by decide +kernel
theorem dX4_rollFails_118 : decode cX4_rollFails 118 = .ok (.invokestatic 199, 3) := by decide +kernel
theorem dX4_rollFails_121 : decode cX4_rollFails 121 = .ok (.ireturn, 1) := by decide +kernel
set_option maxRecDepth 20000 in
theorem ggX4_faultsAt_X4_sumFails : GoodIn wsX4_faultsAt wsX4_sumFails := goodIn_r _ [7, 8, 9, 10, 11, 12, 13, 6, 14, 15, 16, 17, 18, 19, 20, 21, 22, 23, 24, 25, 26, 27, 28, 29, 30, 31, 32, 33, 34, 35, 36, 37, 38, 39, 40, 41, 42, 43, 44, 45, 46, 47, 48, 49, 50, 70, 71, 72, 73, 74, 59, 60, 61, 62, 63, 64, 65, 66, 67, 68, 69, 75, 76, 77] (by decide +kernel) (by decide +kernel)
set_option maxRecDepth 20000 in
theorem gX4_faultsAt_X4_sumFails : GoodIn wsX4_faultsAt (wsV RX4 158 RX4 yX4_sumFails wsX4_sumFails) := goodIn_app (goodIn_of _ (by decide +kernel)) ggX4_faultsAt_X4_sumFails
set_option maxRecDepth 20000 in
theorem ggX4_faultsAt_X4_membersFail : GoodIn wsX4_faultsAt wsX4_membersFail := goodIn_r _ [53, 8, 11, 12, 13, 6, 14, 15, 16, 17, 18, 19, 20, 21, 22, 23, 24, 25, 26, 27, 28, 29, 30, 31, 32, 33, 34, 35, 36, 37, 38, 44, 45, 46, 47, 48, 49, 50, 70, 71, 72, 73, 74, 75, 76, 77] (by decide +kernel) (by decide +kernel)
set_option maxRecDepth 20000 in
theorem gX4_faultsAt_X4_membersFail : GoodIn wsX4_faultsAt (va_wsS RX4 162 yX4_membersFail wsX4_membersFail) := goodIn_app (goodIn_of _ (by decide +kernel)) ggX4_faultsAt_X4_membersFail
set_option maxRecDepth 20000 in
theorem ggX4_faultsAt_X4_rollFails : GoodIn wsX4_faultsAt wsX4_rollFails := goodIn_r _ [57, 2, 58, 11, 8, 12, 13, 6, 14, 15, 16, 17, 18, 19, 20, 21, 22, 23, 24, 25, 26, 27, 28, 29, 30, 31, 32, 33, 34, 35, 36, 37, 38, 44, 45, 46, 47, 48, 49, 50, 59, 60, 61, 62, 63, 64, 65, 66, 67, 68, 69, 70, 71, 72, 73, 74, 75, 76, 77] (by decide +kernel) (by decide +kernel)
set_option maxRecDepth 20000 in
theorem gX4_faultsAt_X4_rollFails : GoodIn wsX4_faultsAt (wsV RX4 175 RX4 yX4_rollFails wsX4_rollFails) := goodIn_app (goodIn_of _ (by decide +kernel)) ggX4_faultsAt_X4_rollFails
theorem dX4_faultsAt_0 : decode cX4_faultsAt 0 = .ok (.iload_n 2, 1) := by decide +kernel
theorem dX4_faultsAt_1 : decode cX4_faultsAt 1 = .ok (.bipush 40, 2) := by decide +kernel
theorem dX4_faultsAt_3 : decode cX4_faultsAt 3 = .ok (.idiv, 1) := by decide +kernel
theorem dX4_faultsAt_4 : decode cX4_faultsAt 4 = .ok (.istore 4, 2) := by decide +kernel
theorem dX4_faultsAt_6 : decode cX4_faultsAt 6 = .ok (.iload_n 2, 1) := by decide +kernel
theorem dX4_faultsAt_7 : decode cX4_faultsAt 7 = .ok (.iconst 4, 1) := by decide +kernel
theorem dX4_faultsAt_8 : decode cX4_faultsAt 8 = .ok (.idiv, 1) := by decide +kernel
theorem dX4_faultsAt_9 : decode cX4_faultsAt 9 = .ok (.bipush 10, 2) := by decide +kernel
theorem dX4_faultsAt_11 : decode cX4_faultsAt 11 = .ok (.irem, 1) := by decide +kernel
theorem dX4_faultsAt_12 : decode cX4_faultsAt 12 = .ok (.istore 5, 2) := by decide +kernel
theorem dX4_faultsAt_14 : decode cX4_faultsAt 14 = .ok (.iload_n 2, 1) := by decide +kernel
theorem dX4_faultsAt_15 : decode cX4_faultsAt 15 = .ok (.iconst 4, 1) := by decide +kernel
theorem dX4_faultsAt_16 : decode cX4_faultsAt 16 = .ok (.irem, 1) := by decide +kernel
theorem dX4_faultsAt_17 : decode cX4_faultsAt 17 = .ok (.istore 6, 2) := by decide +kernel
theorem dX4_faultsAt_19 : decode cX4_faultsAt 19 = .ok (.aload_n 0, 1) := by decide +kernel
theorem dX4_faultsAt_20 : decode cX4_faultsAt 20 = .ok (.aload_n 1, 1) := by decide +kernel
theorem dX4_faultsAt_21 : decode cX4_faultsAt 21 = .ok (.iload 4, 2) := by decide +kernel
theorem dX4_faultsAt_23 : decode cX4_faultsAt 23 = .ok (.iload 5, 2) := by decide +kernel
theorem dX4_faultsAt_25 : decode cX4_faultsAt 25 = .ok (.iload 6, 2) := by decide +kernel
theorem dX4_faultsAt_27 : decode cX4_faultsAt 27 = .ok (.iload_n 3, 1) := by decide +kernel
theorem dX4_faultsAt_28 : decode cX4_faultsAt 28 = .ok (.invokevirtual 158, 3) := by decide +kernel
theorem dX4_faultsAt_31 : decode cX4_faultsAt 31 = .ok (.ifCond .eq 7, 3) := by decide +kernel
theorem dX4_faultsAt_34 : decode cX4_faultsAt 34 = .ok (.iconst 1, 1) := by decide +kernel
theorem dX4_faultsAt_35 : decode cX4_faultsAt 35 = .ok (.goto 4, 3) := by decide +kernel
theorem dX4_faultsAt_38 : decode cX4_faultsAt 38 = .ok (.iconst 0, 1) := by decide +kernel
theorem dX4_faultsAt_39 : decode cX4_faultsAt 39 = .ok (.istore 7, 2) := by decide +kernel
theorem dX4_faultsAt_41 : decode cX4_faultsAt 41 = .ok (.iload 6, 2) := by decide +kernel
theorem dX4_faultsAt_43 : decode cX4_faultsAt 43 = .ok (.ifCond .ne 18, 3) := by decide +kernel
theorem dX4_faultsAt_46 : decode cX4_faultsAt 46 = .ok (.aload_n 1, 1) := by decide +kernel
theorem dX4_faultsAt_47 : decode cX4_faultsAt 47 = .ok (.iload 4, 2) := by decide +kernel
theorem dX4_faultsAt_49 : decode cX4_faultsAt 49 = .ok (.iload 5, 2) := by decide +kernel
theorem dX4_faultsAt_51 : decode cX4_faultsAt 51 = .ok (.iload_n 3, 1) := by decide +kernel
theorem dX4_faultsAt_52 : decode cX4_faultsAt 52 = .ok (.invokestatic 162, 3) := by decide +kernel
theorem dX4_faultsAt_55 : decode cX4_faultsAt 55 = .ok (.ifCond .eq 6, 3) := by decide +kernel
theorem dX4_faultsAt_58 : decode cX4_faultsAt 58 = .ok (.iinc 7 1, 3) := by decide +kernel
theorem dX4_faultsAt_61 : decode cX4_faultsAt 61 = .ok (.iconst 0, 1) := by decide +kernel
theorem dX4_faultsAt_62 : decode cX4_faultsAt 62 = .ok (.istore 8, 2) := by decide +kernel
theorem dX4_faultsAt_64 : decode cX4_faultsAt 64 = .ok (.iload 8, 2) := by decide +kernel
theorem dX4_faultsAt_66 : decode cX4_faultsAt 66 = .ok (.aload_n 0, 1) := by decide +kernel
theorem dX4_faultsAt_67 : decode cX4_faultsAt 67 = .ok (.getfield 68, 3) := by decide +kernel
theorem dX4_faultsAt_70 : decode cX4_faultsAt 70 = .ok (.if_icmp .ge 39, 3) := by decide +kernel
theorem dX4_faultsAt_73 : decode cX4_faultsAt 73 = .ok (.aload_n 0, 1) := by decide +kernel
theorem dX4_faultsAt_74 : decode cX4_faultsAt 74 = .ok (.getfield 16, 3) := by decide +kernel
theorem dX4_faultsAt_77 : decode cX4_faultsAt 77 = .ok (.iload 8, 2) := by decide +kernel
theorem dX4_faultsAt_79 : decode cX4_faultsAt 79 = .ok (.iaload, 1) := by decide +kernel
theorem dX4_faultsAt_80 : decode cX4_faultsAt 80 = .ok (.iload 4, 2) := by decide +kernel
theorem dX4_faultsAt_82 : decode cX4_faultsAt 82 = .ok (.if_icmp .ne 21, 3) := by decide +kernel
theorem dX4_faultsAt_85 : decode cX4_faultsAt 85 = .ok (.aload_n 0, 1) := by decide +kernel
theorem dX4_faultsAt_86 : decode cX4_faultsAt 86 = .ok (.aload_n 1, 1) := by decide +kernel
theorem dX4_faultsAt_87 : decode cX4_faultsAt 87 = .ok (.iload 8, 2) := by decide +kernel
theorem dX4_faultsAt_89 : decode cX4_faultsAt 89 = .ok (.iload 5, 2) := by decide +kernel
theorem dX4_faultsAt_91 : decode cX4_faultsAt 91 = .ok (.iload 6, 2) := by decide +kernel
theorem dX4_faultsAt_93 : decode cX4_faultsAt 93 = .ok (.iload_n 3, 1) := by decide +kernel
theorem dX4_faultsAt_94 : decode cX4_faultsAt 94 = .ok (.invokevirtual 175, 3) := by decide +kernel
theorem dX4_faultsAt_97 : decode cX4_faultsAt 97 = .ok (.ifCond .eq 6, 3) := by decide +kernel
theorem dX4_faultsAt_100 : decode cX4_faultsAt 100 = .ok (.iinc 7 1, 3) := by decide +kernel
theorem dX4_faultsAt_103 : decode cX4_faultsAt 103 = .ok (.iinc 8 1, 3) := by decide +kernel
theorem dX4_faultsAt_106 : decode cX4_faultsAt 106 = .ok (.goto (-42), 3) := by decide +kernel
theorem dX4_faultsAt_109 : decode cX4_faultsAt 109 = .ok (.iload 7, 2) := by decide +kernel
theorem dX4_faultsAt_111 : decode cX4_faultsAt 111 = .ok (.ireturn, 1) := by decide +kernel
theorem dX4_isApart_0 : decode cX4_isApart 0 = .ok (.iconst 2, 1) := by decide +kernel
theorem dX4_isApart_1 : decode cX4_isApart 1 = .ok (.iload_n 0, 1) := by decide +kernel
theorem dX4_isApart_2 : decode cX4_isApart 2 = .ok (.iload_n 1, 1) := by decide +kernel
theorem dX4_isApart_3 : decode cX4_isApart 3 = .ok (.isub, 1) := by decide +kernel
theorem dX4_isApart_4 : decode cX4_isApart 4 = .ok (.invokestatic 203, 3) := by decide +kernel
theorem dX4_isApart_7 : decode cX4_isApart 7 = .ok (.imul, 1) := by decide +kernel
theorem dX4_isApart_8 : decode cX4_isApart 8 = .ok (.iload_n 2, 1) := by decide +kernel
theorem dX4_isApart_9 : decode cX4_isApart 9 = .ok (.if_icmp .le 7, 3) := by decide +kernel
theorem dX4_isApart_12 : decode cX4_isApart 12 = .ok (.iconst 1, 1) := by decide +kernel
theorem dX4_isApart_13 : decode cX4_isApart 13 = .ok (.goto 4, 3) := by decide +kernel
theorem dX4_isApart_16 : decode cX4_isApart 16 = .ok (.iconst 0, 1) := by decide +kernel
theorem dX4_isApart_17 : decode cX4_isApart 17 = .ok (.ireturn, 1) := by decide +kernel
theorem dX5_init_0 : decode cX5_init 0 = .ok (.aload_n 0, 1) := by decide +kernel
theorem dX5_init_1 : decode cX5_init 1 = .ok (.invokespecial 1, 3) := by decide +kernel
theorem dX5_init_4 : decode cX5_init 4 = .ok (.aload_n 0, 1) := by decide +kernel
theorem dX5_init_5 : decode cX5_init 5 = .ok (.bipush 12, 2) := by decide +kernel
theorem dX5_init_7 : decode cX5_init 7 = .ok (.newarray .int, 2) := by decide +kernel
theorem dX5_init_9 : decode cX5_init 9 = .ok (.putfield 7, 3) := by decide +kernel
theorem dX5_init_12 : decode cX5_init 12 = .ok (.aload_n 0, 1) := by decide +kernel
theorem dX5_init_13 : decode cX5_init 13 = .ok (.bipush 12, 2) := by decide +kernel
theorem dX5_init_15 : decode cX5_init 15 = .ok (.newarray .int, 2) := by decide +kernel
theorem dX5_init_17 : decode cX5_init 17 = .ok (.putfield 13, 3) := by decide +kernel
theorem dX5_init_20 : decode cX5_init 20 = .ok (.aload_n 0, 1) := by decide +kernel
theorem dX5_init_21 : decode cX5_init 21 = .ok (.iconst 5, 1) := by decide +kernel
theorem dX5_init_22 : decode cX5_init 22 = .ok (.newarray .int, 2) := by decide +kernel
theorem dX5_init_24 : decode cX5_init 24 = .ok (.putfield 16, 3) := by decide +kernel
theorem dX5_init_27 : decode cX5_init 27 = .ok (.aload_n 0, 1) := by decide +kernel
theorem dX5_init_28 : decode cX5_init 28 = .ok (.iconst 5, 1) := by decide +kernel
theorem dX5_init_29 : decode cX5_init 29 = .ok (.newarray .int, 2) := by decide +kernel
theorem dX5_init_31 : decode cX5_init 31 = .ok (.putfield 19, 3) := by decide +kernel
theorem dX5_init_34 : decode cX5_init 34 = .ok (.aload_n 0, 1) := by decide +kernel
theorem dX5_init_35 : decode cX5_init 35 = .ok (.iconst 1, 1) := by decide +kernel
theorem dX5_init_36 : decode cX5_init 36 = .ok (.putfield 22, 3) := by decide +kernel
theorem dX5_init_39 : decode cX5_init 39 = .ok (.aload_n 0, 1) := by decide +kernel
theorem dX5_init_40 : decode cX5_init 40 = .ok (.bipush 80, 2) := by decide +kernel
theorem dX5_init_42 : decode cX5_init 42 = .ok (.newarray .int, 2) := by decide +kernel
theorem dX5_init_44 : decode cX5_init 44 = .ok (.putfield 26, 3) := by decide +kernel
theorem dX5_init_47 : decode cX5_init 47 = .ok (.aload_n 0, 1) := by decide +kernel
theorem dX5_init_48 : decode cX5_init 48 = .ok (.bipush 80, 2) := by decide +kernel
theorem dX5_init_50 : decode cX5_init 50 = .ok (.newarray .int, 2) := by decide +kernel
theorem dX5_init_52 : decode cX5_init 52 = .ok (.putfield 29, 3) := by decide +kernel
theorem dX5_init_55 : decode cX5_init 55 = .ok (.aload_n 0, 1) := by decide +kernel
theorem dX5_init_56 : decode cX5_init 56 = .ok (.bipush 80, 2) := by decide +kernel
theorem dX5_init_58 : decode cX5_init 58 = .ok (.newarray .int, 2) := by decide +kernel
theorem dX5_init_60 : decode cX5_init 60 = .ok (.putfield 32, 3) := by decide +kernel
theorem dX5_init_63 : decode cX5_init 63 = .ok (.aload_n 0, 1) := by decide +kernel
theorem dX5_init_64 : decode cX5_init 64 = .ok (.bipush 80, 2) := by decide +kernel
theorem dX5_init_66 : decode cX5_init 66 = .ok (.newarray .int, 2) := by decide +kernel
theorem dX5_init_68 : decode cX5_init 68 = .ok (.putfield 35, 3) := by decide +kernel
theorem dX5_init_71 : decode cX5_init 71 = .ok (.aload_n 0, 1) := by decide +kernel
theorem dX5_init_72 : decode cX5_init 72 = .ok (.bipush 80, 2) := by decide +kernel
theorem dX5_init_74 : decode cX5_init 74 = .ok (.newarray .int, 2) := by decide +kernel
theorem dX5_init_76 : decode cX5_init 76 = .ok (.putfield 38, 3) := by decide +kernel
theorem dX5_init_79 : decode cX5_init 79 = .ok (.aload_n 0, 1) := by decide +kernel
theorem dX5_init_80 : decode cX5_init 80 = .ok (.bipush 80, 2) := by decide +kernel
theorem dX5_init_82 : decode cX5_init 82 = .ok (.newarray .int, 2) := by decide +kernel
theorem dX5_init_84 : decode cX5_init 84 = .ok (.putfield 41, 3) := by decide +kernel
theorem dX5_init_87 : decode cX5_init 87 = .ok (.aload_n 0, 1) := by decide +kernel
theorem dX5_init_88 : decode cX5_init 88 = .ok (.bipush 12, 2) := by decide +kernel
theorem dX5_init_90 : decode cX5_init 90 = .ok (.newarray .int, 2) := by decide +kernel
theorem dX5_init_92 : decode cX5_init 92 = .ok (.putfield 44, 3) := by decide +kernel
theorem dX5_init_95 : decode cX5_init 95 = .ok (.aload_n 0, 1) := by decide +kernel
theorem dX5_init_96 : decode cX5_init 96 = .ok (.bipush 12, 2) := by decide +kernel
theorem dX5_init_98 : decode cX5_init 98 = .ok (.newarray .boolean, 2) := by decide +kernel
theorem dX5_init_100 : decode cX5_init 100 = .ok (.putfield 47, 3) := by decide +kernel
theorem dX5_init_103 : decode cX5_init 103 = .ok (.return_, 1) := by decide +kernel
theorem dX5_thrown_0 : decode cX5_thrown 0 = .ok (.aload_n 0, 1) := by decide +kernel
theorem dX5_thrown_1 : decode cX5_thrown 1 = .ok (.getfield 51, 3) := by decide +kernel
theorem dX5_thrown_4 : decode cX5_thrown 4 = .ok (.ireturn, 1) := by decide +kernel
theorem dX5_can_0 : decode cX5_can 0 = .ok (.aload_n 0, 1) := by decide +kernel
theorem dX5_can_1 : decode cX5_can 1 = .ok (.iload_n 1, 1) := by decide +kernel
theorem dX5_can_2 : decode cX5_can 2 = .ok (.putfield 51, 3) := by decide +kernel
theorem dX5_can_5 : decode cX5_can 5 = .ok (.iload_n 1, 1) := by decide +kernel
theorem dX5_can_6 : decode cX5_can 6 = .ok (.ifCond .ne 7, 3) := by decide +kernel
theorem dX5_can_9 : decode cX5_can 9 = .ok (.iconst 1, 1) := by decide +kernel
theorem dX5_can_10 : decode cX5_can 10 = .ok (.goto 4, 3) := by decide +kernel
theorem dX5_can_13 : decode cX5_can 13 = .ok (.iconst 0, 1) := by decide +kernel
theorem dX5_can_14 : decode cX5_can 14 = .ok (.ireturn, 1) := by decide +kernel
theorem dX5_isIn_0 : decode cX5_isIn 0 = .ok (.iload_n 0, 1) := by decide +kernel
theorem dX5_isIn_1 : decode cX5_isIn 1 = .ok (.iload_n 1, 1) := by decide +kernel
theorem dX5_isIn_2 : decode cX5_isIn 2 = .ok (.if_icmp .lt 12, 3) := by decide +kernel
theorem dX5_isIn_5 : decode cX5_isIn 5 = .ok (.iload_n 0, 1) := by decide +kernel
theorem dX5_isIn_6 : decode cX5_isIn 6 = .ok (.iload_n 2, 1) := by decide +kernel
theorem dX5_isIn_7 : decode cX5_isIn 7 = .ok (.if_icmp .gt 7, 3) := by decide +kernel
theorem dX5_isIn_10 : decode cX5_isIn 10 = .ok (.iconst 1, 1) := by decide +kernel
theorem dX5_isIn_11 : decode cX5_isIn 11 = .ok (.goto 4, 3) := by decide +kernel
theorem dX5_isIn_14 : decode cX5_isIn 14 = .ok (.iconst 0, 1) := by decide +kernel
theorem dX5_isIn_15 : decode cX5_isIn 15 = .ok (.ireturn, 1) := by decide +kernel
set_option maxRecDepth 20000 in
theorem ggX5_isConcept_X5_isIn : GoodIn wsX5_isConcept wsX5_isIn := goodIn_r _ [5] (by decide +kernel) (by decide +kernel)
set_option maxRecDepth 20000 in
theorem gX5_isConcept_X5_isIn : GoodIn wsX5_isConcept (va_wsS RX5 57 yX5_isIn wsX5_isIn) := goodIn_app (goodIn_of _ (by decide +kernel)) ggX5_isConcept_X5_isIn
theorem dX5_isConcept_0 : decode cX5_isConcept 0 = .ok (.iload_n 1, 1) := by decide +kernel
theorem dX5_isConcept_1 : decode cX5_isConcept 1 = .ok (.iconst 0, 1) := by decide +kernel
theorem dX5_isConcept_2 : decode cX5_isConcept 2 = .ok (.aload_n 0, 1) := by decide +kernel
theorem dX5_isConcept_3 : decode cX5_isConcept 3 = .ok (.getfield 54, 3) := by decide +kernel
theorem dX5_isConcept_6 : decode cX5_isConcept 6 = .ok (.iconst 1, 1) := by decide +kernel
theorem dX5_isConcept_7 : decode cX5_isConcept 7 = .ok (.isub, 1) := by decide +kernel
theorem dX5_isConcept_8 : decode cX5_isConcept 8 = .ok (.invokestatic 57, 3) := by decide +kernel
theorem dX5_isConcept_11 : decode cX5_isConcept 11 = .ok (.ireturn, 1) := by decide +kernel
set_option maxRecDepth 20000 in
theorem ggX5_isFiling_X5_isIn : GoodIn wsX5_isFiling wsX5_isIn := goodIn_r _ [5] (by decide +kernel) (by decide +kernel)
set_option maxRecDepth 20000 in
theorem gX5_isFiling_X5_isIn : GoodIn wsX5_isFiling (va_wsS RX5 57 yX5_isIn wsX5_isIn) := goodIn_app (goodIn_of _ (by decide +kernel)) ggX5_isFiling_X5_isIn
theorem dX5_isFiling_0 : decode cX5_isFiling 0 = .ok (.iload_n 1, 1) := by decide +kernel
theorem dX5_isFiling_1 : decode cX5_isFiling 1 = .ok (.iconst 0, 1) := by decide +kernel
theorem dX5_isFiling_2 : decode cX5_isFiling 2 = .ok (.aload_n 0, 1) := by decide +kernel
theorem dX5_isFiling_3 : decode cX5_isFiling 3 = .ok (.getfield 22, 3) := by decide +kernel
theorem dX5_isFiling_6 : decode cX5_isFiling 6 = .ok (.iconst 1, 1) := by decide +kernel
theorem dX5_isFiling_7 : decode cX5_isFiling 7 = .ok (.isub, 1) := by decide +kernel
theorem dX5_isFiling_8 : decode cX5_isFiling 8 = .ok (.invokestatic 57, 3) := by decide +kernel
theorem dX5_isFiling_11 : decode cX5_isFiling 11 = .ok (.ireturn, 1) := by decide +kernel
set_option maxRecDepth 20000 in
theorem ggX5_isKey_X5_isConcept : GoodIn wsX5_isKey wsX5_isConcept := goodIn_r _ [5, 6, 7, 8, 4, 9, 10, 11, 12, 13, 14, 15, 16, 17, 18, 19, 20, 21, 22, 23, 24, 25, 26] (by decide +kernel) (by decide +kernel)
set_option maxRecDepth 20000 in
theorem gX5_isKey_X5_isConcept : GoodIn wsX5_isKey (wsV RX5 61 RX5 yX5_isConcept wsX5_isConcept) := goodIn_app (goodIn_of _ (by decide +kernel)) ggX5_isKey_X5_isConcept
set_option maxRecDepth 20000 in
theorem ggX5_isKey_X5_isIn : GoodIn wsX5_isKey wsX5_isIn := goodIn_r _ [9] (by decide +kernel) (by decide +kernel)
set_option maxRecDepth 20000 in
theorem gX5_isKey_X5_isIn : GoodIn wsX5_isKey (va_wsS RX5 57 yX5_isIn wsX5_isIn) := goodIn_app (goodIn_of _ (by decide +kernel)) ggX5_isKey_X5_isIn
theorem dX5_isKey_0 : decode cX5_isKey 0 = .ok (.aload_n 0, 1) := by decide +kernel
theorem dX5_isKey_1 : decode cX5_isKey 1 = .ok (.iload_n 1, 1) := by decide +kernel
theorem dX5_isKey_2 : decode cX5_isKey 2 = .ok (.invokevirtual 61, 3) := by decide +kernel
theorem dX5_isKey_5 : decode cX5_isKey 5 = .ok (.ifCond .eq 26, 3) := by decide +kernel
theorem dX5_isKey_8 : decode cX5_isKey 8 = .ok (.iload_n 2, 1) := by decide +kernel
theorem dX5_isKey_9 : decode cX5_isKey 9 = .ok (.iconst 0, 1) := by decide +kernel
theorem dX5_isKey_10 : decode cX5_isKey 10 = .ok (.bipush 9, 2) := by decide +kernel
theorem dX5_isKey_12 : decode cX5_isKey 12 = .ok (.invokestatic 57, 3) := by decide +kernel
theorem dX5_isKey_15 : decode cX5_isKey 15 = .ok (.ifCond .eq 16, 3) := by decide +kernel
theorem dX5_isKey_18 : decode cX5_isKey 18 = .ok (.iload_n 3, 1) := by decide +kernel
theorem dX5_isKey_19 : decode cX5_isKey 19 = .ok (.iconst 0, 1) := by decide +kernel
theorem dX5_isKey_20 : decode cX5_isKey 20 = .ok (.iconst 3, 1) := by decide +kernel
theorem dX5_isKey_21 : decode cX5_isKey 21 = .ok (.invokestatic 57, 3) := by decide +kernel
theorem dX5_isKey_24 : decode cX5_isKey 24 = .ok (.ifCond .eq 7, 3) := by decide +kernel
theorem dX5_isKey_27 : decode cX5_isKey 27 = .ok (.iconst 1, 1) := by decide +kernel
theorem dX5_isKey_28 : decode cX5_isKey 28 = .ok (.goto 4, 3) := by decide +kernel
theorem dX5_isKey_31 : decode cX5_isKey 31 = .ok (.iconst 0, 1) := by decide +kernel
theorem dX5_isKey_32 : decode cX5_isKey 32 = .ok (.ireturn, 1) := by decide +kernel
set_option maxRecDepth 20000 in
theorem ggX5_addConcept_X5_can : GoodIn wsX5_addConcept wsX5_can := goodIn_r _ [7, 8, 9, 10, 11, 12, 13, 14, 15, 16, 17, 18, 19, 20, 21, 22, 23, 24, 25] (by decide +kernel) (by decide +kernel)
set_option maxRecDepth 20000 in
theorem gX5_addConcept_X5_can : GoodIn wsX5_addConcept (wsV RX5 65 RX5 yX5_can wsX5_can) := goodIn_app (goodIn_of _ (by decide +kernel)) ggX5_addConcept_X5_can
theorem dX5_addConcept_0 : decode cX5_addConcept 0 = .ok (.aload_n 0, 1) := by decide +kernel
theorem dX5_addConcept_1 : decode cX5_addConcept 1 = .ok (.aload_n 0, 1) := by decide +kernel
theorem dX5_addConcept_2 : decode cX5_addConcept 2 = .ok (.getfield 54, 3) := by decide +kernel
theorem dX5_addConcept_5 : decode cX5_addConcept 5 = .ok (.bipush 12, 2) := by decide +kernel
theorem dX5_addConcept_7 : decode cX5_addConcept 7 = .ok (.if_icmp .ne 7, 3) := by decide +kernel
theorem dX5_addConcept_10 : decode cX5_addConcept 10 = .ok (.iconst 1, 1) := by decide +kernel
theorem dX5_addConcept_11 : decode cX5_addConcept 11 = .ok (.goto 4, 3) := by decide +kernel
theorem dX5_addConcept_14 : decode cX5_addConcept 14 = .ok (.iconst 0, 1) := by decide +kernel
theorem dX5_addConcept_15 : decode cX5_addConcept 15 = .ok (.invokevirtual 65, 3) := by decide +kernel
theorem dX5_addConcept_18 : decode cX5_addConcept 18 = .ok (.ifCond .ne 5, 3) := by decide +kernel
theorem dX5_addConcept_21 : decode cX5_addConcept 21 = .ok (.iconst 0, 1) := by decide +kernel
theorem dX5_addConcept_22 : decode cX5_addConcept 22 = .ok (.ireturn, 1) := by decide +kernel
theorem dX5_addConcept_23 : decode cX5_addConcept 23 = .ok (.aload_n 0, 1) := by decide +kernel
theorem dX5_addConcept_24 : decode cX5_addConcept 24 = .ok (.getfield 7, 3) := by decide +kernel
theorem dX5_addConcept_27 : decode cX5_addConcept 27 = .ok (.aload_n 0, 1) := by decide +kernel
theorem dX5_addConcept_28 : decode cX5_addConcept 28 = .ok (.getfield 54, 3) := by decide +kernel
theorem dX5_addConcept_31 : decode cX5_addConcept 31 = .ok (.iconst (-1), 1) := by decide +kernel
theorem dX5_addConcept_32 : decode cX5_addConcept 32 = .ok (.iastore, 1) := by decide +kernel
theorem dX5_addConcept_33 : decode cX5_addConcept 33 = .ok (.aload_n 0, 1) := by decide +kernel
theorem dX5_addConcept_34 : decode cX5_addConcept 34 = .ok (.dup, 1) := by decide +kernel
theorem dX5_addConcept_35 : decode cX5_addConcept 35 = .ok (.getfield 54, 3) := by decide +kernel
theorem dX5_addConcept_38 : decode cX5_addConcept 38 = .ok (.iconst 1, 1) := by decide +kernel
theorem dX5_addConcept_39 : decode cX5_addConcept 39 = .ok (.iadd, 1) := by decide +kernel
theorem dX5_addConcept_40 : decode cX5_addConcept 40 = .ok (.putfield 54, 3) := by decide +kernel
theorem dX5_addConcept_43 : decode cX5_addConcept 43 = .ok (.aload_n 0, 1) := by decide +kernel
theorem dX5_addConcept_44 : decode cX5_addConcept 44 = .ok (.getfield 54, 3) := by decide +kernel
theorem dX5_addConcept_47 : decode cX5_addConcept 47 = .ok (.iconst 1, 1) := by decide +kernel
theorem dX5_addConcept_48 : decode cX5_addConcept 48 = .ok (.isub, 1) := by decide +kernel
theorem dX5_addConcept_49 : decode cX5_addConcept 49 = .ok (.ireturn, 1) := by decide +kernel
theorem dX5_isBelow_0 : decode cX5_isBelow 0 = .ok (.iload_n 1, 1) := by decide +kernel
theorem dX5_isBelow_1 : decode cX5_isBelow 1 = .ok (.istore_n 3, 1) := by decide +kernel
theorem dX5_isBelow_2 : decode cX5_isBelow 2 = .ok (.iload_n 3, 1) := by decide +kernel
theorem dX5_isBelow_3 : decode cX5_isBelow 3 = .ok (.iconst (-1), 1) := by decide +kernel
theorem dX5_isBelow_4 : decode cX5_isBelow 4 = .ok (.if_icmp .eq 18, 3) := by decide +kernel
theorem dX5_isBelow_7 : decode cX5_isBelow 7 = .ok (.iload_n 3, 1) := by decide +kernel
theorem dX5_isBelow_8 : decode cX5_isBelow 8 = .ok (.iload_n 2, 1) := by decide +kernel
theorem dX5_isBelow_9 : decode cX5_isBelow 9 = .ok (.if_icmp .eq 13, 3) := by decide +kernel
theorem dX5_isBelow_12 : decode cX5_isBelow 12 = .ok (.aload_n 0, 1) := by decide +kernel
theorem dX5_isBelow_13 : decode cX5_isBelow 13 = .ok (.getfield 7, 3) := by decide +kernel
theorem dX5_isBelow_16 : decode cX5_isBelow 16 = .ok (.iload_n 3, 1) := by decide +kernel
theorem dX5_isBelow_17 : decode cX5_isBelow 17 = .ok (.iaload, 1) := by decide +kernel
theorem dX5_isBelow_18 : decode cX5_isBelow 18 = .ok (.istore_n 3, 1) := by decide +kernel
theorem dX5_isBelow_19 : decode cX5_isBelow 19 = .ok (.goto (-17), 3) := by decide +kernel
theorem dX5_isBelow_22 : decode cX5_isBelow 22 = .ok (.iload_n 3, 1) := by decide +kernel
theorem dX5_isBelow_23 : decode cX5_isBelow 23 = .ok (.iload_n 2, 1) := by decide +kernel
theorem dX5_isBelow_24 : decode cX5_isBelow 24 = .ok (.if_icmp .ne 7, 3) := by decide +kernel
theorem dX5_isBelow_27 : decode cX5_isBelow 27 = .ok (.iconst 1, 1) := by decide +kernel
theorem dX5_isBelow_28 : decode cX5_isBelow 28 = .ok (.goto 4, 3) := by decide +kernel
theorem dX5_isBelow_31 : decode cX5_isBelow 31 = .ok (.iconst 0, 1) := by decide +kernel
theorem dX5_isBelow_32 : decode cX5_isBelow 32 = .ok (.ireturn, 1) := by decide +kernel
set_option maxRecDepth 20000 in
theorem ggX5_hang_X5_isConcept : GoodIn wsX5_hang wsX5_isConcept := goodIn_r _ [7, 8, 9, 10, 6, 11, 21, 22, 23, 24, 25, 26, 27, 28, 29, 30, 31, 32, 33, 34, 35, 36, 37] (by decide +kernel) (by decide +kernel)
set_option maxRecDepth 20000 in
theorem gX5_hang_X5_isConcept : GoodIn wsX5_hang (wsV RX5 61 RX5 yX5_isConcept wsX5_isConcept) := goodIn_app (goodIn_of _ (by decide +kernel)) ggX5_hang_X5_isConcept
set_option maxRecDepth 20000 in
theorem ggX5_hang_X5_isBelow : GoodIn wsX5_hang wsX5_isBelow := goodIn_r _ [15, 1, 21, 22, 23, 24, 25, 26, 27, 28, 29, 30, 31, 32, 33, 34, 35, 36, 37] (by decide +kernel) (by decide +kernel)
set_option maxRecDepth 20000 in
theorem gX5_hang_X5_isBelow : GoodIn wsX5_hang (wsV RX5 68 RX5 yX5_isBelow wsX5_isBelow) := goodIn_app (goodIn_of _ (by decide +kernel)) ggX5_hang_X5_isBelow
set_option maxRecDepth 20000 in
theorem ggX5_hang_X5_can : GoodIn wsX5_hang wsX5_can := goodIn_r _ [19, 20, 21, 22, 23, 24, 25, 26, 27, 28, 29, 30, 31, 32, 33, 34, 35, 36, 37] (by decide +kernel) (by decide +kernel)
set_option maxRecDepth 20000 in
theorem gX5_hang_X5_can : GoodIn wsX5_hang (wsV RX5 65 RX5 yX5_can wsX5_can) := goodIn_app (goodIn_of _ (by decide +kernel)) ggX5_hang_X5_can
theorem dX5_hang_0 : decode cX5_hang 0 = .ok (.aload_n 0, 1) := by decide +kernel
theorem dX5_hang_1 : decode cX5_hang 1 = .ok (.iload_n 1, 1) := by decide +kernel
theorem dX5_hang_2 : decode cX5_hang 2 = .ok (.invokevirtual 61, 3) := by decide +kernel
theorem dX5_hang_5 : decode cX5_hang 5 = .ok (.ifCond .eq 15, 3) := by decide +kernel
theorem dX5_hang_8 : decode cX5_hang 8 = .ok (.aload_n 0, 1) := by decide +kernel
theorem dX5_hang_9 : decode cX5_hang 9 = .ok (.iload_n 2, 1) := by decide +kernel
theorem dX5_hang_10 : decode cX5_hang 10 = .ok (.invokevirtual 61, 3) := by decide +kernel
theorem dX5_hang_13 : decode cX5_hang 13 = .ok (.ifCond .eq 7, 3) := by decide +kernel
theorem dX5_hang_16 : decode cX5_hang 16 = .ok (.iconst 1, 1) := by decide +kernel
theorem dX5_hang_17 : decode cX5_hang 17 = .ok (.goto 4, 3) := by decide +kernel
theorem dX5_hang_20 : decode cX5_hang 20 = .ok (.iconst 0, 1) := by decide +kernel
theorem dX5_hang_21 : decode cX5_hang 21 = .ok (.istore 4, 2) := by decide +kernel
theorem dX5_hang_23 : decode cX5_hang 23 = .ok (.aload_n 0, 1) := by decide +kernel
theorem dX5_hang_24 : decode cX5_hang 24 = .ok (.iload 4, 2) := by decide +kernel
theorem dX5_hang_26 : decode cX5_hang 26 = .ok (.ifCond .ne 7, 3) := by decide +kernel
theorem dX5_hang_29 : decode cX5_hang 29 = .ok (.iconst 1, 1) := by decide +kernel
theorem dX5_hang_30 : decode cX5_hang 30 = .ok (.goto 17, 3) := by decide +kernel
theorem dX5_hang_33 : decode cX5_hang 33 = .ok (.aload_n 0, 1) := by decide +kernel
theorem dX5_hang_34 : decode cX5_hang 34 = .ok (.iload_n 2, 1) := by decide +kernel
theorem dX5_hang_35 : decode cX5_hang 35 = .ok (.iload_n 1, 1) := by decide +kernel
theorem dX5_hang_36 : decode cX5_hang 36 = .ok (.invokevirtual 68, 3) := by decide +kernel
theorem dX5_hang_39 : decode cX5_hang 39 = .ok (.ifCond .eq 7, 3) := by decide +kernel
theorem dX5_hang_42 : decode cX5_hang 42 = .ok (.iconst 2, 1) := by decide +kernel
theorem dX5_hang_43 : decode cX5_hang 43 = .ok (.goto 4, 3) := by decide +kernel
theorem dX5_hang_46 : decode cX5_hang 46 = .ok (.iconst 0, 1) := by decide +kernel
theorem dX5_hang_47 : decode cX5_hang 47 = .ok (.invokevirtual 65, 3) := by decide +kernel
theorem dX5_hang_50 : decode cX5_hang 50 = .ok (.ifCond .ne 5, 3) := by decide +kernel
theorem dX5_hang_53 : decode cX5_hang 53 = .ok (.iconst 0, 1) := by decide +kernel
theorem dX5_hang_54 : decode cX5_hang 54 = .ok (.ireturn, 1) := by decide +kernel
theorem dX5_hang_55 : decode cX5_hang 55 = .ok (.aload_n 0, 1) := by decide +kernel
theorem dX5_hang_56 : decode cX5_hang 56 = .ok (.getfield 7, 3) := by decide +kernel
theorem dX5_hang_59 : decode cX5_hang 59 = .ok (.iload_n 1, 1) := by decide +kernel
theorem dX5_hang_60 : decode cX5_hang 60 = .ok (.iaload, 1) := by decide +kernel
theorem dX5_hang_61 : decode cX5_hang 61 = .ok (.istore 5, 2) := by decide +kernel
theorem dX5_hang_63 : decode cX5_hang 63 = .ok (.aload_n 0, 1) := by decide +kernel
theorem dX5_hang_64 : decode cX5_hang 64 = .ok (.getfield 7, 3) := by decide +kernel
theorem dX5_hang_67 : decode cX5_hang 67 = .ok (.iload_n 1, 1) := by decide +kernel
theorem dX5_hang_68 : decode cX5_hang 68 = .ok (.iload_n 2, 1) := by decide +kernel
theorem dX5_hang_69 : decode cX5_hang 69 = .ok (.iastore, 1) := by decide +kernel
theorem dX5_hang_70 : decode cX5_hang 70 = .ok (.aload_n 0, 1) := by decide +kernel
theorem dX5_hang_71 : decode cX5_hang 71 = .ok (.getfield 13, 3) := by decide +kernel
theorem dX5_hang_74 : decode cX5_hang 74 = .ok (.iload_n 1, 1) := by decide +kernel
theorem dX5_hang_75 : decode cX5_hang 75 = .ok (.iload_n 3, 1) := by decide +kernel
theorem dX5_hang_76 : decode cX5_hang 76 = .ok (.ifCond .eq 7, 3) := by decide +kernel
theorem dX5_hang_79 : decode cX5_hang 79 = .ok (.iconst 1, 1) := by decide +kernel
theorem dX5_hang_80 : decode cX5_hang 80 = .ok (.goto 4, 3) := by decide +kernel
theorem dX5_hang_83 : decode cX5_hang 83 = .ok (.iconst (-1), 1) := by decide +kernel
theorem dX5_hang_84 : decode cX5_hang 84 = .ok (.iastore, 1) := by decide +kernel
theorem dX5_hang_85 : decode cX5_hang 85 = .ok (.iload 5, 2) := by decide +kernel
theorem dX5_hang_87 : decode cX5_hang 87 = .ok (.ireturn, 1) := by decide +kernel
set_option maxRecDepth 20000 in
theorem ggX5_unhang_X5_isConcept : GoodIn wsX5_unhang wsX5_isConcept := goodIn_r _ [6, 7, 8, 9, 5, 10, 16, 17, 18, 19, 20, 21, 22, 23, 24, 25, 26, 27, 28, 29, 30, 31, 32] (by decide +kernel) (by decide +kernel)
set_option maxRecDepth 20000 in
theorem gX5_unhang_X5_isConcept : GoodIn wsX5_unhang (wsV RX5 61 RX5 yX5_isConcept wsX5_isConcept) := goodIn_app (goodIn_of _ (by decide +kernel)) ggX5_unhang_X5_isConcept
set_option maxRecDepth 20000 in
theorem ggX5_unhang_X5_can : GoodIn wsX5_unhang wsX5_can := goodIn_r _ [14, 15, 16, 17, 18, 19, 20, 21, 22, 23, 24, 25, 26, 27, 28, 29, 30, 31, 32] (by decide +kernel) (by decide +kernel)
set_option maxRecDepth 20000 in
theorem gX5_unhang_X5_can : GoodIn wsX5_unhang (wsV RX5 65 RX5 yX5_can wsX5_can) := goodIn_app (goodIn_of _ (by decide +kernel)) ggX5_unhang_X5_can
theorem dX5_unhang_0 : decode cX5_unhang 0 = .ok (.aload_n 0, 1) := by decide +kernel
theorem dX5_unhang_1 : decode cX5_unhang 1 = .ok (.aload_n 0, 1) := by decide +kernel
theorem dX5_unhang_2 : decode cX5_unhang 2 = .ok (.iload_n 1, 1) := by decide +kernel
theorem dX5_unhang_3 : decode cX5_unhang 3 = .ok (.invokevirtual 61, 3) := by decide +kernel
theorem dX5_unhang_6 : decode cX5_unhang 6 = .ok (.ifCond .eq 7, 3) := by decide +kernel
theorem dX5_unhang_9 : decode cX5_unhang 9 = .ok (.iconst 0, 1) := by decide +kernel
theorem dX5_unhang_10 : decode cX5_unhang 10 = .ok (.goto 4, 3) := by decide +kernel
theorem dX5_unhang_13 : decode cX5_unhang 13 = .ok (.iconst 1, 1) := by decide +kernel
theorem dX5_unhang_14 : decode cX5_unhang 14 = .ok (.invokevirtual 65, 3) := by decide +kernel
theorem dX5_unhang_17 : decode cX5_unhang 17 = .ok (.ifCond .ne 5, 3) := by decide +kernel
theorem dX5_unhang_20 : decode cX5_unhang 20 = .ok (.iconst 0, 1) := by decide +kernel
theorem dX5_unhang_21 : decode cX5_unhang 21 = .ok (.ireturn, 1) := by decide +kernel
theorem dX5_unhang_22 : decode cX5_unhang 22 = .ok (.aload_n 0, 1) := by decide +kernel
theorem dX5_unhang_23 : decode cX5_unhang 23 = .ok (.getfield 7, 3) := by decide +kernel
theorem dX5_unhang_26 : decode cX5_unhang 26 = .ok (.iload_n 1, 1) := by decide +kernel
theorem dX5_unhang_27 : decode cX5_unhang 27 = .ok (.iaload, 1) := by decide +kernel
theorem dX5_unhang_28 : decode cX5_unhang 28 = .ok (.istore_n 2, 1) := by decide +kernel
theorem dX5_unhang_29 : decode cX5_unhang 29 = .ok (.aload_n 0, 1) := by decide +kernel
theorem dX5_unhang_30 : decode cX5_unhang 30 = .ok (.getfield 7, 3) := by decide +kernel
theorem dX5_unhang_33 : decode cX5_unhang 33 = .ok (.iload_n 1, 1) := by decide +kernel
theorem dX5_unhang_34 : decode cX5_unhang 34 = .ok (.iconst (-1), 1) := by decide +kernel
theorem dX5_unhang_35 : decode cX5_unhang 35 = .ok (.iastore, 1) := by decide +kernel
theorem dX5_unhang_36 : decode cX5_unhang 36 = .ok (.iload_n 2, 1) := by decide +kernel
theorem dX5_unhang_37 : decode cX5_unhang 37 = .ok (.ireturn, 1) := by decide +kernel
set_option maxRecDepth 20000 in
theorem ggX5_addRoll_X5_isConcept : GoodIn wsX5_addRoll wsX5_isConcept := goodIn_r _ [8, 9, 10, 11, 7, 12, 18, 19, 20, 21, 22, 23, 24, 25, 26, 27, 28, 29, 30, 31, 32, 33, 34] (by decide +kernel) (by decide +kernel)
set_option maxRecDepth 20000 in
theorem gX5_addRoll_X5_isConcept : GoodIn wsX5_addRoll (wsV RX5 61 RX5 yX5_isConcept wsX5_isConcept) := goodIn_app (goodIn_of _ (by decide +kernel)) ggX5_addRoll_X5_isConcept
set_option maxRecDepth 20000 in
theorem ggX5_addRoll_X5_can : GoodIn wsX5_addRoll wsX5_can := goodIn_r _ [16, 17, 18, 19, 20, 21, 22, 23, 24, 25, 26, 27, 28, 29, 30, 31, 32, 33, 34] (by decide +kernel) (by decide +kernel)
set_option maxRecDepth 20000 in
theorem gX5_addRoll_X5_can : GoodIn wsX5_addRoll (wsV RX5 65 RX5 yX5_can wsX5_can) := goodIn_app (goodIn_of _ (by decide +kernel)) ggX5_addRoll_X5_can
theorem dX5_addRoll_0 : decode cX5_addRoll 0 = .ok (.aload_n 0, 1) := by decide +kernel
theorem dX5_addRoll_1 : decode cX5_addRoll 1 = .ok (.iload_n 1, 1) := by decide +kernel
theorem dX5_addRoll_2 : decode cX5_addRoll 2 = .ok (.invokevirtual 61, 3) := by decide +kernel
theorem dX5_addRoll_5 : decode cX5_addRoll 5 = .ok (.ifCond .eq 15, 3) := by decide +kernel
theorem dX5_addRoll_8 : decode cX5_addRoll 8 = .ok (.aload_n 0, 1) := by decide +kernel
theorem dX5_addRoll_9 : decode cX5_addRoll 9 = .ok (.iload_n 2, 1) := by decide +kernel
theorem dX5_addRoll_10 : decode cX5_addRoll 10 = .ok (.invokevirtual 61, 3) := by decide +kernel
theorem dX5_addRoll_13 : decode cX5_addRoll 13 = .ok (.ifCond .eq 7, 3) := by decide +kernel
theorem dX5_addRoll_16 : decode cX5_addRoll 16 = .ok (.iconst 1, 1) := by decide +kernel
theorem dX5_addRoll_17 : decode cX5_addRoll 17 = .ok (.goto 4, 3) := by decide +kernel
theorem dX5_addRoll_20 : decode cX5_addRoll 20 = .ok (.iconst 0, 1) := by decide +kernel
theorem dX5_addRoll_21 : decode cX5_addRoll 21 = .ok (.istore_n 3, 1) := by decide +kernel
theorem dX5_addRoll_22 : decode cX5_addRoll 22 = .ok (.aload_n 0, 1) := by decide +kernel
theorem dX5_addRoll_23 : decode cX5_addRoll 23 = .ok (.iload_n 3, 1) := by decide +kernel
theorem dX5_addRoll_24 : decode cX5_addRoll 24 = .ok (.ifCond .ne 7, 3) := by decide +kernel
theorem dX5_addRoll_27 : decode cX5_addRoll 27 = .ok (.iconst 1, 1) := by decide +kernel
theorem dX5_addRoll_28 : decode cX5_addRoll 28 = .ok (.goto 25, 3) := by decide +kernel
theorem dX5_addRoll_31 : decode cX5_addRoll 31 = .ok (.iload_n 1, 1) := by decide +kernel
theorem dX5_addRoll_32 : decode cX5_addRoll 32 = .ok (.iload_n 2, 1) := by decide +kernel
theorem dX5_addRoll_33 : decode cX5_addRoll 33 = .ok (.if_icmp .ne 7, 3) := by decide +kernel
theorem dX5_addRoll_36 : decode cX5_addRoll 36 = .ok (.iconst 2, 1) := by decide +kernel
theorem dX5_addRoll_37 : decode cX5_addRoll 37 = .ok (.goto 16, 3) := by decide +kernel
theorem dX5_addRoll_40 : decode cX5_addRoll 40 = .ok (.aload_n 0, 1) := by decide +kernel
theorem dX5_addRoll_41 : decode cX5_addRoll 41 = .ok (.getfield 72, 3) := by decide +kernel
theorem dX5_addRoll_44 : decode cX5_addRoll 44 = .ok (.iconst 5, 1) := by decide +kernel
theorem dX5_addRoll_45 : decode cX5_addRoll 45 = .ok (.if_icmp .ne 7, 3) := by decide +kernel
theorem dX5_addRoll_48 : decode cX5_addRoll 48 = .ok (.iconst 3, 1) := by decide +kernel
theorem dX5_addRoll_49 : decode cX5_addRoll 49 = .ok (.goto 4, 3) := by decide +kernel
theorem dX5_addRoll_52 : decode cX5_addRoll 52 = .ok (.iconst 0, 1) := by decide +kernel
theorem dX5_addRoll_53 : decode cX5_addRoll 53 = .ok (.invokevirtual 65, 3) := by decide +kernel
theorem dX5_addRoll_56 : decode cX5_addRoll 56 = .ok (.ifCond .ne 5, 3) := by decide +kernel
theorem dX5_addRoll_59 : decode cX5_addRoll 59 = .ok (.iconst 0, 1) := by decide +kernel
theorem dX5_addRoll_60 : decode cX5_addRoll 60 = .ok (.ireturn, 1) := by decide +kernel
theorem dX5_addRoll_61 : decode cX5_addRoll 61 = .ok (.aload_n 0, 1) := by decide +kernel
theorem dX5_addRoll_62 : decode cX5_addRoll 62 = .ok (.getfield 16, 3) := by decide +kernel
theorem dX5_addRoll_65 : decode cX5_addRoll 65 = .ok (.aload_n 0, 1) := by decide +kernel
theorem dX5_addRoll_66 : decode cX5_addRoll 66 = .ok (.getfield 72, 3) := by decide +kernel
theorem dX5_addRoll_69 : decode cX5_addRoll 69 = .ok (.iload_n 1, 1) := by decide +kernel
theorem dX5_addRoll_70 : decode cX5_addRoll 70 = .ok (.iastore, 1) := by decide +kernel
theorem dX5_addRoll_71 : decode cX5_addRoll 71 = .ok (.aload_n 0, 1) := by decide +kernel
theorem dX5_addRoll_72 : decode cX5_addRoll 72 = .ok (.getfield 19, 3) := by decide +kernel
theorem dX5_addRoll_75 : decode cX5_addRoll 75 = .ok (.aload_n 0, 1) := by decide +kernel
theorem dX5_addRoll_76 : decode cX5_addRoll 76 = .ok (.getfield 72, 3) := by decide +kernel
theorem dX5_addRoll_79 : decode cX5_addRoll 79 = .ok (.iload_n 2, 1) := by decide +kernel
theorem dX5_addRoll_80 : decode cX5_addRoll 80 = .ok (.iastore, 1) := by decide +kernel
theorem dX5_addRoll_81 : decode cX5_addRoll 81 = .ok (.aload_n 0, 1) := by decide +kernel
theorem dX5_addRoll_82 : decode cX5_addRoll 82 = .ok (.dup, 1) := by decide +kernel
theorem dX5_addRoll_83 : decode cX5_addRoll 83 = .ok (.getfield 72, 3) := by decide +kernel
theorem dX5_addRoll_86 : decode cX5_addRoll 86 = .ok (.iconst 1, 1) := by decide +kernel
theorem dX5_addRoll_87 : decode cX5_addRoll 87 = .ok (.iadd, 1) := by decide +kernel
theorem dX5_addRoll_88 : decode cX5_addRoll 88 = .ok (.putfield 72, 3) := by decide +kernel
theorem dX5_addRoll_91 : decode cX5_addRoll 91 = .ok (.aload_n 0, 1) := by decide +kernel
theorem dX5_addRoll_92 : decode cX5_addRoll 92 = .ok (.getfield 72, 3) := by decide +kernel
theorem dX5_addRoll_95 : decode cX5_addRoll 95 = .ok (.iconst 1, 1) := by decide +kernel
theorem dX5_addRoll_96 : decode cX5_addRoll 96 = .ok (.isub, 1) := by decide +kernel
theorem dX5_addRoll_97 : decode cX5_addRoll 97 = .ok (.ireturn, 1) := by decide +kernel
set_option maxRecDepth 20000 in
theorem ggX5_file_X5_can : GoodIn wsX5_file wsX5_can := goodIn_r _ [6, 7, 8, 9, 10, 11, 12, 13, 14, 15, 16, 17, 18, 19, 20, 21, 22, 23, 24] (by decide +kernel) (by decide +kernel)
set_option maxRecDepth 20000 in
theorem gX5_file_X5_can : GoodIn wsX5_file (wsV RX5 65 RX5 yX5_can wsX5_can) := goodIn_app (goodIn_of _ (by decide +kernel)) ggX5_file_X5_can
theorem dX5_file_0 : decode cX5_file 0 = .ok (.aload_n 0, 1) := by decide +kernel
theorem dX5_file_1 : decode cX5_file 1 = .ok (.aload_n 0, 1) := by decide +kernel
theorem dX5_file_2 : decode cX5_file 2 = .ok (.getfield 22, 3) := by decide +kernel
theorem dX5_file_5 : decode cX5_file 5 = .ok (.bipush 8, 2) := by decide +kernel
theorem dX5_file_7 : decode cX5_file 7 = .ok (.if_icmp .ne 7, 3) := by decide +kernel
theorem dX5_file_10 : decode cX5_file 10 = .ok (.iconst 1, 1) := by decide +kernel
theorem dX5_file_11 : decode cX5_file 11 = .ok (.goto 4, 3) := by decide +kernel
theorem dX5_file_14 : decode cX5_file 14 = .ok (.iconst 0, 1) := by decide +kernel
theorem dX5_file_15 : decode cX5_file 15 = .ok (.invokevirtual 65, 3) := by decide +kernel
theorem dX5_file_18 : decode cX5_file 18 = .ok (.ifCond .ne 5, 3) := by decide +kernel
theorem dX5_file_21 : decode cX5_file 21 = .ok (.iconst 0, 1) := by decide +kernel
theorem dX5_file_22 : decode cX5_file 22 = .ok (.ireturn, 1) := by decide +kernel
theorem dX5_file_23 : decode cX5_file 23 = .ok (.aload_n 0, 1) := by decide +kernel
theorem dX5_file_24 : decode cX5_file 24 = .ok (.dup, 1) := by decide +kernel
theorem dX5_file_25 : decode cX5_file 25 = .ok (.getfield 22, 3) := by decide +kernel
theorem dX5_file_28 : decode cX5_file 28 = .ok (.iconst 1, 1) := by decide +kernel
theorem dX5_file_29 : decode cX5_file 29 = .ok (.iadd, 1) := by decide +kernel
theorem dX5_file_30 : decode cX5_file 30 = .ok (.putfield 22, 3) := by decide +kernel
theorem dX5_file_33 : decode cX5_file 33 = .ok (.aload_n 0, 1) := by decide +kernel
theorem dX5_file_34 : decode cX5_file 34 = .ok (.getfield 22, 3) := by decide +kernel
theorem dX5_file_37 : decode cX5_file 37 = .ok (.iconst 1, 1) := by decide +kernel
theorem dX5_file_38 : decode cX5_file 38 = .ok (.isub, 1) := by decide +kernel
theorem dX5_file_39 : decode cX5_file 39 = .ok (.ireturn, 1) := by decide +kernel
set_option maxRecDepth 20000 in
theorem ggX5_tell_X5_isIn : GoodIn wsX5_tell wsX5_isIn := goodIn_r _ [14] (by decide +kernel) (by decide +kernel)
set_option maxRecDepth 20000 in
theorem gX5_tell_X5_isIn : GoodIn wsX5_tell (va_wsS RX5 57 yX5_isIn wsX5_isIn) := goodIn_app (goodIn_of _ (by decide +kernel)) ggX5_tell_X5_isIn
set_option maxRecDepth 20000 in
theorem ggX5_tell_X5_isKey : GoodIn wsX5_tell wsX5_isKey := goodIn_r _ [18, 19, 20, 21, 13, 22, 23, 11, 12, 14, 29, 30, 31, 32, 33, 34, 35, 36, 37, 38, 39, 40, 41, 42, 43, 44, 45] (by decide +kernel) (by decide +kernel)
set_option maxRecDepth 20000 in
theorem gX5_tell_X5_isKey : GoodIn wsX5_tell (wsV RX5 77 RX5 yX5_isKey wsX5_isKey) := goodIn_app (goodIn_of _ (by decide +kernel)) ggX5_tell_X5_isKey
set_option maxRecDepth 20000 in
theorem ggX5_tell_X5_can : GoodIn wsX5_tell wsX5_can := goodIn_r _ [27, 28, 29, 30, 31, 32, 33, 34, 35, 36, 37, 38, 39, 40, 41, 42, 43, 44, 45] (by decide +kernel) (by decide +kernel)
set_option maxRecDepth 20000 in
theorem gX5_tell_X5_can : GoodIn wsX5_tell (wsV RX5 65 RX5 yX5_can wsX5_can) := goodIn_app (goodIn_of _ (by decide +kernel)) ggX5_tell_X5_can
theorem dX5_tell_0 : decode cX5_tell 0 = .ok (.iload 4, 2) := by decide +kernel
theorem dX5_tell_2 : decode cX5_tell 2 = .ok (.ldc 75, 2) := by decide +kernel
theorem dX5_tell_4 : decode cX5_tell 4 = .ok (.ldc 76, 2) := by decide +kernel
theorem dX5_tell_6 : decode cX5_tell 6 = .ok (.invokestatic 57, 3) := by decide +kernel
theorem dX5_tell_9 : decode cX5_tell 9 = .ok (.ifCond .eq 17, 3) := by decide +kernel
theorem dX5_tell_12 : decode cX5_tell 12 = .ok (.iload 5, 2) := by decide +kernel
theorem dX5_tell_14 : decode cX5_tell 14 = .ok (.iconst 0, 1) := by decide +kernel
theorem dX5_tell_15 : decode cX5_tell 15 = .ok (.iconst 4, 1) := by decide +kernel
theorem dX5_tell_16 : decode cX5_tell 16 = .ok (.invokestatic 57, 3) := by decide +kernel
theorem dX5_tell_19 : decode cX5_tell 19 = .ok (.ifCond .eq 7, 3) := by decide +kernel
theorem dX5_tell_22 : decode cX5_tell 22 = .ok (.iconst 1, 1) := by decide +kernel
theorem dX5_tell_23 : decode cX5_tell 23 = .ok (.goto 4, 3) := by decide +kernel
theorem dX5_tell_26 : decode cX5_tell 26 = .ok (.iconst 0, 1) := by decide +kernel
theorem dX5_tell_27 : decode cX5_tell 27 = .ok (.istore 6, 2) := by decide +kernel
theorem dX5_tell_29 : decode cX5_tell 29 = .ok (.aload_n 0, 1) := by decide +kernel
theorem dX5_tell_30 : decode cX5_tell 30 = .ok (.aload_n 0, 1) := by decide +kernel
theorem dX5_tell_31 : decode cX5_tell 31 = .ok (.iload_n 1, 1) := by decide +kernel
theorem dX5_tell_32 : decode cX5_tell 32 = .ok (.iload_n 2, 1) := by decide +kernel
theorem dX5_tell_33 : decode cX5_tell 33 = .ok (.iload_n 3, 1) := by decide +kernel
theorem dX5_tell_34 : decode cX5_tell 34 = .ok (.invokevirtual 77, 3) := by decide +kernel
theorem dX5_tell_37 : decode cX5_tell 37 = .ok (.ifCond .ne 7, 3) := by decide +kernel
theorem dX5_tell_40 : decode cX5_tell 40 = .ok (.iconst 1, 1) := by decide +kernel
theorem dX5_tell_41 : decode cX5_tell 41 = .ok (.goto 26, 3) := by decide +kernel
theorem dX5_tell_44 : decode cX5_tell 44 = .ok (.iload 6, 2) := by decide +kernel
theorem dX5_tell_46 : decode cX5_tell 46 = .ok (.ifCond .ne 7, 3) := by decide +kernel
theorem dX5_tell_49 : decode cX5_tell 49 = .ok (.iconst 2, 1) := by decide +kernel
theorem dX5_tell_50 : decode cX5_tell 50 = .ok (.goto 17, 3) := by decide +kernel
theorem dX5_tell_53 : decode cX5_tell 53 = .ok (.aload_n 0, 1) := by decide +kernel
theorem dX5_tell_54 : decode cX5_tell 54 = .ok (.getfield 80, 3) := by decide +kernel
theorem dX5_tell_57 : decode cX5_tell 57 = .ok (.bipush 80, 2) := by decide +kernel
theorem dX5_tell_59 : decode cX5_tell 59 = .ok (.if_icmp .ne 7, 3) := by decide +kernel
theorem dX5_tell_62 : decode cX5_tell 62 = .ok (.iconst 3, 1) := by decide +kernel
theorem dX5_tell_63 : decode cX5_tell 63 = .ok (.goto 4, 3) := by decide +kernel
theorem dX5_tell_66 : decode cX5_tell 66 = .ok (.iconst 0, 1) := by decide +kernel
theorem dX5_tell_67 : decode cX5_tell 67 = .ok (.invokevirtual 65, 3) := by decide +kernel
theorem dX5_tell_70 : decode cX5_tell 70 = .ok (.ifCond .ne 5, 3) := by decide +kernel
theorem dX5_tell_73 : decode cX5_tell 73 = .ok (.iconst 0, 1) := by decide +kernel
theorem dX5_tell_74 : decode cX5_tell 74 = .ok (.ireturn, 1) := by decide +kernel
theorem dX5_tell_75 : decode cX5_tell 75 = .ok (.aload_n 0, 1) := by decide +kernel
theorem dX5_tell_76 : decode cX5_tell 76 = .ok (.getfield 26, 3) := by decide +kernel
theorem dX5_tell_79 : decode cX5_tell 79 = .ok (.aload_n 0, 1) := by decide +kernel
theorem dX5_tell_80 : decode cX5_tell 80 = .ok (.getfield 80, 3) := by decide +kernel
theorem dX5_tell_83 : decode cX5_tell 83 = .ok (.iload_n 1, 1) := by decide +kernel
theorem dX5_tell_84 : decode cX5_tell 84 = .ok (.iastore, 1) := by decide +kernel
theorem dX5_tell_85 : decode cX5_tell 85 = .ok (.aload_n 0, 1) := by decide +kernel
theorem dX5_tell_86 : decode cX5_tell 86 = .ok (.getfield 29, 3) := by decide +kernel
theorem dX5_tell_89 : decode cX5_tell 89 = .ok (.aload_n 0, 1) := by decide +kernel
theorem dX5_tell_90 : decode cX5_tell 90 = .ok (.getfield 80, 3) := by decide +kernel
theorem dX5_tell_93 : decode cX5_tell 93 = .ok (.iload_n 2, 1) := by decide +kernel
theorem dX5_tell_94 : decode cX5_tell 94 = .ok (.iastore, 1) := by decide +kernel
theorem dX5_tell_95 : decode cX5_tell 95 = .ok (.aload_n 0, 1) := by decide +kernel
theorem dX5_tell_96 : decode cX5_tell 96 = .ok (.getfield 32, 3) := by decide +kernel
theorem dX5_tell_99 : decode cX5_tell 99 = .ok (.aload_n 0, 1) := by decide +kernel
theorem dX5_tell_100 : decode cX5_tell 100 = .ok (.getfield 80, 3) := by decide +kernel
theorem dX5_tell_103 : decode cX5_tell 103 = .ok (.iload_n 3, 1) := by decide +kernel
theorem dX5_tell_104 : decode cX5_tell 104 = .ok (.iastore, 1) := by decide +kernel
theorem dX5_tell_105 : decode cX5_tell 105 = .ok (.aload_n 0, 1) := by decide +kernel
theorem dX5_tell_106 : decode cX5_tell 106 = .ok (.getfield 35, 3) := by decide +kernel
theorem dX5_tell_109 : decode cX5_tell 109 = .ok (.aload_n 0, 1) := by decide +kernel
theorem dX5_tell_110 : decode cX5_tell 110 = .ok (.getfield 80, 3) := by decide +kernel
theorem dX5_tell_113 : decode cX5_tell 113 = .ok (.aload_n 0, 1) := by decide +kernel
theorem dX5_tell_114 : decode cX5_tell 114 = .ok (.getfield 22, 3) := by decide +kernel
theorem dX5_tell_117 : decode cX5_tell 117 = .ok (.iconst 1, 1) := by decide +kernel
theorem dX5_tell_118 : decode cX5_tell 118 = .ok (.isub, 1) := by decide +kernel
theorem dX5_tell_119 : decode cX5_tell 119 = .ok (.iastore, 1) := by decide +kernel
theorem dX5_tell_120 : decode cX5_tell 120 = .ok (.aload_n 0, 1) := by decide +kernel
theorem dX5_tell_121 : decode cX5_tell 121 = .ok (.getfield 38, 3) := by decide +kernel
theorem dX5_tell_124 : decode cX5_tell 124 = .ok (.aload_n 0, 1) := by decide +kernel
theorem dX5_tell_125 : decode cX5_tell 125 = .ok (.getfield 80, 3) := by decide +kernel
theorem dX5_tell_128 : decode cX5_tell 128 = .ok (.iload 4, 2) := by decide +kernel
theorem dX5_tell_130 : decode cX5_tell 130 = .ok (.iastore, 1) := by decide +kernel
theorem dX5_tell_131 : decode cX5_tell 131 = .ok (.aload_n 0, 1) := by decide +kernel
theorem dX5_tell_132 : decode cX5_tell 132 = .ok (.getfield 41, 3) := by decide +kernel
theorem dX5_tell_135 : decode cX5_tell 135 = .ok (.aload_n 0, 1) := by decide +kernel
theorem dX5_tell_136 : decode cX5_tell 136 = .ok (.getfield 80, 3) := by decide +kernel
theorem dX5_tell_139 : decode cX5_tell 139 = .ok (.iload 5, 2) := by decide +kernel
theorem dX5_tell_141 : decode cX5_tell 141 = .ok (.iastore, 1) := by decide +kernel
theorem dX5_tell_142 : decode cX5_tell 142 = .ok (.aload_n 0, 1) := by decide +kernel
theorem dX5_tell_143 : decode cX5_tell 143 = .ok (.dup, 1) := by decide +kernel
theorem dX5_tell_144 : decode cX5_tell 144 = .ok (.getfield 80, 3) := by decide +kernel
theorem dX5_tell_147 : decode cX5_tell 147 = .ok (.iconst 1, 1) := by decide +kernel
theorem dX5_tell_148 : decode cX5_tell 148 = .ok (.iadd, 1) := by decide +kernel
theorem dX5_tell_149 : decode cX5_tell 149 = .ok (.putfield 80, 3) := by decide +kernel
theorem dX5_tell_152 : decode cX5_tell 152 = .ok (.aload_n 0, 1) := by decide +kernel
theorem dX5_tell_153 : decode cX5_tell 153 = .ok (.getfield 80, 3) := by decide +kernel
theorem dX5_tell_156 : decode cX5_tell 156 = .ok (.ireturn, 1) := by decide +kernel
theorem dX5_doubtOf_0 : decode cX5_doubtOf 0 = .ok (.iconst 1, 1) := by decide +kernel
theorem dX5_doubtOf_1 : decode cX5_doubtOf 1 = .ok (.istore_n 2, 1) := by decide +kernel
theorem dX5_doubtOf_2 : decode cX5_doubtOf 2 = .ok (.iconst 0, 1) := by decide +kernel
theorem dX5_doubtOf_3 : decode cX5_doubtOf 3 = .ok (.istore_n 3, 1) := by decide +kernel
theorem dX5_doubtOf_4 : decode cX5_doubtOf 4 = .ok (.iload_n 3, 1) := by decide +kernel
theorem dX5_doubtOf_5 : decode cX5_doubtOf 5 = .ok (.aload_n 0, 1) := by decide +kernel
theorem dX5_doubtOf_6 : decode cX5_doubtOf 6 = .ok (.getfield 41, 3) := by decide +kernel
theorem dX5_doubtOf_9 : decode cX5_doubtOf 9 = .ok (.iload_n 1, 1) := by decide +kernel
theorem dX5_doubtOf_10 : decode cX5_doubtOf 10 = .ok (.iaload, 1) := by decide +kernel
theorem dX5_doubtOf_11 : decode cX5_doubtOf 11 = .ok (.if_icmp .ge 14, 3) := by decide +kernel
theorem dX5_doubtOf_14 : decode cX5_doubtOf 14 = .ok (.iload_n 2, 1) := by decide +kernel
theorem dX5_doubtOf_15 : decode cX5_doubtOf 15 = .ok (.bipush 10, 2) := by decide +kernel
theorem dX5_doubtOf_17 : decode cX5_doubtOf 17 = .ok (.imul, 1) := by decide +kernel
theorem dX5_doubtOf_18 : decode cX5_doubtOf 18 = .ok (.istore_n 2, 1) := by decide +kernel
theorem dX5_doubtOf_19 : decode cX5_doubtOf 19 = .ok (.iinc 3 1, 3) := by decide +kernel
theorem dX5_doubtOf_22 : decode cX5_doubtOf 22 = .ok (.goto (-18), 3) := by decide +kernel
theorem dX5_doubtOf_25 : decode cX5_doubtOf 25 = .ok (.iload_n 2, 1) := by decide +kernel
theorem dX5_doubtOf_26 : decode cX5_doubtOf 26 = .ok (.ireturn, 1) := by decide +kernel
theorem dX5_isOf_0 : decode cX5_isOf 0 = .ok (.aload_n 0, 1) := by decide +kernel
theorem dX5_isOf_1 : decode cX5_isOf 1 = .ok (.getfield 26, 3) := by decide +kernel
theorem dX5_isOf_4 : decode cX5_isOf 4 = .ok (.iload_n 1, 1) := by decide +kernel
theorem dX5_isOf_5 : decode cX5_isOf 5 = .ok (.iaload, 1) := by decide +kernel
theorem dX5_isOf_6 : decode cX5_isOf 6 = .ok (.iload_n 2, 1) := by decide +kernel
theorem dX5_isOf_7 : decode cX5_isOf 7 = .ok (.if_icmp .ne 28, 3) := by decide +kernel
theorem dX5_isOf_10 : decode cX5_isOf 10 = .ok (.aload_n 0, 1) := by decide +kernel
theorem dX5_isOf_11 : decode cX5_isOf 11 = .ok (.getfield 29, 3) := by decide +kernel
theorem dX5_isOf_14 : decode cX5_isOf 14 = .ok (.iload_n 1, 1) := by decide +kernel
theorem dX5_isOf_15 : decode cX5_isOf 15 = .ok (.iaload, 1) := by decide +kernel
theorem dX5_isOf_16 : decode cX5_isOf 16 = .ok (.iload_n 3, 1) := by decide +kernel
theorem dX5_isOf_17 : decode cX5_isOf 17 = .ok (.if_icmp .ne 18, 3) := by decide +kernel
theorem dX5_isOf_20 : decode cX5_isOf 20 = .ok (.aload_n 0, 1) := by decide +kernel
theorem dX5_isOf_21 : decode cX5_isOf 21 = .ok (.getfield 32, 3) := by decide +kernel
theorem dX5_isOf_24 : decode cX5_isOf 24 = .ok (.iload_n 1, 1) := by decide +kernel
theorem dX5_isOf_25 : decode cX5_isOf 25 = .ok (.iaload, 1) := by decide +kernel
theorem dX5_isOf_26 : decode cX5_isOf 26 = .ok (.iload 4, 2) := by decide +kernel
theorem dX5_isOf_28 : decode cX5_isOf 28 = .ok (.if_icmp .ne 7, 3) := by decide +kernel
theorem dX5_isOf_31 : decode cX5_isOf 31 = .ok (.iconst 1, 1) := by decide +kernel
theorem dX5_isOf_32 : decode cX5_isOf 32 = .ok (.goto 4, 3) := by decide +kernel
theorem dX5_isOf_35 : decode cX5_isOf 35 = .ok (.iconst 0, 1) := by decide +kernel
theorem dX5_isOf_36 : decode cX5_isOf 36 = .ok (.ireturn, 1) := by decide +kernel
set_option maxRecDepth 20000 in
theorem ggX5_holds_X5_isOf : GoodIn wsX5_holds wsX5_isOf := goodIn_r _ [8, 9, 10, 11, 12, 13, 14, 15, 16, 17, 18, 19, 20, 21, 22, 23, 24, 25, 26, 27, 28] (by decide +kernel) (by decide +kernel)
set_option maxRecDepth 20000 in
theorem gX5_holds_X5_isOf : GoodIn wsX5_holds (wsV RX5 83 RX5 yX5_isOf wsX5_isOf) := goodIn_app (goodIn_of _ (by decide +kernel)) ggX5_holds_X5_isOf
theorem dX5_holds_0 : decode cX5_holds 0 = .ok (.iconst (-1), 1) := by decide +kernel
theorem dX5_holds_1 : decode cX5_holds 1 = .ok (.istore 5, 2) := by decide +kernel
theorem dX5_holds_3 : decode cX5_holds 3 = .ok (.iconst 0, 1) := by decide +kernel
theorem dX5_holds_4 : decode cX5_holds 4 = .ok (.istore 6, 2) := by decide +kernel
theorem dX5_holds_6 : decode cX5_holds 6 = .ok (.iload 6, 2) := by decide +kernel
theorem dX5_holds_8 : decode cX5_holds 8 = .ok (.aload_n 0, 1) := by decide +kernel
theorem dX5_holds_9 : decode cX5_holds 9 = .ok (.getfield 80, 3) := by decide +kernel
theorem dX5_holds_12 : decode cX5_holds 12 = .ok (.if_icmp .ge 111, 3) := by decide +kernel
theorem dX5_holds_15 : decode cX5_holds 15 = .ok (.aload_n 0, 1) := by decide +kernel
theorem dX5_holds_16 : decode cX5_holds 16 = .ok (.iload 6, 2) := by decide +kernel
theorem dX5_holds_18 : decode cX5_holds 18 = .ok (.iload_n 1, 1) := by decide +kernel
theorem dX5_holds_19 : decode cX5_holds 19 = .ok (.iload_n 2, 1) := by decide +kernel
theorem dX5_holds_20 : decode cX5_holds 20 = .ok (.iload_n 3, 1) := by decide +kernel
theorem dX5_holds_21 : decode cX5_holds 21 = .ok (.invokevirtual 83, 3) := by decide +kernel
theorem dX5_holds_24 : decode cX5_holds 24 = .ok (.ifCond .eq 93, 3) := by decide +kernel
theorem dX5_holds_27 : decode cX5_holds 27 = .ok (.aload_n 0, 1) := by decide +kernel
theorem dX5_holds_28 : decode cX5_holds 28 = .ok (.getfield 35, 3) := by decide +kernel
theorem dX5_holds_31 : decode cX5_holds 31 = .ok (.iload 6, 2) := by decide +kernel
theorem dX5_holds_33 : decode cX5_holds 33 = .ok (.iaload, 1) := by decide +kernel
theorem dX5_holds_34 : decode cX5_holds 34 = .ok (.iload 4, 2) := by decide +kernel
theorem dX5_holds_36 : decode cX5_holds 36 = .ok (.if_icmp .gt 81, 3) := by decide +kernel
theorem dX5_holds_39 : decode cX5_holds 39 = .ok (.iload 5, 2) := by decide +kernel
theorem dX5_holds_41 : decode cX5_holds 41 = .ok (.iconst (-1), 1) := by decide +kernel
theorem dX5_holds_42 : decode cX5_holds 42 = .ok (.if_icmp .eq 20, 3) := by decide +kernel
theorem dX5_holds_45 : decode cX5_holds 45 = .ok (.aload_n 0, 1) := by decide +kernel
theorem dX5_holds_46 : decode cX5_holds 46 = .ok (.getfield 35, 3) := by decide +kernel
theorem dX5_holds_49 : decode cX5_holds 49 = .ok (.iload 6, 2) := by decide +kernel
theorem dX5_holds_51 : decode cX5_holds 51 = .ok (.iaload, 1) := by decide +kernel
theorem dX5_holds_52 : decode cX5_holds 52 = .ok (.aload_n 0, 1) := by decide +kernel
theorem dX5_holds_53 : decode cX5_holds 53 = .ok (.getfield 35, 3) := by decide +kernel
theorem dX5_holds_56 : decode cX5_holds 56 = .ok (.iload 5, 2) := by decide +kernel
theorem dX5_holds_58 : decode cX5_holds 58 = .ok (.iaload, 1) := by decide +kernel
theorem dX5_holds_59 : decode cX5_holds 59 = .ok (.if_icmp .le 7, 3) := by decide +kernel
theorem dX5_holds_62 : decode cX5_holds 62 = .ok (.iconst 1, 1) := by decide +kernel
theorem dX5_holds_63 : decode cX5_holds 63 = .ok (.goto 4, 3) := by decide +kernel
theorem dX5_holds_66 : decode cX5_holds 66 = .ok (.iconst 0, 1) := by decide +kernel
theorem dX5_holds_67 : decode cX5_holds 67 = .ok (.istore 7, 2) := by decide +kernel
theorem dX5_holds_69 : decode cX5_holds 69 = .ok (.iload 7, 2) := by decide +kernel
theorem dX5_holds_71 : decode cX5_holds 71 = .ok (.ifCond .ne 37, 3) := by decide +kernel
theorem dX5_holds_74 : decode cX5_holds 74 = .ok (.aload_n 0, 1) := by decide +kernel
theorem dX5_holds_75 : decode cX5_holds 75 = .ok (.getfield 35, 3) := by decide +kernel
theorem dX5_holds_78 : decode cX5_holds 78 = .ok (.iload 6, 2) := by decide +kernel
theorem dX5_holds_80 : decode cX5_holds 80 = .ok (.iaload, 1) := by decide +kernel
theorem dX5_holds_81 : decode cX5_holds 81 = .ok (.aload_n 0, 1) := by decide +kernel
theorem dX5_holds_82 : decode cX5_holds 82 = .ok (.getfield 35, 3) := by decide +kernel
theorem dX5_holds_85 : decode cX5_holds 85 = .ok (.iload 5, 2) := by decide +kernel
theorem dX5_holds_87 : decode cX5_holds 87 = .ok (.iaload, 1) := by decide +kernel
theorem dX5_holds_88 : decode cX5_holds 88 = .ok (.if_icmp .ne 25, 3) := by decide +kernel
theorem dX5_holds_91 : decode cX5_holds 91 = .ok (.aload_n 0, 1) := by decide +kernel
theorem dX5_holds_92 : decode cX5_holds 92 = .ok (.getfield 41, 3) := by decide +kernel
theorem dX5_holds_95 : decode cX5_holds 95 = .ok (.iload 6, 2) := by decide +kernel
theorem dX5_holds_97 : decode cX5_holds 97 = .ok (.iaload, 1) := by decide +kernel
theorem dX5_holds_98 : decode cX5_holds 98 = .ok (.aload_n 0, 1) := by decide +kernel
theorem dX5_holds_99 : decode cX5_holds 99 = .ok (.getfield 41, 3) := by decide +kernel
theorem dX5_holds_102 : decode cX5_holds 102 = .ok (.iload 5, 2) := by decide +kernel
theorem dX5_holds_104 : decode cX5_holds 104 = .ok (.iaload, 1) := by decide +kernel
theorem dX5_holds_105 : decode cX5_holds 105 = .ok (.if_icmp .ge 8, 3) := by decide +kernel
theorem dX5_holds_108 : decode cX5_holds 108 = .ok (.iload 6, 2) := by decide +kernel
theorem dX5_holds_110 : decode cX5_holds 110 = .ok (.goto 5, 3) := by decide +kernel
theorem dX5_holds_113 : decode cX5_holds 113 = .ok (.iload 5, 2) := by decide +kernel
theorem dX5_holds_115 : decode cX5_holds 115 = .ok (.istore 5, 2) := by decide +kernel
theorem dX5_holds_117 : decode cX5_holds 117 = .ok (.iinc 6 1, 3) := by decide +kernel
theorem dX5_holds_120 : decode cX5_holds 120 = .ok (.goto (-114), 3) := by decide +kernel
theorem dX5_holds_123 : decode cX5_holds 123 = .ok (.iload 5, 2) := by decide +kernel
theorem dX5_holds_125 : decode cX5_holds 125 = .ok (.ireturn, 1) := by decide +kernel
theorem dX5_isFar_0 : decode cX5_isFar 0 = .ok (.iload_n 0, 1) := by decide +kernel
theorem dX5_isFar_1 : decode cX5_isFar 1 = .ok (.iload_n 1, 1) := by decide +kernel
theorem dX5_isFar_2 : decode cX5_isFar 2 = .ok (.if_icmp .ge 9, 3) := by decide +kernel
theorem dX5_isFar_5 : decode cX5_isFar 5 = .ok (.iload_n 1, 1) := by decide +kernel
theorem dX5_isFar_6 : decode cX5_isFar 6 = .ok (.iload_n 0, 1) := by decide +kernel
theorem dX5_isFar_7 : decode cX5_isFar 7 = .ok (.isub, 1) := by decide +kernel
theorem dX5_isFar_8 : decode cX5_isFar 8 = .ok (.goto 6, 3) := by decide +kernel
theorem dX5_isFar_11 : decode cX5_isFar 11 = .ok (.iload_n 0, 1) := by decide +kernel
theorem dX5_isFar_12 : decode cX5_isFar 12 = .ok (.iload_n 1, 1) := by decide +kernel
theorem dX5_isFar_13 : decode cX5_isFar 13 = .ok (.isub, 1) := by decide +kernel
theorem dX5_isFar_14 : decode cX5_isFar 14 = .ok (.istore_n 3, 1) := by decide +kernel
theorem dX5_isFar_15 : decode cX5_isFar 15 = .ok (.iconst 2, 1) := by decide +kernel
theorem dX5_isFar_16 : decode cX5_isFar 16 = .ok (.iload_n 3, 1) := by decide +kernel
theorem dX5_isFar_17 : decode cX5_isFar 17 = .ok (.imul, 1) := by decide +kernel
theorem dX5_isFar_18 : decode cX5_isFar 18 = .ok (.iload_n 2, 1) := by decide +kernel
theorem dX5_isFar_19 : decode cX5_isFar 19 = .ok (.if_icmp .le 7, 3) := by decide +kernel
theorem dX5_isFar_22 : decode cX5_isFar 22 = .ok (.iconst 1, 1) := by decide +kernel
theorem dX5_isFar_23 : decode cX5_isFar 23 = .ok (.goto 4, 3) := by decide +kernel
theorem dX5_isFar_26 : decode cX5_isFar 26 = .ok (.iconst 0, 1) := by decide +kernel
theorem dX5_isFar_27 : decode cX5_isFar 27 = .ok (.ireturn, 1) := by decide +kernel
set_option maxRecDepth 20000 in
theorem ggX5_disagreements_X5_isFiling : GoodIn wsX5_disagreements wsX5_isFiling := goodIn_r _ [11, 12, 13, 14, 10, 15, 33, 34, 35, 36, 37, 38, 39, 40, 41, 42, 43, 44, 45, 46, 47, 48, 49] (by decide +kernel) (by decide +kernel)
set_option maxRecDepth 20000 in
theorem gX5_disagreements_X5_isFiling : GoodIn wsX5_disagreements (wsV RX5 87 RX5 yX5_isFiling wsX5_isFiling) := goodIn_app (goodIn_of _ (by decide +kernel)) ggX5_disagreements_X5_isFiling
set_option maxRecDepth 20000 in
theorem ggX5_disagreements_X5_can : GoodIn wsX5_disagreements wsX5_can := goodIn_r _ [19, 20, 33, 34, 35, 36, 37, 38, 39, 40, 41, 42, 43, 44, 45, 46, 47, 48, 49] (by decide +kernel) (by decide +kernel)
set_option maxRecDepth 20000 in
theorem gX5_disagreements_X5_can : GoodIn wsX5_disagreements (wsV RX5 65 RX5 yX5_can wsX5_can) := goodIn_app (goodIn_of _ (by decide +kernel)) ggX5_disagreements_X5_can
set_option maxRecDepth 20000 in
theorem ggX5_disagreements_X5_isOf : GoodIn wsX5_disagreements wsX5_isOf := goodIn_r _ [24, 3, 4, 5, 33, 34, 35, 36, 37, 38, 39, 40, 41, 42, 43, 44, 45, 46, 47, 48, 49] (by decide +kernel) (by decide +kernel)
set_option maxRecDepth 20000 in
theorem gX5_disagreements_X5_isOf : GoodIn wsX5_disagreements (wsV RX5 83 RX5 yX5_isOf wsX5_isOf) := goodIn_app (goodIn_of _ (by decide +kernel)) ggX5_disagreements_X5_isOf
set_option maxRecDepth 20000 in
theorem ggX5_disagreements_X5_doubtOf : GoodIn wsX5_disagreements wsX5_doubtOf := goodIn_r _ [28, 29, 33, 34, 35, 36, 37, 38, 39, 40, 41, 42, 43, 44, 45, 46, 47, 48, 49] (by decide +kernel) (by decide +kernel)
set_option maxRecDepth 20000 in
theorem gX5_disagreements_X5_doubtOf : GoodIn wsX5_disagreements (wsV RX5 90 RX5 yX5_doubtOf wsX5_doubtOf) := goodIn_app (goodIn_of _ (by decide +kernel)) ggX5_disagreements_X5_doubtOf
set_option maxRecDepth 20000 in
theorem ggX5_disagreements_X5_isFar : GoodIn wsX5_disagreements wsX5_isFar := goodIn_r _ [32] (by decide +kernel) (by decide +kernel)
set_option maxRecDepth 20000 in
theorem gX5_disagreements_X5_isFar : GoodIn wsX5_disagreements (va_wsS RX5 94 yX5_isFar wsX5_isFar) := goodIn_app (goodIn_of _ (by decide +kernel)) ggX5_disagreements_X5_isFar
theorem dX5_disagreements_0 : decode cX5_disagreements 0 = .ok (.aload_n 0, 1) := by decide +kernel
theorem dX5_disagreements_1 : decode cX5_disagreements 1 = .ok (.aload_n 0, 1) := by decide +kernel
theorem dX5_disagreements_2 : decode cX5_disagreements 2 = .ok (.iload_n 1, 1) := by decide +kernel
theorem dX5_disagreements_3 : decode cX5_disagreements 3 = .ok (.invokevirtual 87, 3) := by decide +kernel
theorem dX5_disagreements_6 : decode cX5_disagreements 6 = .ok (.ifCond .eq 7, 3) := by decide +kernel
theorem dX5_disagreements_9 : decode cX5_disagreements 9 = .ok (.iconst 0, 1) := by decide +kernel
theorem dX5_disagreements_10 : decode cX5_disagreements 10 = .ok (.goto 4, 3) := by decide +kernel
theorem dX5_disagreements_13 : decode cX5_disagreements 13 = .ok (.iconst 1, 1) := by decide +kernel
theorem dX5_disagreements_14 : decode cX5_disagreements 14 = .ok (.invokevirtual 65, 3) := by decide +kernel
theorem dX5_disagreements_17 : decode cX5_disagreements 17 = .ok (.ifCond .ne 5, 3) := by decide +kernel
theorem dX5_disagreements_20 : decode cX5_disagreements 20 = .ok (.iconst 0, 1) := by decide +kernel
theorem dX5_disagreements_21 : decode cX5_disagreements 21 = .ok (.ireturn, 1) := by decide +kernel
theorem dX5_disagreements_22 : decode cX5_disagreements 22 = .ok (.iconst 0, 1) := by decide +kernel
theorem dX5_disagreements_23 : decode cX5_disagreements 23 = .ok (.istore_n 2, 1) := by decide +kernel
theorem dX5_disagreements_24 : decode cX5_disagreements 24 = .ok (.iconst 0, 1) := by decide +kernel
theorem dX5_disagreements_25 : decode cX5_disagreements 25 = .ok (.istore_n 3, 1) := by decide +kernel
theorem dX5_disagreements_26 : decode cX5_disagreements 26 = .ok (.iload_n 3, 1) := by decide +kernel
theorem dX5_disagreements_27 : decode cX5_disagreements 27 = .ok (.aload_n 0, 1) := by decide +kernel
theorem dX5_disagreements_28 : decode cX5_disagreements 28 = .ok (.getfield 80, 3) := by decide +kernel
theorem dX5_disagreements_31 : decode cX5_disagreements 31 = .ok (.if_icmp .ge 123, 3) := by decide +kernel
theorem dX5_disagreements_34 : decode cX5_disagreements 34 = .ok (.iconst 0, 1) := by decide +kernel
theorem dX5_disagreements_35 : decode cX5_disagreements 35 = .ok (.istore 4, 2) := by decide +kernel
theorem dX5_disagreements_37 : decode cX5_disagreements 37 = .ok (.iload 4, 2) := by decide +kernel
theorem dX5_disagreements_39 : decode cX5_disagreements 39 = .ok (.iload_n 3, 1) := by decide +kernel
theorem dX5_disagreements_40 : decode cX5_disagreements 40 = .ok (.if_icmp .ge 108, 3) := by decide +kernel
theorem dX5_disagreements_43 : decode cX5_disagreements 43 = .ok (.aload_n 0, 1) := by decide +kernel
theorem dX5_disagreements_44 : decode cX5_disagreements 44 = .ok (.getfield 35, 3) := by decide +kernel
theorem dX5_disagreements_47 : decode cX5_disagreements 47 = .ok (.iload_n 3, 1) := by decide +kernel
theorem dX5_disagreements_48 : decode cX5_disagreements 48 = .ok (.iaload, 1) := by decide +kernel
theorem dX5_disagreements_49 : decode cX5_disagreements 49 = .ok (.iload_n 1, 1) := by decide +kernel
theorem dX5_disagreements_50 : decode cX5_disagreements 50 = .ok (.if_icmp .ne 45, 3) := by decide +kernel
theorem dX5_disagreements_53 : decode cX5_disagreements 53 = .ok (.aload_n 0, 1) := by decide +kernel
theorem dX5_disagreements_54 : decode cX5_disagreements 54 = .ok (.getfield 35, 3) := by decide +kernel
theorem dX5_disagreements_57 : decode cX5_disagreements 57 = .ok (.iload 4, 2) := by decide +kernel
theorem dX5_disagreements_59 : decode cX5_disagreements 59 = .ok (.iaload, 1) := by decide +kernel
theorem dX5_disagreements_60 : decode cX5_disagreements 60 = .ok (.iload_n 1, 1) := by decide +kernel
theorem dX5_disagreements_61 : decode cX5_disagreements 61 = .ok (.if_icmp .ne 34, 3) := by decide +kernel
theorem dX5_disagreements_64 : decode cX5_disagreements 64 = .ok (.aload_n 0, 1) := by decide +kernel
theorem dX5_disagreements_65 : decode cX5_disagreements 65 = .ok (.iload 4, 2) := by decide +kernel
theorem dX5_disagreements_67 : decode cX5_disagreements 67 = .ok (.aload_n 0, 1) := by decide +kernel
theorem dX5_disagreements_68 : decode cX5_disagreements 68 = .ok (.getfield 26, 3) := by decide +kernel
theorem dX5_disagreements_71 : decode cX5_disagreements 71 = .ok (.iload_n 3, 1) := by decide +kernel
theorem dX5_disagreements_72 : decode cX5_disagreements 72 = .ok (.iaload, 1) := by decide +kernel
theorem dX5_disagreements_73 : decode cX5_disagreements 73 = .ok (.aload_n 0, 1) := by decide +kernel
theorem dX5_disagreements_74 : decode cX5_disagreements 74 = .ok (.getfield 29, 3) := by decide +kernel
theorem dX5_disagreements_77 : decode cX5_disagreements 77 = .ok (.iload_n 3, 1) := by decide +kernel
theorem dX5_disagreements_78 : decode cX5_disagreements 78 = .ok (.iaload, 1) := by decide +kernel
theorem dX5_disagreements_79 : decode cX5_disagreements 79 = .ok (.aload_n 0, 1) := by decide +kernel
theorem dX5_disagreements_80 : decode cX5_disagreements 80 = .ok (.getfield 32, 3) := by decide +kernel
theorem dX5_disagreements_83 : decode cX5_disagreements 83 = .ok (.iload_n 3, 1) := by decide +kernel
theorem dX5_disagreements_84 : decode cX5_disagreements 84 = .ok (.iaload, 1) := by decide +kernel
theorem dX5_disagreements_85 : decode cX5_disagreements 85 = .ok (.invokevirtual 83, 3) := by decide +kernel
theorem dX5_disagreements_88 : decode cX5_disagreements 88 = .ok (.ifCond .eq 7, 3) := by decide +kernel
theorem dX5_disagreements_91 : decode cX5_disagreements 91 = .ok (.iconst 1, 1) := by decide +kernel
theorem dX5_disagreements_92 : decode cX5_disagreements 92 = .ok (.goto 4, 3) := by decide +kernel
theorem dX5_disagreements_95 : decode cX5_disagreements 95 = .ok (.iconst 0, 1) := by decide +kernel
theorem dX5_disagreements_96 : decode cX5_disagreements 96 = .ok (.istore 5, 2) := by decide +kernel
theorem dX5_disagreements_98 : decode cX5_disagreements 98 = .ok (.iload_n 2, 1) := by decide +kernel
theorem dX5_disagreements_99 : decode cX5_disagreements 99 = .ok (.iload 5, 2) := by decide +kernel
theorem dX5_disagreements_101 : decode cX5_disagreements 101 = .ok (.ifCond .eq 38, 3) := by decide +kernel
theorem dX5_disagreements_104 : decode cX5_disagreements 104 = .ok (.aload_n 0, 1) := by decide +kernel
theorem dX5_disagreements_105 : decode cX5_disagreements 105 = .ok (.getfield 38, 3) := by decide +kernel
theorem dX5_disagreements_108 : decode cX5_disagreements 108 = .ok (.iload_n 3, 1) := by decide +kernel
theorem dX5_disagreements_109 : decode cX5_disagreements 109 = .ok (.iaload, 1) := by decide +kernel
theorem dX5_disagreements_110 : decode cX5_disagreements 110 = .ok (.aload_n 0, 1) := by decide +kernel
theorem dX5_disagreements_111 : decode cX5_disagreements 111 = .ok (.getfield 38, 3) := by decide +kernel
theorem dX5_disagreements_114 : decode cX5_disagreements 114 = .ok (.iload 4, 2) := by decide +kernel
theorem dX5_disagreements_116 : decode cX5_disagreements 116 = .ok (.iaload, 1) := by decide +kernel
theorem dX5_disagreements_117 : decode cX5_disagreements 117 = .ok (.aload_n 0, 1) := by decide +kernel
theorem dX5_disagreements_118 : decode cX5_disagreements 118 = .ok (.iload_n 3, 1) := by decide +kernel
theorem dX5_disagreements_119 : decode cX5_disagreements 119 = .ok (.invokevirtual 90, 3) := by decide +kernel
theorem dX5_disagreements_122 : decode cX5_disagreements 122 = .ok (.aload_n 0, 1) := by decide +kernel
theorem dX5_disagreements_123 : decode cX5_disagreements 123 = .ok (.iload 4, 2) := by decide +kernel
theorem dX5_disagreements_125 : decode cX5_disagreements 125 = .ok (.invokevirtual 90, 3) := by decide +kernel
theorem dX5_disagreements_128 : decode cX5_disagreements 128 = .ok (.iadd, 1) := by decide +kernel
theorem dX5_disagreements_129 : decode cX5_disagreements 129 = .ok (.invokestatic 94, 3) := by decide +kernel
theorem dX5_disagreements_132 : decode cX5_disagreements 132 = .ok (.ifCond .eq 7, 3) := by decide +kernel
theorem dX5_disagreements_135 : decode cX5_disagreements 135 = .ok (.iconst 1, 1) := by decide +kernel
theorem dX5_disagreements_136 : decode cX5_disagreements 136 = .ok (.goto 4, 3) := by decide +kernel
theorem dX5_disagreements_139 : decode cX5_disagreements 139 = .ok (.iconst 0, 1) := by decide +kernel
theorem dX5_disagreements_140 : decode cX5_disagreements 140 = .ok (.iadd, 1) := by decide +kernel
theorem dX5_disagreements_141 : decode cX5_disagreements 141 = .ok (.istore_n 2, 1) := by decide +kernel
theorem dX5_disagreements_142 : decode cX5_disagreements 142 = .ok (.iinc 4 1, 3) := by decide +kernel
theorem dX5_disagreements_145 : decode cX5_disagreements 145 = .ok (.goto (-108), 3) := by decide +kernel
theorem dX5_disagreements_148 : decode cX5_disagreements 148 = .ok (.iinc 3 1, 3) := by decide +kernel
theorem dX5_disagreements_151 : decode cX5_disagreements 151 = .ok (.goto (-125), 3) := by decide +kernel
theorem dX5_disagreements_154 : decode cX5_disagreements 154 = .ok (.iload_n 2, 1) := by decide +kernel
theorem dX5_disagreements_155 : decode cX5_disagreements 155 = .ok (.ireturn, 1) := by decide +kernel
set_option maxRecDepth 20000 in
theorem ggX5_restated_X5_isFiling : GoodIn wsX5_restated wsX5_isFiling := goodIn_r _ [11, 12, 13, 14, 10, 15, 30, 31, 32, 33, 34, 35, 36, 37, 38, 39, 40, 41, 42, 43, 44, 45, 46] (by decide +kernel) (by decide +kernel)
set_option maxRecDepth 20000 in
theorem gX5_restated_X5_isFiling : GoodIn wsX5_restated (wsV RX5 87 RX5 yX5_isFiling wsX5_isFiling) := goodIn_app (goodIn_of _ (by decide +kernel)) ggX5_restated_X5_isFiling
set_option maxRecDepth 20000 in
theorem ggX5_restated_X5_can : GoodIn wsX5_restated wsX5_can := goodIn_r _ [19, 20, 30, 31, 32, 33, 34, 35, 36, 37, 38, 39, 40, 41, 42, 43, 44, 45, 46] (by decide +kernel) (by decide +kernel)
set_option maxRecDepth 20000 in
theorem gX5_restated_X5_can : GoodIn wsX5_restated (wsV RX5 65 RX5 yX5_can wsX5_can) := goodIn_app (goodIn_of _ (by decide +kernel)) ggX5_restated_X5_can
set_option maxRecDepth 20000 in
theorem ggX5_restated_X5_holds : GoodIn wsX5_restated wsX5_holds := goodIn_r _ [24, 1, 2, 25, 26, 27, 28, 10, 29, 3, 4, 5, 30, 31, 32, 33, 34, 35, 36, 37, 38, 39, 40, 41, 42, 43, 44, 45, 46] (by decide +kernel) (by decide +kernel)
set_option maxRecDepth 20000 in
theorem gX5_restated_X5_holds : GoodIn wsX5_restated (wsV RX5 97 RX5 yX5_holds wsX5_holds) := goodIn_app (goodIn_of _ (by decide +kernel)) ggX5_restated_X5_holds
theorem dX5_restated_0 : decode cX5_restated 0 = .ok (.aload_n 0, 1) := by decide +kernel
theorem dX5_restated_1 : decode cX5_restated 1 = .ok (.aload_n 0, 1) := by decide +kernel
theorem dX5_restated_2 : decode cX5_restated 2 = .ok (.iload_n 1, 1) := by decide +kernel
theorem dX5_restated_3 : decode cX5_restated 3 = .ok (.invokevirtual 87, 3) := by decide +kernel
theorem dX5_restated_6 : decode cX5_restated 6 = .ok (.ifCond .eq 7, 3) := by decide +kernel
theorem dX5_restated_9 : decode cX5_restated 9 = .ok (.iconst 0, 1) := by decide +kernel
theorem dX5_restated_10 : decode cX5_restated 10 = .ok (.goto 4, 3) := by decide +kernel
theorem dX5_restated_13 : decode cX5_restated 13 = .ok (.iconst 1, 1) := by decide +kernel
theorem dX5_restated_14 : decode cX5_restated 14 = .ok (.invokevirtual 65, 3) := by decide +kernel
theorem dX5_restated_17 : decode cX5_restated 17 = .ok (.ifCond .ne 5, 3) := by decide +kernel
theorem dX5_restated_20 : decode cX5_restated 20 = .ok (.iconst 0, 1) := by decide +kernel
theorem dX5_restated_21 : decode cX5_restated 21 = .ok (.ireturn, 1) := by decide +kernel
theorem dX5_restated_22 : decode cX5_restated 22 = .ok (.iconst 0, 1) := by decide +kernel
theorem dX5_restated_23 : decode cX5_restated 23 = .ok (.istore_n 2, 1) := by decide +kernel
theorem dX5_restated_24 : decode cX5_restated 24 = .ok (.iconst 0, 1) := by decide +kernel
theorem dX5_restated_25 : decode cX5_restated 25 = .ok (.istore_n 3, 1) := by decide +kernel
theorem dX5_restated_26 : decode cX5_restated 26 = .ok (.iload_n 3, 1) := by decide +kernel
theorem dX5_restated_27 : decode cX5_restated 27 = .ok (.aload_n 0, 1) := by decide +kernel
theorem dX5_restated_28 : decode cX5_restated 28 = .ok (.getfield 80, 3) := by decide +kernel
theorem dX5_restated_31 : decode cX5_restated 31 = .ok (.if_icmp .ge 115, 3) := by decide +kernel
theorem dX5_restated_34 : decode cX5_restated 34 = .ok (.aload_n 0, 1) := by decide +kernel
theorem dX5_restated_35 : decode cX5_restated 35 = .ok (.getfield 35, 3) := by decide +kernel
theorem dX5_restated_38 : decode cX5_restated 38 = .ok (.iload_n 3, 1) := by decide +kernel
theorem dX5_restated_39 : decode cX5_restated 39 = .ok (.iaload, 1) := by decide +kernel
theorem dX5_restated_40 : decode cX5_restated 40 = .ok (.iload_n 1, 1) := by decide +kernel
theorem dX5_restated_41 : decode cX5_restated 41 = .ok (.if_icmp .ne 34, 3) := by decide +kernel
theorem dX5_restated_44 : decode cX5_restated 44 = .ok (.aload_n 0, 1) := by decide +kernel
theorem dX5_restated_45 : decode cX5_restated 45 = .ok (.aload_n 0, 1) := by decide +kernel
theorem dX5_restated_46 : decode cX5_restated 46 = .ok (.getfield 26, 3) := by decide +kernel
theorem dX5_restated_49 : decode cX5_restated 49 = .ok (.iload_n 3, 1) := by decide +kernel
theorem dX5_restated_50 : decode cX5_restated 50 = .ok (.iaload, 1) := by decide +kernel
theorem dX5_restated_51 : decode cX5_restated 51 = .ok (.aload_n 0, 1) := by decide +kernel
theorem dX5_restated_52 : decode cX5_restated 52 = .ok (.getfield 29, 3) := by decide +kernel
theorem dX5_restated_55 : decode cX5_restated 55 = .ok (.iload_n 3, 1) := by decide +kernel
theorem dX5_restated_56 : decode cX5_restated 56 = .ok (.iaload, 1) := by decide +kernel
theorem dX5_restated_57 : decode cX5_restated 57 = .ok (.aload_n 0, 1) := by decide +kernel
theorem dX5_restated_58 : decode cX5_restated 58 = .ok (.getfield 32, 3) := by decide +kernel
theorem dX5_restated_61 : decode cX5_restated 61 = .ok (.iload_n 3, 1) := by decide +kernel
theorem dX5_restated_62 : decode cX5_restated 62 = .ok (.iaload, 1) := by decide +kernel
theorem dX5_restated_63 : decode cX5_restated 63 = .ok (.iload_n 1, 1) := by decide +kernel
theorem dX5_restated_64 : decode cX5_restated 64 = .ok (.invokevirtual 97, 3) := by decide +kernel
theorem dX5_restated_67 : decode cX5_restated 67 = .ok (.iload_n 3, 1) := by decide +kernel
theorem dX5_restated_68 : decode cX5_restated 68 = .ok (.if_icmp .ne 7, 3) := by decide +kernel
theorem dX5_restated_71 : decode cX5_restated 71 = .ok (.iconst 1, 1) := by decide +kernel
theorem dX5_restated_72 : decode cX5_restated 72 = .ok (.goto 4, 3) := by decide +kernel
theorem dX5_restated_75 : decode cX5_restated 75 = .ok (.iconst 0, 1) := by decide +kernel
theorem dX5_restated_76 : decode cX5_restated 76 = .ok (.istore 4, 2) := by decide +kernel
theorem dX5_restated_78 : decode cX5_restated 78 = .ok (.aload_n 0, 1) := by decide +kernel
theorem dX5_restated_79 : decode cX5_restated 79 = .ok (.aload_n 0, 1) := by decide +kernel
theorem dX5_restated_80 : decode cX5_restated 80 = .ok (.getfield 26, 3) := by decide +kernel
theorem dX5_restated_83 : decode cX5_restated 83 = .ok (.iload_n 3, 1) := by decide +kernel
theorem dX5_restated_84 : decode cX5_restated 84 = .ok (.iaload, 1) := by decide +kernel
theorem dX5_restated_85 : decode cX5_restated 85 = .ok (.aload_n 0, 1) := by decide +kernel
theorem dX5_restated_86 : decode cX5_restated 86 = .ok (.getfield 29, 3) := by decide +kernel
theorem dX5_restated_89 : decode cX5_restated 89 = .ok (.iload_n 3, 1) := by decide +kernel
theorem dX5_restated_90 : decode cX5_restated 90 = .ok (.iaload, 1) := by decide +kernel
theorem dX5_restated_91 : decode cX5_restated 91 = .ok (.aload_n 0, 1) := by decide +kernel
theorem dX5_restated_92 : decode cX5_restated 92 = .ok (.getfield 32, 3) := by decide +kernel
theorem dX5_restated_95 : decode cX5_restated 95 = .ok (.iload_n 3, 1) := by decide +kernel
theorem dX5_restated_96 : decode cX5_restated 96 = .ok (.iaload, 1) := by decide +kernel
theorem dX5_restated_97 : decode cX5_restated 97 = .ok (.iload_n 1, 1) := by decide +kernel
theorem dX5_restated_98 : decode cX5_restated 98 = .ok (.iconst 1, 1) := by decide +kernel
theorem dX5_restated_99 : decode cX5_restated 99 = .ok (.isub, 1) := by decide +kernel
theorem dX5_restated_100 : decode cX5_restated 100 = .ok (.invokevirtual 97, 3) := by decide +kernel
theorem dX5_restated_103 : decode cX5_restated 103 = .ok (.istore 5, 2) := by decide +kernel
theorem dX5_restated_105 : decode cX5_restated 105 = .ok (.iload_n 2, 1) := by decide +kernel
theorem dX5_restated_106 : decode cX5_restated 106 = .ok (.iload 4, 2) := by decide +kernel
theorem dX5_restated_108 : decode cX5_restated 108 = .ok (.ifCond .eq 29, 3) := by decide +kernel
theorem dX5_restated_111 : decode cX5_restated 111 = .ok (.iload 5, 2) := by decide +kernel
theorem dX5_restated_113 : decode cX5_restated 113 = .ok (.iconst (-1), 1) := by decide +kernel
theorem dX5_restated_114 : decode cX5_restated 114 = .ok (.if_icmp .eq 23, 3) := by decide +kernel
theorem dX5_restated_117 : decode cX5_restated 117 = .ok (.aload_n 0, 1) := by decide +kernel
theorem dX5_restated_118 : decode cX5_restated 118 = .ok (.getfield 38, 3) := by decide +kernel
theorem dX5_restated_121 : decode cX5_restated 121 = .ok (.iload 5, 2) := by decide +kernel
theorem dX5_restated_123 : decode cX5_restated 123 = .ok (.iaload, 1) := by decide +kernel
theorem dX5_restated_124 : decode cX5_restated 124 = .ok (.aload_n 0, 1) := by decide +kernel
theorem dX5_restated_125 : decode cX5_restated 125 = .ok (.getfield 38, 3) := by decide +kernel
theorem dX5_restated_128 : decode cX5_restated 128 = .ok (.iload_n 3, 1) := by decide +kernel
theorem dX5_restated_129 : decode cX5_restated 129 = .ok (.iaload, 1) := by decide +kernel
theorem dX5_restated_130 : decode cX5_restated 130 = .ok (.if_icmp .eq 7, 3) := by decide +kernel
theorem dX5_restated_133 : decode cX5_restated 133 = .ok (.iconst 1, 1) := by decide +kernel
theorem dX5_restated_134 : decode cX5_restated 134 = .ok (.goto 4, 3) := by decide +kernel
theorem dX5_restated_137 : decode cX5_restated 137 = .ok (.iconst 0, 1) := by decide +kernel
theorem dX5_restated_138 : decode cX5_restated 138 = .ok (.iadd, 1) := by decide +kernel
theorem dX5_restated_139 : decode cX5_restated 139 = .ok (.istore_n 2, 1) := by decide +kernel
theorem dX5_restated_140 : decode cX5_restated 140 = .ok (.iinc 3 1, 3) := by decide +kernel
theorem dX5_restated_143 : decode cX5_restated 143 = .ok (.goto (-117), 3) := by decide +kernel
theorem dX5_restated_146 : decode cX5_restated 146 = .ok (.iload_n 2, 1) := by decide +kernel
theorem dX5_restated_147 : decode cX5_restated 147 = .ok (.ireturn, 1) := by decide +kernel
set_option maxRecDepth 20000 in
theorem ggX5_isAsked_X5_isKey : GoodIn wsX5_isAsked wsX5_isKey := goodIn_r _ [5, 6, 7, 8, 4, 9, 10, 11, 12, 13, 19, 20, 21, 22, 23, 24, 25, 26, 27, 28, 29, 30, 31, 32, 33, 34, 35] (by decide +kernel) (by decide +kernel)
set_option maxRecDepth 20000 in
theorem gX5_isAsked_X5_isKey : GoodIn wsX5_isAsked (wsV RX5 77 RX5 yX5_isKey wsX5_isKey) := goodIn_app (goodIn_of _ (by decide +kernel)) ggX5_isAsked_X5_isKey
set_option maxRecDepth 20000 in
theorem ggX5_isAsked_X5_isFiling : GoodIn wsX5_isAsked wsX5_isFiling := goodIn_r _ [17, 18, 11, 12, 4, 13, 19, 20, 21, 22, 23, 24, 25, 26, 27, 28, 29, 30, 31, 32, 33, 34, 35] (by decide +kernel) (by decide +kernel)
set_option maxRecDepth 20000 in
theorem gX5_isAsked_X5_isFiling : GoodIn wsX5_isAsked (wsV RX5 87 RX5 yX5_isFiling wsX5_isFiling) := goodIn_app (goodIn_of _ (by decide +kernel)) ggX5_isAsked_X5_isFiling
theorem dX5_isAsked_0 : decode cX5_isAsked 0 = .ok (.aload_n 0, 1) := by decide +kernel
theorem dX5_isAsked_1 : decode cX5_isAsked 1 = .ok (.iload_n 1, 1) := by decide +kernel
theorem dX5_isAsked_2 : decode cX5_isAsked 2 = .ok (.iload_n 2, 1) := by decide +kernel
theorem dX5_isAsked_3 : decode cX5_isAsked 3 = .ok (.iload_n 3, 1) := by decide +kernel
theorem dX5_isAsked_4 : decode cX5_isAsked 4 = .ok (.invokevirtual 77, 3) := by decide +kernel
theorem dX5_isAsked_7 : decode cX5_isAsked 7 = .ok (.ifCond .eq 16, 3) := by decide +kernel
theorem dX5_isAsked_10 : decode cX5_isAsked 10 = .ok (.aload_n 0, 1) := by decide +kernel
theorem dX5_isAsked_11 : decode cX5_isAsked 11 = .ok (.iload 4, 2) := by decide +kernel
theorem dX5_isAsked_13 : decode cX5_isAsked 13 = .ok (.invokevirtual 87, 3) := by decide +kernel
theorem dX5_isAsked_16 : decode cX5_isAsked 16 = .ok (.ifCond .eq 7, 3) := by decide +kernel
theorem dX5_isAsked_19 : decode cX5_isAsked 19 = .ok (.iconst 1, 1) := by decide +kernel
theorem dX5_isAsked_20 : decode cX5_isAsked 20 = .ok (.goto 4, 3) := by decide +kernel
theorem dX5_isAsked_23 : decode cX5_isAsked 23 = .ok (.iconst 0, 1) := by decide +kernel
theorem dX5_isAsked_24 : decode cX5_isAsked 24 = .ok (.ireturn, 1) := by decide +kernel
set_option maxRecDepth 20000 in
theorem ggX5_value_X5_isAsked : GoodIn wsX5_value wsX5_isAsked := goodIn_r _ [6, 7, 8, 9, 5, 10, 11, 12, 13, 14, 15, 16, 17, 18, 19, 20, 21, 22, 23, 43, 44, 45, 46, 47, 48, 49, 50, 51, 52, 53, 54, 55, 56, 57, 58, 59] (by decide +kernel) (by decide +kernel)
set_option maxRecDepth 20000 in
theorem gX5_value_X5_isAsked : GoodIn wsX5_value (wsV RX5 101 RX5 yX5_isAsked wsX5_isAsked) := goodIn_app (goodIn_of _ (by decide +kernel)) ggX5_value_X5_isAsked
set_option maxRecDepth 20000 in
theorem ggX5_value_X5_holds : GoodIn wsX5_value wsX5_holds := goodIn_r _ [27, 28, 29, 30, 31, 32, 33, 5, 34, 35, 36, 37, 43, 44, 45, 46, 47, 48, 49, 50, 51, 52, 53, 54, 55, 56, 57, 58, 59] (by decide +kernel) (by decide +kernel)
set_option maxRecDepth 20000 in
theorem gX5_value_X5_holds : GoodIn wsX5_value (wsV RX5 97 RX5 yX5_holds wsX5_holds) := goodIn_app (goodIn_of _ (by decide +kernel)) ggX5_value_X5_holds
set_option maxRecDepth 20000 in
theorem ggX5_value_X5_can : GoodIn wsX5_value wsX5_can := goodIn_r _ [41, 42, 43, 44, 45, 46, 47, 48, 49, 50, 51, 52, 53, 54, 55, 56, 57, 58, 59] (by decide +kernel) (by decide +kernel)
set_option maxRecDepth 20000 in
theorem gX5_value_X5_can : GoodIn wsX5_value (wsV RX5 65 RX5 yX5_can wsX5_can) := goodIn_app (goodIn_of _ (by decide +kernel)) ggX5_value_X5_can
theorem dX5_value_0 : decode cX5_value 0 = .ok (.aload_n 0, 1) := by decide +kernel
theorem dX5_value_1 : decode cX5_value 1 = .ok (.iload_n 1, 1) := by decide +kernel
theorem dX5_value_2 : decode cX5_value 2 = .ok (.iload_n 2, 1) := by decide +kernel
theorem dX5_value_3 : decode cX5_value 3 = .ok (.iload_n 3, 1) := by decide +kernel
theorem dX5_value_4 : decode cX5_value 4 = .ok (.iload 4, 2) := by decide +kernel
theorem dX5_value_6 : decode cX5_value 6 = .ok (.invokevirtual 101, 3) := by decide +kernel
theorem dX5_value_9 : decode cX5_value 9 = .ok (.istore 5, 2) := by decide +kernel
theorem dX5_value_11 : decode cX5_value 11 = .ok (.iload 5, 2) := by decide +kernel
theorem dX5_value_13 : decode cX5_value 13 = .ok (.ifCond .eq 15, 3) := by decide +kernel
theorem dX5_value_16 : decode cX5_value 16 = .ok (.aload_n 0, 1) := by decide +kernel
theorem dX5_value_17 : decode cX5_value 17 = .ok (.iload_n 1, 1) := by decide +kernel
theorem dX5_value_18 : decode cX5_value 18 = .ok (.iload_n 2, 1) := by decide +kernel
theorem dX5_value_19 : decode cX5_value 19 = .ok (.iload_n 3, 1) := by decide +kernel
theorem dX5_value_20 : decode cX5_value 20 = .ok (.iload 4, 2) := by decide +kernel
theorem dX5_value_22 : decode cX5_value 22 = .ok (.invokevirtual 97, 3) := by decide +kernel
theorem dX5_value_25 : decode cX5_value 25 = .ok (.goto 4, 3) := by decide +kernel
theorem dX5_value_28 : decode cX5_value 28 = .ok (.iconst (-1), 1) := by decide +kernel
theorem dX5_value_29 : decode cX5_value 29 = .ok (.istore 6, 2) := by decide +kernel
theorem dX5_value_31 : decode cX5_value 31 = .ok (.aload_n 0, 1) := by decide +kernel
theorem dX5_value_32 : decode cX5_value 32 = .ok (.iload 5, 2) := by decide +kernel
theorem dX5_value_34 : decode cX5_value 34 = .ok (.ifCond .ne 7, 3) := by decide +kernel
theorem dX5_value_37 : decode cX5_value 37 = .ok (.iconst 1, 1) := by decide +kernel
theorem dX5_value_38 : decode cX5_value 38 = .ok (.goto 14, 3) := by decide +kernel
theorem dX5_value_41 : decode cX5_value 41 = .ok (.iload 6, 2) := by decide +kernel
theorem dX5_value_43 : decode cX5_value 43 = .ok (.iconst (-1), 1) := by decide +kernel
theorem dX5_value_44 : decode cX5_value 44 = .ok (.if_icmp .ne 7, 3) := by decide +kernel
theorem dX5_value_47 : decode cX5_value 47 = .ok (.iconst 2, 1) := by decide +kernel
theorem dX5_value_48 : decode cX5_value 48 = .ok (.goto 4, 3) := by decide +kernel
theorem dX5_value_51 : decode cX5_value 51 = .ok (.iconst 0, 1) := by decide +kernel
theorem dX5_value_52 : decode cX5_value 52 = .ok (.invokevirtual 65, 3) := by decide +kernel
theorem dX5_value_55 : decode cX5_value 55 = .ok (.ifCond .eq 13, 3) := by decide +kernel
theorem dX5_value_58 : decode cX5_value 58 = .ok (.aload_n 0, 1) := by decide +kernel
theorem dX5_value_59 : decode cX5_value 59 = .ok (.getfield 38, 3) := by decide +kernel
theorem dX5_value_62 : decode cX5_value 62 = .ok (.iload 6, 2) := by decide +kernel
theorem dX5_value_64 : decode cX5_value 64 = .ok (.iaload, 1) := by decide +kernel
theorem dX5_value_65 : decode cX5_value 65 = .ok (.goto 4, 3) := by decide +kernel
theorem dX5_value_68 : decode cX5_value 68 = .ok (.iconst 0, 1) := by decide +kernel
theorem dX5_value_69 : decode cX5_value 69 = .ok (.ireturn, 1) := by decide +kernel
set_option maxRecDepth 20000 in
theorem ggX5_doubt_X5_isAsked : GoodIn wsX5_doubt wsX5_isAsked := goodIn_r _ [5, 6, 7, 8, 4, 9, 10, 11, 12, 13, 14, 15, 16, 17, 18, 19, 20, 21, 22, 46, 47, 48, 49, 50, 51, 52, 53, 54, 55, 56, 57, 58, 59, 60, 61, 62] (by decide +kernel) (by decide +kernel)
set_option maxRecDepth 20000 in
theorem gX5_doubt_X5_isAsked : GoodIn wsX5_doubt (wsV RX5 101 RX5 yX5_isAsked wsX5_isAsked) := goodIn_app (goodIn_of _ (by decide +kernel)) ggX5_doubt_X5_isAsked
set_option maxRecDepth 20000 in
theorem ggX5_doubt_X5_holds : GoodIn wsX5_doubt wsX5_holds := goodIn_r _ [26, 27, 28, 29, 30, 31, 32, 4, 33, 34, 35, 36, 46, 47, 48, 49, 50, 51, 52, 53, 54, 55, 56, 57, 58, 59, 60, 61, 62] (by decide +kernel) (by decide +kernel)
set_option maxRecDepth 20000 in
theorem gX5_doubt_X5_holds : GoodIn wsX5_doubt (wsV RX5 97 RX5 yX5_holds wsX5_holds) := goodIn_app (goodIn_of _ (by decide +kernel)) ggX5_doubt_X5_holds
set_option maxRecDepth 20000 in
theorem ggX5_doubt_X5_can : GoodIn wsX5_doubt wsX5_can := goodIn_r _ [40, 41, 46, 47, 48, 49, 50, 51, 52, 53, 54, 55, 56, 57, 58, 59, 60, 61, 62] (by decide +kernel) (by decide +kernel)
set_option maxRecDepth 20000 in
theorem gX5_doubt_X5_can : GoodIn wsX5_doubt (wsV RX5 65 RX5 yX5_can wsX5_can) := goodIn_app (goodIn_of _ (by decide +kernel)) ggX5_doubt_X5_can
set_option maxRecDepth 20000 in
theorem ggX5_doubt_X5_doubtOf : GoodIn wsX5_doubt wsX5_doubtOf := goodIn_r _ [45, 29, 46, 47, 48, 49, 50, 51, 52, 53, 54, 55, 56, 57, 58, 59, 60, 61, 62] (by decide +kernel) (by decide +kernel)
set_option maxRecDepth 20000 in
theorem gX5_doubt_X5_doubtOf : GoodIn wsX5_doubt (wsV RX5 90 RX5 yX5_doubtOf wsX5_doubtOf) := goodIn_app (goodIn_of _ (by decide +kernel)) ggX5_doubt_X5_doubtOf
theorem dX5_doubt_0 : decode cX5_doubt 0 = .ok (.aload_n 0, 1) := by decide +kernel
theorem dX5_doubt_1 : decode cX5_doubt 1 = .ok (.iload_n 1, 1) := by decide +kernel
theorem dX5_doubt_2 : decode cX5_doubt 2 = .ok (.iload_n 2, 1) := by decide +kernel
theorem dX5_doubt_3 : decode cX5_doubt 3 = .ok (.iload_n 3, 1) := by decide +kernel
theorem dX5_doubt_4 : decode cX5_doubt 4 = .ok (.iload 4, 2) := by decide +kernel
theorem dX5_doubt_6 : decode cX5_doubt 6 = .ok (.invokevirtual 101, 3) := by decide +kernel
theorem dX5_doubt_9 : decode cX5_doubt 9 = .ok (.istore 5, 2) := by decide +kernel
theorem dX5_doubt_11 : decode cX5_doubt 11 = .ok (.iload 5, 2) := by decide +kernel
theorem dX5_doubt_13 : decode cX5_doubt 13 = .ok (.ifCond .eq 15, 3) := by decide +kernel
theorem dX5_doubt_16 : decode cX5_doubt 16 = .ok (.aload_n 0, 1) := by decide +kernel
theorem dX5_doubt_17 : decode cX5_doubt 17 = .ok (.iload_n 1, 1) := by decide +kernel
theorem dX5_doubt_18 : decode cX5_doubt 18 = .ok (.iload_n 2, 1) := by decide +kernel
theorem dX5_doubt_19 : decode cX5_doubt 19 = .ok (.iload_n 3, 1) := by decide +kernel
theorem dX5_doubt_20 : decode cX5_doubt 20 = .ok (.iload 4, 2) := by decide +kernel
theorem dX5_doubt_22 : decode cX5_doubt 22 = .ok (.invokevirtual 97, 3) := by decide +kernel
theorem dX5_doubt_25 : decode cX5_doubt 25 = .ok (.goto 4, 3) := by decide +kernel
theorem dX5_doubt_28 : decode cX5_doubt 28 = .ok (.iconst (-1), 1) := by decide +kernel
theorem dX5_doubt_29 : decode cX5_doubt 29 = .ok (.istore 6, 2) := by decide +kernel
theorem dX5_doubt_31 : decode cX5_doubt 31 = .ok (.aload_n 0, 1) := by decide +kernel
theorem dX5_doubt_32 : decode cX5_doubt 32 = .ok (.iload 5, 2) := by decide +kernel
theorem dX5_doubt_34 : decode cX5_doubt 34 = .ok (.ifCond .ne 7, 3) := by decide +kernel
theorem dX5_doubt_37 : decode cX5_doubt 37 = .ok (.iconst 1, 1) := by decide +kernel
theorem dX5_doubt_38 : decode cX5_doubt 38 = .ok (.goto 14, 3) := by decide +kernel
theorem dX5_doubt_41 : decode cX5_doubt 41 = .ok (.iload 6, 2) := by decide +kernel
theorem dX5_doubt_43 : decode cX5_doubt 43 = .ok (.iconst (-1), 1) := by decide +kernel
theorem dX5_doubt_44 : decode cX5_doubt 44 = .ok (.if_icmp .ne 7, 3) := by decide +kernel
theorem dX5_doubt_47 : decode cX5_doubt 47 = .ok (.iconst 2, 1) := by decide +kernel
theorem dX5_doubt_48 : decode cX5_doubt 48 = .ok (.goto 4, 3) := by decide +kernel
theorem dX5_doubt_51 : decode cX5_doubt 51 = .ok (.iconst 0, 1) := by decide +kernel
theorem dX5_doubt_52 : decode cX5_doubt 52 = .ok (.invokevirtual 65, 3) := by decide +kernel
theorem dX5_doubt_55 : decode cX5_doubt 55 = .ok (.ifCond .eq 12, 3) := by decide +kernel
theorem dX5_doubt_58 : decode cX5_doubt 58 = .ok (.aload_n 0, 1) := by decide +kernel
theorem dX5_doubt_59 : decode cX5_doubt 59 = .ok (.iload 6, 2) := by decide +kernel
theorem dX5_doubt_61 : decode cX5_doubt 61 = .ok (.invokevirtual 90, 3) := by decide +kernel
theorem dX5_doubt_64 : decode cX5_doubt 64 = .ok (.goto 4, 3) := by decide +kernel
theorem dX5_doubt_67 : decode cX5_doubt 67 = .ok (.iconst 0, 1) := by decide +kernel
theorem dX5_doubt_68 : decode cX5_doubt 68 = .ok (.ireturn, 1) := by decide +kernel
set_option maxRecDepth 20000 in
theorem ggX5_sumOf_X5_holds : GoodIn wsX5_sumOf wsX5_holds := goodIn_r _ [9, 10, 11, 12, 13, 14, 15, 8, 16, 17, 18, 19, 20, 21, 22, 23, 24, 25, 26, 27, 28, 29, 30, 31, 32, 33, 34, 35, 36] (by decide +kernel) (by decide +kernel)
set_option maxRecDepth 20000 in
theorem gX5_sumOf_X5_holds : GoodIn wsX5_sumOf (wsV RX5 97 RX5 yX5_holds wsX5_holds) := goodIn_app (goodIn_of _ (by decide +kernel)) ggX5_sumOf_X5_holds
theorem dX5_sumOf_0 : decode cX5_sumOf 0 = .ok (.iconst 0, 1) := by decide +kernel
theorem dX5_sumOf_1 : decode cX5_sumOf 1 = .ok (.istore 5, 2) := by decide +kernel
theorem dX5_sumOf_3 : decode cX5_sumOf 3 = .ok (.iconst 0, 1) := by decide +kernel
theorem dX5_sumOf_4 : decode cX5_sumOf 4 = .ok (.istore 6, 2) := by decide +kernel
theorem dX5_sumOf_6 : decode cX5_sumOf 6 = .ok (.iload 6, 2) := by decide +kernel
theorem dX5_sumOf_8 : decode cX5_sumOf 8 = .ok (.aload_n 0, 1) := by decide +kernel
theorem dX5_sumOf_9 : decode cX5_sumOf 9 = .ok (.getfield 54, 3) := by decide +kernel
theorem dX5_sumOf_12 : decode cX5_sumOf 12 = .ok (.if_icmp .ge 66, 3) := by decide +kernel
theorem dX5_sumOf_15 : decode cX5_sumOf 15 = .ok (.aload_n 0, 1) := by decide +kernel
theorem dX5_sumOf_16 : decode cX5_sumOf 16 = .ok (.getfield 7, 3) := by decide +kernel
theorem dX5_sumOf_19 : decode cX5_sumOf 19 = .ok (.iload 6, 2) := by decide +kernel
theorem dX5_sumOf_21 : decode cX5_sumOf 21 = .ok (.iaload, 1) := by decide +kernel
theorem dX5_sumOf_22 : decode cX5_sumOf 22 = .ok (.iload_n 1, 1) := by decide +kernel
theorem dX5_sumOf_23 : decode cX5_sumOf 23 = .ok (.if_icmp .ne 16, 3) := by decide +kernel
theorem dX5_sumOf_26 : decode cX5_sumOf 26 = .ok (.aload_n 0, 1) := by decide +kernel
theorem dX5_sumOf_27 : decode cX5_sumOf 27 = .ok (.iload 6, 2) := by decide +kernel
theorem dX5_sumOf_29 : decode cX5_sumOf 29 = .ok (.iload_n 2, 1) := by decide +kernel
theorem dX5_sumOf_30 : decode cX5_sumOf 30 = .ok (.iload_n 3, 1) := by decide +kernel
theorem dX5_sumOf_31 : decode cX5_sumOf 31 = .ok (.iload 4, 2) := by decide +kernel
theorem dX5_sumOf_33 : decode cX5_sumOf 33 = .ok (.invokevirtual 97, 3) := by decide +kernel
theorem dX5_sumOf_36 : decode cX5_sumOf 36 = .ok (.goto 4, 3) := by decide +kernel
theorem dX5_sumOf_39 : decode cX5_sumOf 39 = .ok (.iconst (-1), 1) := by decide +kernel
theorem dX5_sumOf_40 : decode cX5_sumOf 40 = .ok (.istore 7, 2) := by decide +kernel
theorem dX5_sumOf_42 : decode cX5_sumOf 42 = .ok (.iload 5, 2) := by decide +kernel
theorem dX5_sumOf_44 : decode cX5_sumOf 44 = .ok (.iload 7, 2) := by decide +kernel
theorem dX5_sumOf_46 : decode cX5_sumOf 46 = .ok (.iconst (-1), 1) := by decide +kernel
theorem dX5_sumOf_47 : decode cX5_sumOf 47 = .ok (.if_icmp .ne 7, 3) := by decide +kernel
theorem dX5_sumOf_50 : decode cX5_sumOf 50 = .ok (.iconst 0, 1) := by decide +kernel
theorem dX5_sumOf_51 : decode cX5_sumOf 51 = .ok (.goto 18, 3) := by decide +kernel
theorem dX5_sumOf_54 : decode cX5_sumOf 54 = .ok (.aload_n 0, 1) := by decide +kernel
theorem dX5_sumOf_55 : decode cX5_sumOf 55 = .ok (.getfield 13, 3) := by decide +kernel
theorem dX5_sumOf_58 : decode cX5_sumOf 58 = .ok (.iload 6, 2) := by decide +kernel
theorem dX5_sumOf_60 : decode cX5_sumOf 60 = .ok (.iaload, 1) := by decide +kernel
theorem dX5_sumOf_61 : decode cX5_sumOf 61 = .ok (.aload_n 0, 1) := by decide +kernel
theorem dX5_sumOf_62 : decode cX5_sumOf 62 = .ok (.getfield 38, 3) := by decide +kernel
theorem dX5_sumOf_65 : decode cX5_sumOf 65 = .ok (.iload 7, 2) := by decide +kernel
theorem dX5_sumOf_67 : decode cX5_sumOf 67 = .ok (.iaload, 1) := by decide +kernel
theorem dX5_sumOf_68 : decode cX5_sumOf 68 = .ok (.imul, 1) := by decide +kernel
theorem dX5_sumOf_69 : decode cX5_sumOf 69 = .ok (.iadd, 1) := by decide +kernel
theorem dX5_sumOf_70 : decode cX5_sumOf 70 = .ok (.istore 5, 2) := by decide +kernel
theorem dX5_sumOf_72 : decode cX5_sumOf 72 = .ok (.iinc 6 1, 3) := by decide +kernel
theorem dX5_sumOf_75 : decode cX5_sumOf 75 = .ok (.goto (-69), 3) := by decide +kernel
theorem dX5_sumOf_78 : decode cX5_sumOf 78 = .ok (.iload 5, 2) := by decide +kernel
theorem dX5_sumOf_80 : decode cX5_sumOf 80 = .ok (.ireturn, 1) := by decide +kernel
set_option maxRecDepth 20000 in
theorem ggX5_sum_X5_isAsked : GoodIn wsX5_sum wsX5_isAsked := goodIn_r _ [5, 6, 7, 8, 4, 9, 10, 11, 12, 13, 14, 15, 16, 17, 18, 19, 20, 21, 22, 49, 50, 51, 52, 53, 54, 55, 56, 57, 58, 59, 60, 61, 62, 63, 64, 65] (by decide +kernel) (by decide +kernel)
set_option maxRecDepth 20000 in
theorem gX5_sum_X5_isAsked : GoodIn wsX5_sum (wsV RX5 101 RX5 yX5_isAsked wsX5_isAsked) := goodIn_app (goodIn_of _ (by decide +kernel)) ggX5_sum_X5_isAsked
set_option maxRecDepth 20000 in
theorem ggX5_sum_X5_can : GoodIn wsX5_sum wsX5_can := goodIn_r _ [26, 27, 49, 50, 51, 52, 53, 54, 55, 56, 57, 58, 59, 60, 61, 62, 63, 64, 65] (by decide +kernel) (by decide +kernel)
set_option maxRecDepth 20000 in
theorem gX5_sum_X5_can : GoodIn wsX5_sum (wsV RX5 65 RX5 yX5_can wsX5_can) := goodIn_app (goodIn_of _ (by decide +kernel)) ggX5_sum_X5_can
set_option maxRecDepth 20000 in
theorem ggX5_sum_X5_sumOf : GoodIn wsX5_sum wsX5_sumOf := goodIn_r _ [31, 14, 32, 33, 34, 35, 36, 37, 4, 38, 39, 40, 41, 42, 43, 44, 45, 46, 47, 48, 49, 50, 51, 52, 53, 54, 55, 56, 57, 58, 59, 60, 61, 62, 63, 64, 65] (by decide +kernel) (by decide +kernel)
set_option maxRecDepth 20000 in
theorem gX5_sum_X5_sumOf : GoodIn wsX5_sum (wsV RX5 104 RX5 yX5_sumOf wsX5_sumOf) := goodIn_app (goodIn_of _ (by decide +kernel)) ggX5_sum_X5_sumOf
theorem dX5_sum_0 : decode cX5_sum 0 = .ok (.aload_n 0, 1) := by decide +kernel
theorem dX5_sum_1 : decode cX5_sum 1 = .ok (.aload_n 0, 1) := by decide +kernel
theorem dX5_sum_2 : decode cX5_sum 2 = .ok (.iload_n 1, 1) := by decide +kernel
theorem dX5_sum_3 : decode cX5_sum 3 = .ok (.iload_n 2, 1) := by decide +kernel
theorem dX5_sum_4 : decode cX5_sum 4 = .ok (.iload_n 3, 1) := by decide +kernel
theorem dX5_sum_5 : decode cX5_sum 5 = .ok (.iload 4, 2) := by decide +kernel
theorem dX5_sum_7 : decode cX5_sum 7 = .ok (.invokevirtual 101, 3) := by decide +kernel
theorem dX5_sum_10 : decode cX5_sum 10 = .ok (.ifCond .eq 7, 3) := by decide +kernel
theorem dX5_sum_13 : decode cX5_sum 13 = .ok (.iconst 0, 1) := by decide +kernel
theorem dX5_sum_14 : decode cX5_sum 14 = .ok (.goto 4, 3) := by decide +kernel
theorem dX5_sum_17 : decode cX5_sum 17 = .ok (.iconst 1, 1) := by decide +kernel
theorem dX5_sum_18 : decode cX5_sum 18 = .ok (.invokevirtual 65, 3) := by decide +kernel
theorem dX5_sum_21 : decode cX5_sum 21 = .ok (.ifCond .eq 15, 3) := by decide +kernel
theorem dX5_sum_24 : decode cX5_sum 24 = .ok (.aload_n 0, 1) := by decide +kernel
theorem dX5_sum_25 : decode cX5_sum 25 = .ok (.iload_n 1, 1) := by decide +kernel
theorem dX5_sum_26 : decode cX5_sum 26 = .ok (.iload_n 2, 1) := by decide +kernel
theorem dX5_sum_27 : decode cX5_sum 27 = .ok (.iload_n 3, 1) := by decide +kernel
theorem dX5_sum_28 : decode cX5_sum 28 = .ok (.iload 4, 2) := by decide +kernel
theorem dX5_sum_30 : decode cX5_sum 30 = .ok (.invokevirtual 104, 3) := by decide +kernel
theorem dX5_sum_33 : decode cX5_sum 33 = .ok (.goto 4, 3) := by decide +kernel
theorem dX5_sum_36 : decode cX5_sum 36 = .ok (.iconst 0, 1) := by decide +kernel
theorem dX5_sum_37 : decode cX5_sum 37 = .ok (.ireturn, 1) := by decide +kernel
set_option maxRecDepth 20000 in
theorem ggX5_derives_X5_holds : GoodIn wsX5_derives wsX5_holds := goodIn_r _ [11, 12, 13, 14, 15, 16, 17, 10, 18, 19, 20, 21, 22, 23, 24, 25, 26, 27, 28, 29, 30, 31, 32, 33, 34, 35, 36, 37, 38] (by decide +kernel) (by decide +kernel)
set_option maxRecDepth 20000 in
theorem gX5_derives_X5_holds : GoodIn wsX5_derives (wsV RX5 97 RX5 yX5_holds wsX5_holds) := goodIn_app (goodIn_of _ (by decide +kernel)) ggX5_derives_X5_holds
theorem dX5_derives_0 : decode cX5_derives 0 = .ok (.iconst 0, 1) := by decide +kernel
theorem dX5_derives_1 : decode cX5_derives 1 = .ok (.istore 4, 2) := by decide +kernel
theorem dX5_derives_3 : decode cX5_derives 3 = .ok (.iload 4, 2) := by decide +kernel
theorem dX5_derives_5 : decode cX5_derives 5 = .ok (.aload_n 0, 1) := by decide +kernel
theorem dX5_derives_6 : decode cX5_derives 6 = .ok (.getfield 54, 3) := by decide +kernel
theorem dX5_derives_9 : decode cX5_derives 9 = .ok (.if_icmp .ge 66, 3) := by decide +kernel
theorem dX5_derives_12 : decode cX5_derives 12 = .ok (.aload_n 0, 1) := by decide +kernel
theorem dX5_derives_13 : decode cX5_derives 13 = .ok (.iload 4, 2) := by decide +kernel
theorem dX5_derives_15 : decode cX5_derives 15 = .ok (.iload_n 1, 1) := by decide +kernel
theorem dX5_derives_16 : decode cX5_derives 16 = .ok (.iload_n 2, 1) := by decide +kernel
theorem dX5_derives_17 : decode cX5_derives 17 = .ok (.iload_n 3, 1) := by decide +kernel
theorem dX5_derives_18 : decode cX5_derives 18 = .ok (.invokevirtual 97, 3) := by decide +kernel
theorem dX5_derives_21 : decode cX5_derives 21 = .ok (.istore 5, 2) := by decide +kernel
theorem dX5_derives_23 : decode cX5_derives 23 = .ok (.aload_n 0, 1) := by decide +kernel
theorem dX5_derives_24 : decode cX5_derives 24 = .ok (.getfield 47, 3) := by decide +kernel
theorem dX5_derives_27 : decode cX5_derives 27 = .ok (.iload 4, 2) := by decide +kernel
theorem dX5_derives_29 : decode cX5_derives 29 = .ok (.iload 5, 2) := by decide +kernel
theorem dX5_derives_31 : decode cX5_derives 31 = .ok (.iconst (-1), 1) := by decide +kernel
theorem dX5_derives_32 : decode cX5_derives 32 = .ok (.if_icmp .eq 7, 3) := by decide +kernel
theorem dX5_derives_35 : decode cX5_derives 35 = .ok (.iconst 1, 1) := by decide +kernel
theorem dX5_derives_36 : decode cX5_derives 36 = .ok (.goto 4, 3) := by decide +kernel
theorem dX5_derives_39 : decode cX5_derives 39 = .ok (.iconst 0, 1) := by decide +kernel
theorem dX5_derives_40 : decode cX5_derives 40 = .ok (.bastore, 1) := by decide +kernel
theorem dX5_derives_41 : decode cX5_derives 41 = .ok (.aload_n 0, 1) := by decide +kernel
theorem dX5_derives_42 : decode cX5_derives 42 = .ok (.getfield 44, 3) := by decide +kernel
theorem dX5_derives_45 : decode cX5_derives 45 = .ok (.iload 4, 2) := by decide +kernel
theorem dX5_derives_47 : decode cX5_derives 47 = .ok (.aload_n 0, 1) := by decide +kernel
theorem dX5_derives_48 : decode cX5_derives 48 = .ok (.getfield 47, 3) := by decide +kernel
theorem dX5_derives_51 : decode cX5_derives 51 = .ok (.iload 4, 2) := by decide +kernel
theorem dX5_derives_53 : decode cX5_derives 53 = .ok (.baload, 1) := by decide +kernel
theorem dX5_derives_54 : decode cX5_derives 54 = .ok (.ifCond .eq 13, 3) := by decide +kernel
theorem dX5_derives_57 : decode cX5_derives 57 = .ok (.aload_n 0, 1) := by decide +kernel
theorem dX5_derives_58 : decode cX5_derives 58 = .ok (.getfield 38, 3) := by decide +kernel
theorem dX5_derives_61 : decode cX5_derives 61 = .ok (.iload 5, 2) := by decide +kernel
theorem dX5_derives_63 : decode cX5_derives 63 = .ok (.iaload, 1) := by decide +kernel
theorem dX5_derives_64 : decode cX5_derives 64 = .ok (.goto 4, 3) := by decide +kernel
theorem dX5_derives_67 : decode cX5_derives 67 = .ok (.iconst 0, 1) := by decide +kernel
theorem dX5_derives_68 : decode cX5_derives 68 = .ok (.iastore, 1) := by decide +kernel
theorem dX5_derives_69 : decode cX5_derives 69 = .ok (.iinc 4 1, 3) := by decide +kernel
theorem dX5_derives_72 : decode cX5_derives 72 = .ok (.goto (-69), 3) := by decide +kernel
theorem dX5_derives_75 : decode cX5_derives 75 = .ok (.iconst 0, 1) := by decide +kernel
theorem dX5_derives_76 : decode cX5_derives 76 = .ok (.istore 4, 2) := by decide +kernel
theorem dX5_derives_78 : decode cX5_derives 78 = .ok (.iload 4, 2) := by decide +kernel
theorem dX5_derives_80 : decode cX5_derives 80 = .ok (.aload_n 0, 1) := by decide +kernel
theorem dX5_derives_81 : decode cX5_derives 81 = .ok (.getfield 54, 3) := by decide +kernel
theorem dX5_derives_84 : decode cX5_derives 84 = .ok (.if_icmp .ge 193, 3) := by decide +kernel
theorem dX5_derives_87 : decode cX5_derives 87 = .ok (.iconst 0, 1) := by decide +kernel
theorem dX5_derives_88 : decode cX5_derives 88 = .ok (.istore 5, 2) := by decide +kernel
theorem dX5_derives_90 : decode cX5_derives 90 = .ok (.iload 5, 2) := by decide +kernel
theorem dX5_derives_92 : decode cX5_derives 92 = .ok (.aload_n 0, 1) := by decide +kernel
theorem dX5_derives_93 : decode cX5_derives 93 = .ok (.getfield 54, 3) := by decide +kernel
theorem dX5_derives_96 : decode cX5_derives 96 = .ok (.if_icmp .ge 175, 3) := by decide +kernel
theorem dX5_derives_99 : decode cX5_derives 99 = .ok (.iconst 0, 1) := by decide +kernel
theorem dX5_derives_100 : decode cX5_derives 100 = .ok (.istore 6, 2) := by decide +kernel
theorem dX5_derives_102 : decode cX5_derives 102 = .ok (.iconst 0, 1) := by decide +kernel
theorem dX5_derives_103 : decode cX5_derives 103 = .ok (.istore 7, 2) := by decide +kernel
theorem dX5_derives_105 : decode cX5_derives 105 = .ok (.iconst 0, 1) := by decide +kernel
theorem dX5_derives_106 : decode cX5_derives 106 = .ok (.istore 8, 2) := by decide +kernel
theorem dX5_derives_108 : decode cX5_derives 108 = .ok (.iconst 0, 1) := by decide +kernel
theorem dX5_derives_109 : decode cX5_derives 109 = .ok (.istore 9, 2) := by decide +kernel
theorem dX5_derives_111 : decode cX5_derives 111 = .ok (.iload 9, 2) := by decide +kernel
theorem dX5_derives_113 : decode cX5_derives 113 = .ok (.aload_n 0, 1) := by decide +kernel
theorem dX5_derives_114 : decode cX5_derives 114 = .ok (.getfield 54, 3) := by decide +kernel
theorem dX5_derives_117 : decode cX5_derives 117 = .ok (.if_icmp .ge 119, 3) := by decide +kernel
theorem dX5_derives_120 : decode cX5_derives 120 = .ok (.aload_n 0, 1) := by decide +kernel
theorem dX5_derives_121 : decode cX5_derives 121 = .ok (.getfield 47, 3) := by decide +kernel
theorem dX5_derives_124 : decode cX5_derives 124 = .ok (.iload 5, 2) := by decide +kernel
theorem dX5_derives_126 : decode cX5_derives 126 = .ok (.baload, 1) := by decide +kernel
theorem dX5_derives_127 : decode cX5_derives 127 = .ok (.ifCond .ne 109, 3) := by decide +kernel
theorem dX5_derives_130 : decode cX5_derives 130 = .ok (.iload 6, 2) := by decide +kernel
theorem dX5_derives_132 : decode cX5_derives 132 = .ok (.aload_n 0, 1) := by decide +kernel
theorem dX5_derives_133 : decode cX5_derives 133 = .ok (.getfield 7, 3) := by decide +kernel
theorem dX5_derives_136 : decode cX5_derives 136 = .ok (.iload 9, 2) := by decide +kernel
theorem dX5_derives_138 : decode cX5_derives 138 = .ok (.iaload, 1) := by decide +kernel
theorem dX5_derives_139 : decode cX5_derives 139 = .ok (.iload 5, 2) := by decide +kernel
theorem dX5_derives_141 : decode cX5_derives 141 = .ok (.if_icmp .ne 7, 3) := by decide +kernel
theorem dX5_derives_144 : decode cX5_derives 144 = .ok (.iconst 1, 1) := by decide +kernel
theorem dX5_derives_145 : decode cX5_derives 145 = .ok (.goto 4, 3) := by decide +kernel
theorem dX5_derives_148 : decode cX5_derives 148 = .ok (.iconst 0, 1) := by decide +kernel
theorem dX5_derives_149 : decode cX5_derives 149 = .ok (.iadd, 1) := by decide +kernel
theorem dX5_derives_150 : decode cX5_derives 150 = .ok (.istore 6, 2) := by decide +kernel
theorem dX5_derives_152 : decode cX5_derives 152 = .ok (.iload 7, 2) := by decide +kernel
theorem dX5_derives_154 : decode cX5_derives 154 = .ok (.aload_n 0, 1) := by decide +kernel
theorem dX5_derives_155 : decode cX5_derives 155 = .ok (.getfield 7, 3) := by decide +kernel
theorem dX5_derives_158 : decode cX5_derives 158 = .ok (.iload 9, 2) := by decide +kernel
theorem dX5_derives_160 : decode cX5_derives 160 = .ok (.iaload, 1) := by decide +kernel
theorem dX5_derives_161 : decode cX5_derives 161 = .ok (.iload 5, 2) := by decide +kernel
theorem dX5_derives_163 : decode cX5_derives 163 = .ok (.if_icmp .ne 17, 3) := by decide +kernel
theorem dX5_derives_166 : decode cX5_derives 166 = .ok (.aload_n 0, 1) := by decide +kernel
theorem dX5_derives_167 : decode cX5_derives 167 = .ok (.getfield 47, 3) := by decide +kernel
theorem dX5_derives_170 : decode cX5_derives 170 = .ok (.iload 9, 2) := by decide +kernel
theorem dX5_derives_172 : decode cX5_derives 172 = .ok (.baload, 1) := by decide +kernel
theorem dX5_derives_173 : decode cX5_derives 173 = .ok (.ifCond .eq 7, 3) := by decide +kernel
theorem dX5_derives_176 : decode cX5_derives 176 = .ok (.iconst 1, 1) := by decide +kernel
theorem dX5_derives_177 : decode cX5_derives 177 = .ok (.goto 4, 3) := by decide +kernel
theorem dX5_derives_180 : decode cX5_derives 180 = .ok (.iconst 0, 1) := by decide +kernel
theorem dX5_derives_181 : decode cX5_derives 181 = .ok (.iadd, 1) := by decide +kernel
theorem dX5_derives_182 : decode cX5_derives 182 = .ok (.istore 7, 2) := by decide +kernel
theorem dX5_derives_184 : decode cX5_derives 184 = .ok (.iload 8, 2) := by decide +kernel
theorem dX5_derives_186 : decode cX5_derives 186 = .ok (.aload_n 0, 1) := by decide +kernel
theorem dX5_derives_187 : decode cX5_derives 187 = .ok (.getfield 7, 3) := by decide +kernel
theorem dX5_derives_190 : decode cX5_derives 190 = .ok (.iload 9, 2) := by decide +kernel
theorem dX5_derives_192 : decode cX5_derives 192 = .ok (.iaload, 1) := by decide +kernel
theorem dX5_derives_193 : decode cX5_derives 193 = .ok (.iload 5, 2) := by decide +kernel
theorem dX5_derives_195 : decode cX5_derives 195 = .ok (.if_icmp .ne 31, 3) := by decide +kernel
theorem dX5_derives_198 : decode cX5_derives 198 = .ok (.aload_n 0, 1) := by decide +kernel
theorem dX5_derives_199 : decode cX5_derives 199 = .ok (.getfield 47, 3) := by decide +kernel
theorem dX5_derives_202 : decode cX5_derives 202 = .ok (.iload 9, 2) := by decide +kernel
theorem dX5_derives_204 : decode cX5_derives 204 = .ok (.baload, 1) := by decide +kernel
theorem dX5_derives_205 : decode cX5_derives 205 = .ok (.ifCond .eq 21, 3) := by decide +kernel
theorem dX5_derives_208 : decode cX5_derives 208 = .ok (.aload_n 0, 1) := by decide +kernel
theorem dX5_derives_209 : decode cX5_derives 209 = .ok (.getfield 13, 3) := by decide +kernel
theorem dX5_derives_212 : decode cX5_derives 212 = .ok (.iload 9, 2) := by decide +kernel
theorem dX5_derives_214 : decode cX5_derives 214 = .ok (.iaload, 1) := by decide +kernel
theorem dX5_derives_215 : decode cX5_derives 215 = .ok (.aload_n 0, 1) := by decide +kernel
theorem dX5_derives_216 : decode cX5_derives 216 = .ok (.getfield 44, 3) := by decide +kernel
theorem dX5_derives_219 : decode cX5_derives 219 = .ok (.iload 9, 2) := by decide +kernel
theorem dX5_derives_221 : decode cX5_derives 221 = .ok (.iaload, 1) := by decide +kernel
theorem dX5_derives_222 : decode cX5_derives 222 = .ok (.imul, 1) := by decide +kernel
theorem dX5_derives_223 : decode cX5_derives 223 = .ok (.goto 4, 3) := by decide +kernel
theorem dX5_derives_226 : decode cX5_derives 226 = .ok (.iconst 0, 1) := by decide +kernel
theorem dX5_derives_227 : decode cX5_derives 227 = .ok (.iadd, 1) := by decide +kernel
theorem dX5_derives_228 : decode cX5_derives 228 = .ok (.istore 8, 2) := by decide +kernel
theorem dX5_derives_230 : decode cX5_derives 230 = .ok (.iinc 9 1, 3) := by decide +kernel
theorem dX5_derives_233 : decode cX5_derives 233 = .ok (.goto (-122), 3) := by decide +kernel
theorem dX5_derives_236 : decode cX5_derives 236 = .ok (.iload 6, 2) := by decide +kernel
theorem dX5_derives_238 : decode cX5_derives 238 = .ok (.ifCond .le 27, 3) := by decide +kernel
theorem dX5_derives_241 : decode cX5_derives 241 = .ok (.iload 7, 2) := by decide +kernel
theorem dX5_derives_243 : decode cX5_derives 243 = .ok (.iload 6, 2) := by decide +kernel
theorem dX5_derives_245 : decode cX5_derives 245 = .ok (.if_icmp .ne 20, 3) := by decide +kernel
theorem dX5_derives_248 : decode cX5_derives 248 = .ok (.aload_n 0, 1) := by decide +kernel
theorem dX5_derives_249 : decode cX5_derives 249 = .ok (.getfield 47, 3) := by decide +kernel
theorem dX5_derives_252 : decode cX5_derives 252 = .ok (.iload 5, 2) := by decide +kernel
theorem dX5_derives_254 : decode cX5_derives 254 = .ok (.iconst 1, 1) := by decide +kernel
theorem dX5_derives_255 : decode cX5_derives 255 = .ok (.bastore, 1) := by decide +kernel
theorem dX5_derives_256 : decode cX5_derives 256 = .ok (.aload_n 0, 1) := by decide +kernel
theorem dX5_derives_257 : decode cX5_derives 257 = .ok (.getfield 44, 3) := by decide +kernel
theorem dX5_derives_260 : decode cX5_derives 260 = .ok (.iload 5, 2) := by decide +kernel
theorem dX5_derives_262 : decode cX5_derives 262 = .ok (.iload 8, 2) := by decide +kernel
theorem dX5_derives_264 : decode cX5_derives 264 = .ok (.iastore, 1) := by decide +kernel
theorem dX5_derives_265 : decode cX5_derives 265 = .ok (.iinc 5 1, 3) := by decide +kernel
theorem dX5_derives_268 : decode cX5_derives 268 = .ok (.goto (-178), 3) := by decide +kernel
theorem dX5_derives_271 : decode cX5_derives 271 = .ok (.iinc 4 1, 3) := by decide +kernel
theorem dX5_derives_274 : decode cX5_derives 274 = .ok (.goto (-196), 3) := by decide +kernel
theorem dX5_derives_277 : decode cX5_derives 277 = .ok (.return_, 1) := by decide +kernel
set_option maxRecDepth 20000 in
theorem ggX5_derived_X5_isAsked : GoodIn wsX5_derived wsX5_isAsked := goodIn_r _ [7, 8, 9, 10, 6, 11, 12, 13, 14, 15, 16, 17, 18, 19, 20, 21, 22, 23, 24, 51, 52, 53, 54, 55, 56, 57, 58, 59, 60, 61, 62, 63, 64, 65, 66, 67] (by decide +kernel) (by decide +kernel)
set_option maxRecDepth 20000 in
theorem gX5_derived_X5_isAsked : GoodIn wsX5_derived (wsV RX5 101 RX5 yX5_isAsked wsX5_isAsked) := goodIn_app (goodIn_of _ (by decide +kernel)) ggX5_derived_X5_isAsked
set_option maxRecDepth 20000 in
theorem ggX5_derived_X5_can : GoodIn wsX5_derived wsX5_can := goodIn_r _ [28, 29, 51, 52, 53, 54, 55, 56, 57, 58, 59, 60, 61, 62, 63, 64, 65, 66, 67] (by decide +kernel) (by decide +kernel)
set_option maxRecDepth 20000 in
theorem gX5_derived_X5_can : GoodIn wsX5_derived (wsV RX5 65 RX5 yX5_can wsX5_can) := goodIn_app (goodIn_of _ (by decide +kernel)) ggX5_derived_X5_can
set_option maxRecDepth 20000 in
theorem ggX5_derived_X5_derives : GoodIn wsX5_derived wsX5_derives := goodIn_r _ [33, 16, 1, 2, 34, 35, 36, 37, 38, 39, 6, 40, 41, 42, 43, 44, 45, 46, 47, 48, 49, 50, 51, 52, 53, 54, 55, 56, 57, 58, 59, 60, 61, 62, 63, 64, 65, 66, 67] (by decide +kernel) (by decide +kernel)
set_option maxRecDepth 20000 in
theorem gX5_derived_X5_derives : GoodIn wsX5_derived (wsV RX5 107 RX5 yX5_derives wsX5_derives) := goodIn_app (goodIn_of _ (by decide +kernel)) ggX5_derived_X5_derives
theorem dX5_derived_0 : decode cX5_derived 0 = .ok (.aload_n 0, 1) := by decide +kernel
theorem dX5_derived_1 : decode cX5_derived 1 = .ok (.aload_n 0, 1) := by decide +kernel
theorem dX5_derived_2 : decode cX5_derived 2 = .ok (.iload_n 1, 1) := by decide +kernel
theorem dX5_derived_3 : decode cX5_derived 3 = .ok (.iload_n 2, 1) := by decide +kernel
theorem dX5_derived_4 : decode cX5_derived 4 = .ok (.iload_n 3, 1) := by decide +kernel
theorem dX5_derived_5 : decode cX5_derived 5 = .ok (.iload 4, 2) := by decide +kernel
theorem dX5_derived_7 : decode cX5_derived 7 = .ok (.invokevirtual 101, 3) := by decide +kernel
theorem dX5_derived_10 : decode cX5_derived 10 = .ok (.ifCond .eq 7, 3) := by decide +kernel
theorem dX5_derived_13 : decode cX5_derived 13 = .ok (.iconst 0, 1) := by decide +kernel
theorem dX5_derived_14 : decode cX5_derived 14 = .ok (.goto 4, 3) := by decide +kernel
theorem dX5_derived_17 : decode cX5_derived 17 = .ok (.iconst 1, 1) := by decide +kernel
theorem dX5_derived_18 : decode cX5_derived 18 = .ok (.invokevirtual 65, 3) := by decide +kernel
theorem dX5_derived_21 : decode cX5_derived 21 = .ok (.ifCond .ne 5, 3) := by decide +kernel
theorem dX5_derived_24 : decode cX5_derived 24 = .ok (.iconst 0, 1) := by decide +kernel
theorem dX5_derived_25 : decode cX5_derived 25 = .ok (.ireturn, 1) := by decide +kernel
theorem dX5_derived_26 : decode cX5_derived 26 = .ok (.aload_n 0, 1) := by decide +kernel
theorem dX5_derived_27 : decode cX5_derived 27 = .ok (.iload_n 2, 1) := by decide +kernel
theorem dX5_derived_28 : decode cX5_derived 28 = .ok (.iload_n 3, 1) := by decide +kernel
theorem dX5_derived_29 : decode cX5_derived 29 = .ok (.iload 4, 2) := by decide +kernel
theorem dX5_derived_31 : decode cX5_derived 31 = .ok (.invokevirtual 107, 3) := by decide +kernel
theorem dX5_derived_34 : decode cX5_derived 34 = .ok (.aload_n 0, 1) := by decide +kernel
theorem dX5_derived_35 : decode cX5_derived 35 = .ok (.aload_n 0, 1) := by decide +kernel
theorem dX5_derived_36 : decode cX5_derived 36 = .ok (.getfield 47, 3) := by decide +kernel
theorem dX5_derived_39 : decode cX5_derived 39 = .ok (.iload_n 1, 1) := by decide +kernel
theorem dX5_derived_40 : decode cX5_derived 40 = .ok (.baload, 1) := by decide +kernel
theorem dX5_derived_41 : decode cX5_derived 41 = .ok (.ifCond .eq 7, 3) := by decide +kernel
theorem dX5_derived_44 : decode cX5_derived 44 = .ok (.iconst 0, 1) := by decide +kernel
theorem dX5_derived_45 : decode cX5_derived 45 = .ok (.goto 4, 3) := by decide +kernel
theorem dX5_derived_48 : decode cX5_derived 48 = .ok (.iconst 2, 1) := by decide +kernel
theorem dX5_derived_49 : decode cX5_derived 49 = .ok (.invokevirtual 65, 3) := by decide +kernel
theorem dX5_derived_52 : decode cX5_derived 52 = .ok (.ifCond .eq 12, 3) := by decide +kernel
theorem dX5_derived_55 : decode cX5_derived 55 = .ok (.aload_n 0, 1) := by decide +kernel
theorem dX5_derived_56 : decode cX5_derived 56 = .ok (.getfield 44, 3) := by decide +kernel
theorem dX5_derived_59 : decode cX5_derived 59 = .ok (.iload_n 1, 1) := by decide +kernel
theorem dX5_derived_60 : decode cX5_derived 60 = .ok (.iaload, 1) := by decide +kernel
theorem dX5_derived_61 : decode cX5_derived 61 = .ok (.goto 4, 3) := by decide +kernel
theorem dX5_derived_64 : decode cX5_derived 64 = .ok (.iconst 0, 1) := by decide +kernel
theorem dX5_derived_65 : decode cX5_derived 65 = .ok (.ireturn, 1) := by decide +kernel
set_option maxRecDepth 20000 in
theorem ggX5_isOffBySum_X5_holds : GoodIn wsX5_isOffBySum wsX5_holds := goodIn_r _ [8, 9, 10, 11, 12, 13, 14, 7, 15, 16, 17, 18, 31, 32, 33, 34, 35, 36, 37, 38, 39, 40, 41, 42, 43, 44, 45, 46, 47] (by decide +kernel) (by decide +kernel)
set_option maxRecDepth 20000 in
theorem gX5_isOffBySum_X5_holds : GoodIn wsX5_isOffBySum (wsV RX5 97 RX5 yX5_holds wsX5_holds) := goodIn_app (goodIn_of _ (by decide +kernel)) ggX5_isOffBySum_X5_holds
set_option maxRecDepth 20000 in
theorem ggX5_isOffBySum_X5_doubtOf : GoodIn wsX5_isOffBySum wsX5_doubtOf := goodIn_r _ [22, 11, 31, 32, 33, 34, 35, 36, 37, 38, 39, 40, 41, 42, 43, 44, 45, 46, 47] (by decide +kernel) (by decide +kernel)
set_option maxRecDepth 20000 in
theorem gX5_isOffBySum_X5_doubtOf : GoodIn wsX5_isOffBySum (wsV RX5 90 RX5 yX5_doubtOf wsX5_doubtOf) := goodIn_app (goodIn_of _ (by decide +kernel)) ggX5_isOffBySum_X5_doubtOf
set_option maxRecDepth 20000 in
theorem ggX5_isOffBySum_X5_sumOf : GoodIn wsX5_isOffBySum wsX5_sumOf := goodIn_r _ [26, 1, 2, 27, 3, 4, 5, 6, 7, 8, 9, 10, 11, 12, 13, 14, 15, 16, 17, 18, 31, 32, 33, 34, 35, 36, 37, 38, 39, 40, 41, 42, 43, 44, 45, 46, 47] (by decide +kernel) (by decide +kernel)
set_option maxRecDepth 20000 in
theorem gX5_isOffBySum_X5_sumOf : GoodIn wsX5_isOffBySum (wsV RX5 104 RX5 yX5_sumOf wsX5_sumOf) := goodIn_app (goodIn_of _ (by decide +kernel)) ggX5_isOffBySum_X5_sumOf
set_option maxRecDepth 20000 in
theorem ggX5_isOffBySum_X5_isFar : GoodIn wsX5_isOffBySum wsX5_isFar := goodIn_r _ [30] (by decide +kernel) (by decide +kernel)
set_option maxRecDepth 20000 in
theorem gX5_isOffBySum_X5_isFar : GoodIn wsX5_isOffBySum (va_wsS RX5 94 yX5_isFar wsX5_isFar) := goodIn_app (goodIn_of _ (by decide +kernel)) ggX5_isOffBySum_X5_isFar
theorem dX5_isOffBySum_0 : decode cX5_isOffBySum 0 = .ok (.aload_n 0, 1) := by decide +kernel
theorem dX5_isOffBySum_1 : decode cX5_isOffBySum 1 = .ok (.iload_n 1, 1) := by decide +kernel
theorem dX5_isOffBySum_2 : decode cX5_isOffBySum 2 = .ok (.iload_n 2, 1) := by decide +kernel
theorem dX5_isOffBySum_3 : decode cX5_isOffBySum 3 = .ok (.iload_n 3, 1) := by decide +kernel
theorem dX5_isOffBySum_4 : decode cX5_isOffBySum 4 = .ok (.iload 4, 2) := by decide +kernel
theorem dX5_isOffBySum_6 : decode cX5_isOffBySum 6 = .ok (.invokevirtual 97, 3) := by decide +kernel
theorem dX5_isOffBySum_9 : decode cX5_isOffBySum 9 = .ok (.istore 5, 2) := by decide +kernel
theorem dX5_isOffBySum_11 : decode cX5_isOffBySum 11 = .ok (.iload 5, 2) := by decide +kernel
theorem dX5_isOffBySum_13 : decode cX5_isOffBySum 13 = .ok (.iconst (-1), 1) := by decide +kernel
theorem dX5_isOffBySum_14 : decode cX5_isOffBySum 14 = .ok (.if_icmp .ne 7, 3) := by decide +kernel
theorem dX5_isOffBySum_17 : decode cX5_isOffBySum 17 = .ok (.iconst 0, 1) := by decide +kernel
theorem dX5_isOffBySum_18 : decode cX5_isOffBySum 18 = .ok (.goto 9, 3) := by decide +kernel
theorem dX5_isOffBySum_21 : decode cX5_isOffBySum 21 = .ok (.aload_n 0, 1) := by decide +kernel
theorem dX5_isOffBySum_22 : decode cX5_isOffBySum 22 = .ok (.iload 5, 2) := by decide +kernel
theorem dX5_isOffBySum_24 : decode cX5_isOffBySum 24 = .ok (.invokevirtual 90, 3) := by decide +kernel
theorem dX5_isOffBySum_27 : decode cX5_isOffBySum 27 = .ok (.istore 6, 2) := by decide +kernel
theorem dX5_isOffBySum_29 : decode cX5_isOffBySum 29 = .ok (.iconst 0, 1) := by decide +kernel
theorem dX5_isOffBySum_30 : decode cX5_isOffBySum 30 = .ok (.istore 7, 2) := by decide +kernel
theorem dX5_isOffBySum_32 : decode cX5_isOffBySum 32 = .ok (.iconst 0, 1) := by decide +kernel
theorem dX5_isOffBySum_33 : decode cX5_isOffBySum 33 = .ok (.istore 8, 2) := by decide +kernel
theorem dX5_isOffBySum_35 : decode cX5_isOffBySum 35 = .ok (.iload 8, 2) := by decide +kernel
theorem dX5_isOffBySum_37 : decode cX5_isOffBySum 37 = .ok (.aload_n 0, 1) := by decide +kernel
theorem dX5_isOffBySum_38 : decode cX5_isOffBySum 38 = .ok (.getfield 54, 3) := by decide +kernel
theorem dX5_isOffBySum_41 : decode cX5_isOffBySum 41 = .ok (.if_icmp .ge 73, 3) := by decide +kernel
theorem dX5_isOffBySum_44 : decode cX5_isOffBySum 44 = .ok (.aload_n 0, 1) := by decide +kernel
theorem dX5_isOffBySum_45 : decode cX5_isOffBySum 45 = .ok (.getfield 7, 3) := by decide +kernel
theorem dX5_isOffBySum_48 : decode cX5_isOffBySum 48 = .ok (.iload 8, 2) := by decide +kernel
theorem dX5_isOffBySum_50 : decode cX5_isOffBySum 50 = .ok (.iaload, 1) := by decide +kernel
theorem dX5_isOffBySum_51 : decode cX5_isOffBySum 51 = .ok (.iload_n 1, 1) := by decide +kernel
theorem dX5_isOffBySum_52 : decode cX5_isOffBySum 52 = .ok (.if_icmp .ne 16, 3) := by decide +kernel
theorem dX5_isOffBySum_55 : decode cX5_isOffBySum 55 = .ok (.aload_n 0, 1) := by decide +kernel
theorem dX5_isOffBySum_56 : decode cX5_isOffBySum 56 = .ok (.iload 8, 2) := by decide +kernel
theorem dX5_isOffBySum_58 : decode cX5_isOffBySum 58 = .ok (.iload_n 2, 1) := by decide +kernel
theorem dX5_isOffBySum_59 : decode cX5_isOffBySum 59 = .ok (.iload_n 3, 1) := by decide +kernel
theorem dX5_isOffBySum_60 : decode cX5_isOffBySum 60 = .ok (.iload 4, 2) := by decide +kernel
theorem dX5_isOffBySum_62 : decode cX5_isOffBySum 62 = .ok (.invokevirtual 97, 3) := by decide +kernel
theorem dX5_isOffBySum_65 : decode cX5_isOffBySum 65 = .ok (.goto 4, 3) := by decide +kernel
theorem dX5_isOffBySum_68 : decode cX5_isOffBySum 68 = .ok (.iconst (-1), 1) := by decide +kernel
theorem dX5_isOffBySum_69 : decode cX5_isOffBySum 69 = .ok (.istore 9, 2) := by decide +kernel
theorem dX5_isOffBySum_71 : decode cX5_isOffBySum 71 = .ok (.iload 7, 2) := by decide +kernel
theorem dX5_isOffBySum_73 : decode cX5_isOffBySum 73 = .ok (.iload 9, 2) := by decide +kernel
theorem dX5_isOffBySum_75 : decode cX5_isOffBySum 75 = .ok (.iconst (-1), 1) := by decide +kernel
theorem dX5_isOffBySum_76 : decode cX5_isOffBySum 76 = .ok (.if_icmp .ne 7, 3) := by decide +kernel
theorem dX5_isOffBySum_79 : decode cX5_isOffBySum 79 = .ok (.iconst 0, 1) := by decide +kernel
theorem dX5_isOffBySum_80 : decode cX5_isOffBySum 80 = .ok (.goto 4, 3) := by decide +kernel
theorem dX5_isOffBySum_83 : decode cX5_isOffBySum 83 = .ok (.iconst 1, 1) := by decide +kernel
theorem dX5_isOffBySum_84 : decode cX5_isOffBySum 84 = .ok (.iadd, 1) := by decide +kernel
theorem dX5_isOffBySum_85 : decode cX5_isOffBySum 85 = .ok (.istore 7, 2) := by decide +kernel
theorem dX5_isOffBySum_87 : decode cX5_isOffBySum 87 = .ok (.iload 6, 2) := by decide +kernel
theorem dX5_isOffBySum_89 : decode cX5_isOffBySum 89 = .ok (.iload 9, 2) := by decide +kernel
theorem dX5_isOffBySum_91 : decode cX5_isOffBySum 91 = .ok (.iconst (-1), 1) := by decide +kernel
theorem dX5_isOffBySum_92 : decode cX5_isOffBySum 92 = .ok (.if_icmp .ne 7, 3) := by decide +kernel
theorem dX5_isOffBySum_95 : decode cX5_isOffBySum 95 = .ok (.iconst 0, 1) := by decide +kernel
theorem dX5_isOffBySum_96 : decode cX5_isOffBySum 96 = .ok (.goto 9, 3) := by decide +kernel
theorem dX5_isOffBySum_99 : decode cX5_isOffBySum 99 = .ok (.aload_n 0, 1) := by decide +kernel
theorem dX5_isOffBySum_100 : decode cX5_isOffBySum 100 = .ok (.iload 9, 2) := by decide +kernel
theorem dX5_isOffBySum_102 : decode cX5_isOffBySum 102 = .ok (.invokevirtual 90, 3) := by decide +kernel
theorem dX5_isOffBySum_105 : decode cX5_isOffBySum 105 = .ok (.iadd, 1) := by decide +kernel
theorem dX5_isOffBySum_106 : decode cX5_isOffBySum 106 = .ok (.istore 6, 2) := by decide +kernel
theorem dX5_isOffBySum_108 : decode cX5_isOffBySum 108 = .ok (.iinc 8 1, 3) := by decide +kernel
theorem dX5_isOffBySum_111 : decode cX5_isOffBySum 111 = .ok (.goto (-76), 3) := by decide +kernel
theorem dX5_isOffBySum_114 : decode cX5_isOffBySum 114 = .ok (.iload 5, 2) := by decide +kernel
theorem dX5_isOffBySum_116 : decode cX5_isOffBySum 116 = .ok (.iconst (-1), 1) := by decide +kernel
theorem dX5_isOffBySum_117 : decode cX5_isOffBySum 117 = .ok (.if_icmp .eq 36, 3) := by decide +kernel
theorem dX5_isOffBySum_120 : decode cX5_isOffBySum 120 = .ok (.iload 7, 2) := by decide +kernel
theorem dX5_isOffBySum_122 : decode cX5_isOffBySum 122 = .ok (.ifCond .le 31, 3) := by decide +kernel
theorem dX5_isOffBySum_125 : decode cX5_isOffBySum 125 = .ok (.aload_n 0, 1) := by decide +kernel
theorem dX5_isOffBySum_126 : decode cX5_isOffBySum 126 = .ok (.getfield 38, 3) := by decide +kernel
theorem dX5_isOffBySum_129 : decode cX5_isOffBySum 129 = .ok (.iload 5, 2) := by decide +kernel
theorem dX5_isOffBySum_131 : decode cX5_isOffBySum 131 = .ok (.iaload, 1) := by decide +kernel
theorem dX5_isOffBySum_132 : decode cX5_isOffBySum 132 = .ok (.aload_n 0, 1) := by decide +kernel
theorem dX5_isOffBySum_133 : decode cX5_isOffBySum 133 = .ok (.iload_n 1, 1) := by decide +kernel
theorem dX5_isOffBySum_134 : decode cX5_isOffBySum 134 = .ok (.iload_n 2, 1) := by decide +kernel
theorem dX5_isOffBySum_135 : decode cX5_isOffBySum 135 = .ok (.iload_n 3, 1) := by decide +kernel
theorem dX5_isOffBySum_136 : decode cX5_isOffBySum 136 = .ok (.iload 4, 2) := by decide +kernel
theorem dX5_isOffBySum_138 : decode cX5_isOffBySum 138 = .ok (.invokevirtual 104, 3) := by decide +kernel
theorem dX5_isOffBySum_141 : decode cX5_isOffBySum 141 = .ok (.iload 6, 2) := by decide +kernel
theorem dX5_isOffBySum_143 : decode cX5_isOffBySum 143 = .ok (.invokestatic 94, 3) := by decide +kernel
theorem dX5_isOffBySum_146 : decode cX5_isOffBySum 146 = .ok (.ifCond .eq 7, 3) := by decide +kernel
theorem dX5_isOffBySum_149 : decode cX5_isOffBySum 149 = .ok (.iconst 1, 1) := by decide +kernel
theorem dX5_isOffBySum_150 : decode cX5_isOffBySum 150 = .ok (.goto 4, 3) := by decide +kernel
theorem dX5_isOffBySum_153 : decode cX5_isOffBySum 153 = .ok (.iconst 0, 1) := by decide +kernel
theorem dX5_isOffBySum_154 : decode cX5_isOffBySum 154 = .ok (.ireturn, 1) := by decide +kernel
set_option maxRecDepth 20000 in
theorem ggX5_isOffByMembers_X5_holds : GoodIn wsX5_isOffByMembers wsX5_holds := goodIn_r _ [6, 7, 8, 9, 10, 11, 12, 5, 13, 14, 15, 16, 24, 25, 26, 27, 28, 29, 30, 31, 32, 33, 34, 35, 36, 37, 38, 39, 40] (by decide +kernel) (by decide +kernel)
set_option maxRecDepth 20000 in
theorem gX5_isOffByMembers_X5_holds : GoodIn wsX5_isOffByMembers (wsV RX5 97 RX5 yX5_holds wsX5_holds) := goodIn_app (goodIn_of _ (by decide +kernel)) ggX5_isOffByMembers_X5_holds
set_option maxRecDepth 20000 in
theorem ggX5_isOffByMembers_X5_doubtOf : GoodIn wsX5_isOffByMembers wsX5_doubtOf := goodIn_r _ [20, 9, 24, 25, 26, 27, 28, 29, 30, 31, 32, 33, 34, 35, 36, 37, 38, 39, 40] (by decide +kernel) (by decide +kernel)
set_option maxRecDepth 20000 in
theorem gX5_isOffByMembers_X5_doubtOf : GoodIn wsX5_isOffByMembers (wsV RX5 90 RX5 yX5_doubtOf wsX5_doubtOf) := goodIn_app (goodIn_of _ (by decide +kernel)) ggX5_isOffByMembers_X5_doubtOf
set_option maxRecDepth 20000 in
theorem ggX5_isOffByMembers_X5_isFar : GoodIn wsX5_isOffByMembers wsX5_isFar := goodIn_r _ [23] (by decide +kernel) (by decide +kernel)
set_option maxRecDepth 20000 in
theorem gX5_isOffByMembers_X5_isFar : GoodIn wsX5_isOffByMembers (va_wsS RX5 94 yX5_isFar wsX5_isFar) := goodIn_app (goodIn_of _ (by decide +kernel)) ggX5_isOffByMembers_X5_isFar
theorem dX5_isOffByMembers_0 : decode cX5_isOffByMembers 0 = .ok (.iconst 0, 1) := by decide +kernel
theorem dX5_isOffByMembers_1 : decode cX5_isOffByMembers 1 = .ok (.istore 4, 2) := by decide +kernel
theorem dX5_isOffByMembers_3 : decode cX5_isOffByMembers 3 = .ok (.iconst 0, 1) := by decide +kernel
theorem dX5_isOffByMembers_4 : decode cX5_isOffByMembers 4 = .ok (.istore 5, 2) := by decide +kernel
theorem dX5_isOffByMembers_6 : decode cX5_isOffByMembers 6 = .ok (.iconst 1, 1) := by decide +kernel
theorem dX5_isOffByMembers_7 : decode cX5_isOffByMembers 7 = .ok (.istore 6, 2) := by decide +kernel
theorem dX5_isOffByMembers_9 : decode cX5_isOffByMembers 9 = .ok (.iconst 0, 1) := by decide +kernel
theorem dX5_isOffByMembers_10 : decode cX5_isOffByMembers 10 = .ok (.istore 7, 2) := by decide +kernel
theorem dX5_isOffByMembers_12 : decode cX5_isOffByMembers 12 = .ok (.iload 7, 2) := by decide +kernel
theorem dX5_isOffByMembers_14 : decode cX5_isOffByMembers 14 = .ok (.iconst 4, 1) := by decide +kernel
theorem dX5_isOffByMembers_15 : decode cX5_isOffByMembers 15 = .ok (.if_icmp .ge 86, 3) := by decide +kernel
theorem dX5_isOffByMembers_18 : decode cX5_isOffByMembers 18 = .ok (.aload_n 0, 1) := by decide +kernel
theorem dX5_isOffByMembers_19 : decode cX5_isOffByMembers 19 = .ok (.iload_n 1, 1) := by decide +kernel
theorem dX5_isOffByMembers_20 : decode cX5_isOffByMembers 20 = .ok (.iload_n 2, 1) := by decide +kernel
theorem dX5_isOffByMembers_21 : decode cX5_isOffByMembers 21 = .ok (.iload 7, 2) := by decide +kernel
theorem dX5_isOffByMembers_23 : decode cX5_isOffByMembers 23 = .ok (.iload_n 3, 1) := by decide +kernel
theorem dX5_isOffByMembers_24 : decode cX5_isOffByMembers 24 = .ok (.invokevirtual 97, 3) := by decide +kernel
theorem dX5_isOffByMembers_27 : decode cX5_isOffByMembers 27 = .ok (.istore 8, 2) := by decide +kernel
theorem dX5_isOffByMembers_29 : decode cX5_isOffByMembers 29 = .ok (.iload 6, 2) := by decide +kernel
theorem dX5_isOffByMembers_31 : decode cX5_isOffByMembers 31 = .ok (.ifCond .eq 13, 3) := by decide +kernel
theorem dX5_isOffByMembers_34 : decode cX5_isOffByMembers 34 = .ok (.iload 8, 2) := by decide +kernel
theorem dX5_isOffByMembers_36 : decode cX5_isOffByMembers 36 = .ok (.iconst (-1), 1) := by decide +kernel
theorem dX5_isOffByMembers_37 : decode cX5_isOffByMembers 37 = .ok (.if_icmp .eq 7, 3) := by decide +kernel
theorem dX5_isOffByMembers_40 : decode cX5_isOffByMembers 40 = .ok (.iconst 1, 1) := by decide +kernel
theorem dX5_isOffByMembers_41 : decode cX5_isOffByMembers 41 = .ok (.goto 4, 3) := by decide +kernel
theorem dX5_isOffByMembers_44 : decode cX5_isOffByMembers 44 = .ok (.iconst 0, 1) := by decide +kernel
theorem dX5_isOffByMembers_45 : decode cX5_isOffByMembers 45 = .ok (.istore 6, 2) := by decide +kernel
theorem dX5_isOffByMembers_47 : decode cX5_isOffByMembers 47 = .ok (.iload 4, 2) := by decide +kernel
theorem dX5_isOffByMembers_49 : decode cX5_isOffByMembers 49 = .ok (.iload 8, 2) := by decide +kernel
theorem dX5_isOffByMembers_51 : decode cX5_isOffByMembers 51 = .ok (.iconst (-1), 1) := by decide +kernel
theorem dX5_isOffByMembers_52 : decode cX5_isOffByMembers 52 = .ok (.if_icmp .eq 8, 3) := by decide +kernel
theorem dX5_isOffByMembers_55 : decode cX5_isOffByMembers 55 = .ok (.iload 7, 2) := by decide +kernel
theorem dX5_isOffByMembers_57 : decode cX5_isOffByMembers 57 = .ok (.ifCond .ne 7, 3) := by decide +kernel
theorem dX5_isOffByMembers_60 : decode cX5_isOffByMembers 60 = .ok (.iconst 0, 1) := by decide +kernel
theorem dX5_isOffByMembers_61 : decode cX5_isOffByMembers 61 = .ok (.goto 10, 3) := by decide +kernel
theorem dX5_isOffByMembers_64 : decode cX5_isOffByMembers 64 = .ok (.aload_n 0, 1) := by decide +kernel
theorem dX5_isOffByMembers_65 : decode cX5_isOffByMembers 65 = .ok (.getfield 38, 3) := by decide +kernel
theorem dX5_isOffByMembers_68 : decode cX5_isOffByMembers 68 = .ok (.iload 8, 2) := by decide +kernel
theorem dX5_isOffByMembers_70 : decode cX5_isOffByMembers 70 = .ok (.iaload, 1) := by decide +kernel
theorem dX5_isOffByMembers_71 : decode cX5_isOffByMembers 71 = .ok (.iadd, 1) := by decide +kernel
theorem dX5_isOffByMembers_72 : decode cX5_isOffByMembers 72 = .ok (.istore 4, 2) := by decide +kernel
theorem dX5_isOffByMembers_74 : decode cX5_isOffByMembers 74 = .ok (.iload 5, 2) := by decide +kernel
theorem dX5_isOffByMembers_76 : decode cX5_isOffByMembers 76 = .ok (.iload 8, 2) := by decide +kernel
theorem dX5_isOffByMembers_78 : decode cX5_isOffByMembers 78 = .ok (.iconst (-1), 1) := by decide +kernel
theorem dX5_isOffByMembers_79 : decode cX5_isOffByMembers 79 = .ok (.if_icmp .ne 7, 3) := by decide +kernel
theorem dX5_isOffByMembers_82 : decode cX5_isOffByMembers 82 = .ok (.iconst 0, 1) := by decide +kernel
theorem dX5_isOffByMembers_83 : decode cX5_isOffByMembers 83 = .ok (.goto 9, 3) := by decide +kernel
theorem dX5_isOffByMembers_86 : decode cX5_isOffByMembers 86 = .ok (.aload_n 0, 1) := by decide +kernel
theorem dX5_isOffByMembers_87 : decode cX5_isOffByMembers 87 = .ok (.iload 8, 2) := by decide +kernel
theorem dX5_isOffByMembers_89 : decode cX5_isOffByMembers 89 = .ok (.invokevirtual 90, 3) := by decide +kernel
theorem dX5_isOffByMembers_92 : decode cX5_isOffByMembers 92 = .ok (.iadd, 1) := by decide +kernel
theorem dX5_isOffByMembers_93 : decode cX5_isOffByMembers 93 = .ok (.istore 5, 2) := by decide +kernel
theorem dX5_isOffByMembers_95 : decode cX5_isOffByMembers 95 = .ok (.iinc 7 1, 3) := by decide +kernel
theorem dX5_isOffByMembers_98 : decode cX5_isOffByMembers 98 = .ok (.goto (-86), 3) := by decide +kernel
theorem dX5_isOffByMembers_101 : decode cX5_isOffByMembers 101 = .ok (.iload 6, 2) := by decide +kernel
theorem dX5_isOffByMembers_103 : decode cX5_isOffByMembers 103 = .ok (.ifCond .eq 30, 3) := by decide +kernel
theorem dX5_isOffByMembers_106 : decode cX5_isOffByMembers 106 = .ok (.aload_n 0, 1) := by decide +kernel
theorem dX5_isOffByMembers_107 : decode cX5_isOffByMembers 107 = .ok (.getfield 38, 3) := by decide +kernel
theorem dX5_isOffByMembers_110 : decode cX5_isOffByMembers 110 = .ok (.aload_n 0, 1) := by decide +kernel
theorem dX5_isOffByMembers_111 : decode cX5_isOffByMembers 111 = .ok (.iload_n 1, 1) := by decide +kernel
theorem dX5_isOffByMembers_112 : decode cX5_isOffByMembers 112 = .ok (.iload_n 2, 1) := by decide +kernel
theorem dX5_isOffByMembers_113 : decode cX5_isOffByMembers 113 = .ok (.iconst 0, 1) := by decide +kernel
theorem dX5_isOffByMembers_114 : decode cX5_isOffByMembers 114 = .ok (.iload_n 3, 1) := by decide +kernel
theorem dX5_isOffByMembers_115 : decode cX5_isOffByMembers 115 = .ok (.invokevirtual 97, 3) := by decide +kernel
theorem dX5_isOffByMembers_118 : decode cX5_isOffByMembers 118 = .ok (.iaload, 1) := by decide +kernel
theorem dX5_isOffByMembers_119 : decode cX5_isOffByMembers 119 = .ok (.iload 4, 2) := by decide +kernel
theorem dX5_isOffByMembers_121 : decode cX5_isOffByMembers 121 = .ok (.iload 5, 2) := by decide +kernel
theorem dX5_isOffByMembers_123 : decode cX5_isOffByMembers 123 = .ok (.invokestatic 94, 3) := by decide +kernel
theorem dX5_isOffByMembers_126 : decode cX5_isOffByMembers 126 = .ok (.ifCond .eq 7, 3) := by decide +kernel
theorem dX5_isOffByMembers_129 : decode cX5_isOffByMembers 129 = .ok (.iconst 1, 1) := by decide +kernel
theorem dX5_isOffByMembers_130 : decode cX5_isOffByMembers 130 = .ok (.goto 4, 3) := by decide +kernel
theorem dX5_isOffByMembers_133 : decode cX5_isOffByMembers 133 = .ok (.iconst 0, 1) := by decide +kernel
theorem dX5_isOffByMembers_134 : decode cX5_isOffByMembers 134 = .ok (.ireturn, 1) := by decide +kernel
set_option maxRecDepth 20000 in
theorem ggX5_isOffByRoll_X5_holds : GoodIn wsX5_isOffByRoll wsX5_holds := goodIn_r _ [8, 9, 10, 11, 12, 13, 14, 7, 15, 16, 17, 18, 26, 27, 28, 29, 30, 31, 32, 33, 34, 35, 36, 37, 38, 39, 40, 41, 42] (by decide +kernel) (by decide +kernel)
set_option maxRecDepth 20000 in
theorem gX5_isOffByRoll_X5_holds : GoodIn wsX5_isOffByRoll (wsV RX5 97 RX5 yX5_holds wsX5_holds) := goodIn_app (goodIn_of _ (by decide +kernel)) ggX5_isOffByRoll_X5_holds
set_option maxRecDepth 20000 in
theorem ggX5_isOffByRoll_X5_doubtOf : GoodIn wsX5_isOffByRoll wsX5_doubtOf := goodIn_r _ [22, 11, 26, 27, 28, 29, 30, 31, 32, 33, 34, 35, 36, 37, 38, 39, 40, 41, 42] (by decide +kernel) (by decide +kernel)
set_option maxRecDepth 20000 in
theorem gX5_isOffByRoll_X5_doubtOf : GoodIn wsX5_isOffByRoll (wsV RX5 90 RX5 yX5_doubtOf wsX5_doubtOf) := goodIn_app (goodIn_of _ (by decide +kernel)) ggX5_isOffByRoll_X5_doubtOf
set_option maxRecDepth 20000 in
theorem ggX5_isOffByRoll_X5_isFar : GoodIn wsX5_isOffByRoll wsX5_isFar := goodIn_r _ [25] (by decide +kernel) (by decide +kernel)
set_option maxRecDepth 20000 in
theorem gX5_isOffByRoll_X5_isFar : GoodIn wsX5_isOffByRoll (va_wsS RX5 94 yX5_isFar wsX5_isFar) := goodIn_app (goodIn_of _ (by decide +kernel)) ggX5_isOffByRoll_X5_isFar
theorem dX5_isOffByRoll_0 : decode cX5_isOffByRoll 0 = .ok (.aload_n 0, 1) := by decide +kernel
theorem dX5_isOffByRoll_1 : decode cX5_isOffByRoll 1 = .ok (.aload_n 0, 1) := by decide +kernel
theorem dX5_isOffByRoll_2 : decode cX5_isOffByRoll 2 = .ok (.getfield 16, 3) := by decide +kernel
theorem dX5_isOffByRoll_5 : decode cX5_isOffByRoll 5 = .ok (.iload_n 1, 1) := by decide +kernel
theorem dX5_isOffByRoll_6 : decode cX5_isOffByRoll 6 = .ok (.iaload, 1) := by decide +kernel
theorem dX5_isOffByRoll_7 : decode cX5_isOffByRoll 7 = .ok (.iload_n 2, 1) := by decide +kernel
theorem dX5_isOffByRoll_8 : decode cX5_isOffByRoll 8 = .ok (.iload_n 3, 1) := by decide +kernel
theorem dX5_isOffByRoll_9 : decode cX5_isOffByRoll 9 = .ok (.iload 4, 2) := by decide +kernel
theorem dX5_isOffByRoll_11 : decode cX5_isOffByRoll 11 = .ok (.invokevirtual 97, 3) := by decide +kernel
theorem dX5_isOffByRoll_14 : decode cX5_isOffByRoll 14 = .ok (.istore 5, 2) := by decide +kernel
theorem dX5_isOffByRoll_16 : decode cX5_isOffByRoll 16 = .ok (.aload_n 0, 1) := by decide +kernel
theorem dX5_isOffByRoll_17 : decode cX5_isOffByRoll 17 = .ok (.aload_n 0, 1) := by decide +kernel
theorem dX5_isOffByRoll_18 : decode cX5_isOffByRoll 18 = .ok (.getfield 16, 3) := by decide +kernel
theorem dX5_isOffByRoll_21 : decode cX5_isOffByRoll 21 = .ok (.iload_n 1, 1) := by decide +kernel
theorem dX5_isOffByRoll_22 : decode cX5_isOffByRoll 22 = .ok (.iaload, 1) := by decide +kernel
theorem dX5_isOffByRoll_23 : decode cX5_isOffByRoll 23 = .ok (.iload_n 2, 1) := by decide +kernel
theorem dX5_isOffByRoll_24 : decode cX5_isOffByRoll 24 = .ok (.iconst 1, 1) := by decide +kernel
theorem dX5_isOffByRoll_25 : decode cX5_isOffByRoll 25 = .ok (.isub, 1) := by decide +kernel
theorem dX5_isOffByRoll_26 : decode cX5_isOffByRoll 26 = .ok (.iload_n 3, 1) := by decide +kernel
theorem dX5_isOffByRoll_27 : decode cX5_isOffByRoll 27 = .ok (.iload 4, 2) := by decide +kernel
theorem dX5_isOffByRoll_29 : decode cX5_isOffByRoll 29 = .ok (.invokevirtual 97, 3) := by decide +kernel
theorem dX5_isOffByRoll_32 : decode cX5_isOffByRoll 32 = .ok (.istore 6, 2) := by decide +kernel
theorem dX5_isOffByRoll_34 : decode cX5_isOffByRoll 34 = .ok (.aload_n 0, 1) := by decide +kernel
theorem dX5_isOffByRoll_35 : decode cX5_isOffByRoll 35 = .ok (.aload_n 0, 1) := by decide +kernel
theorem dX5_isOffByRoll_36 : decode cX5_isOffByRoll 36 = .ok (.getfield 19, 3) := by decide +kernel
theorem dX5_isOffByRoll_39 : decode cX5_isOffByRoll 39 = .ok (.iload_n 1, 1) := by decide +kernel
theorem dX5_isOffByRoll_40 : decode cX5_isOffByRoll 40 = .ok (.iaload, 1) := by decide +kernel
theorem dX5_isOffByRoll_41 : decode cX5_isOffByRoll 41 = .ok (.iload_n 2, 1) := by decide +kernel
theorem dX5_isOffByRoll_42 : decode cX5_isOffByRoll 42 = .ok (.iload_n 3, 1) := by decide +kernel
theorem dX5_isOffByRoll_43 : decode cX5_isOffByRoll 43 = .ok (.iload 4, 2) := by decide +kernel
theorem dX5_isOffByRoll_45 : decode cX5_isOffByRoll 45 = .ok (.invokevirtual 97, 3) := by decide +kernel
theorem dX5_isOffByRoll_48 : decode cX5_isOffByRoll 48 = .ok (.istore 7, 2) := by decide +kernel
theorem dX5_isOffByRoll_50 : decode cX5_isOffByRoll 50 = .ok (.iload_n 2, 1) := by decide +kernel
theorem dX5_isOffByRoll_51 : decode cX5_isOffByRoll 51 = .ok (.ifCond .le 25, 3) := by decide +kernel
theorem dX5_isOffByRoll_54 : decode cX5_isOffByRoll 54 = .ok (.iload 5, 2) := by decide +kernel
theorem dX5_isOffByRoll_56 : decode cX5_isOffByRoll 56 = .ok (.iconst (-1), 1) := by decide +kernel
theorem dX5_isOffByRoll_57 : decode cX5_isOffByRoll 57 = .ok (.if_icmp .eq 19, 3) := by decide +kernel
theorem dX5_isOffByRoll_60 : decode cX5_isOffByRoll 60 = .ok (.iload 6, 2) := by decide +kernel
theorem dX5_isOffByRoll_62 : decode cX5_isOffByRoll 62 = .ok (.iconst (-1), 1) := by decide +kernel
theorem dX5_isOffByRoll_63 : decode cX5_isOffByRoll 63 = .ok (.if_icmp .eq 13, 3) := by decide +kernel
theorem dX5_isOffByRoll_66 : decode cX5_isOffByRoll 66 = .ok (.iload 7, 2) := by decide +kernel
theorem dX5_isOffByRoll_68 : decode cX5_isOffByRoll 68 = .ok (.iconst (-1), 1) := by decide +kernel
theorem dX5_isOffByRoll_69 : decode cX5_isOffByRoll 69 = .ok (.if_icmp .eq 7, 3) := by decide +kernel
theorem dX5_isOffByRoll_72 : decode cX5_isOffByRoll 72 = .ok (.iconst 1, 1) := by decide +kernel
theorem dX5_isOffByRoll_73 : decode cX5_isOffByRoll 73 = .ok (.goto 4, 3) := by decide +kernel
theorem dX5_isOffByRoll_76 : decode cX5_isOffByRoll 76 = .ok (.iconst 0, 1) := by decide +kernel
theorem dX5_isOffByRoll_77 : decode cX5_isOffByRoll 77 = .ok (.istore 8, 2) := by decide +kernel
theorem dX5_isOffByRoll_79 : decode cX5_isOffByRoll 79 = .ok (.iload 8, 2) := by decide +kernel
theorem dX5_isOffByRoll_81 : decode cX5_isOffByRoll 81 = .ok (.ifCond .eq 55, 3) := by decide +kernel
theorem dX5_isOffByRoll_84 : decode cX5_isOffByRoll 84 = .ok (.aload_n 0, 1) := by decide +kernel
theorem dX5_isOffByRoll_85 : decode cX5_isOffByRoll 85 = .ok (.getfield 38, 3) := by decide +kernel
theorem dX5_isOffByRoll_88 : decode cX5_isOffByRoll 88 = .ok (.iload 5, 2) := by decide +kernel
theorem dX5_isOffByRoll_90 : decode cX5_isOffByRoll 90 = .ok (.iaload, 1) := by decide +kernel
theorem dX5_isOffByRoll_91 : decode cX5_isOffByRoll 91 = .ok (.aload_n 0, 1) := by decide +kernel
theorem dX5_isOffByRoll_92 : decode cX5_isOffByRoll 92 = .ok (.getfield 38, 3) := by decide +kernel
theorem dX5_isOffByRoll_95 : decode cX5_isOffByRoll 95 = .ok (.iload 6, 2) := by decide +kernel
theorem dX5_isOffByRoll_97 : decode cX5_isOffByRoll 97 = .ok (.iaload, 1) := by decide +kernel
theorem dX5_isOffByRoll_98 : decode cX5_isOffByRoll 98 = .ok (.aload_n 0, 1) := by decide +kernel
theorem dX5_isOffByRoll_99 : decode cX5_isOffByRoll 99 = .ok (.getfield 38, 3) := by decide +kernel
theorem dX5_isOffByRoll_102 : decode cX5_isOffByRoll 102 = .ok (.iload 7, 2) := by decide +kernel
theorem dX5_isOffByRoll_104 : decode cX5_isOffByRoll 104 = .ok (.iaload, 1) := by decide +kernel
theorem dX5_isOffByRoll_105 : decode cX5_isOffByRoll 105 = .ok (.iadd, 1) := by decide +kernel
theorem dX5_isOffByRoll_106 : decode cX5_isOffByRoll 106 = .ok (.aload_n 0, 1) := by decide +kernel
theorem dX5_isOffByRoll_107 : decode cX5_isOffByRoll 107 = .ok (.iload 5, 2) := by decide +kernel
theorem dX5_isOffByRoll_109 : decode cX5_isOffByRoll 109 = .ok (.invokevirtual 90, 3) := by decide +kernel
theorem dX5_isOffByRoll_112 : decode cX5_isOffByRoll 112 = .ok (.aload_n 0, 1) := by decide +kernel
theorem dX5_isOffByRoll_113 : decode cX5_isOffByRoll 113 = .ok (.iload 6, 2) := by decide +kernel
theorem dX5_isOffByRoll_115 : decode cX5_isOffByRoll 115 = .ok (.invokevirtual 90, 3) := by decide +kernel
theorem dX5_isOffByRoll_118 : decode cX5_isOffByRoll 118 = .ok (.iadd, 1) := by decide +kernel
theorem dX5_isOffByRoll_119 : decode cX5_isOffByRoll 119 = .ok (.aload_n 0, 1) := by decide +kernel
theorem dX5_isOffByRoll_120 : decode cX5_isOffByRoll 120 = .ok (.iload 7, 2) := by decide +kernel
theorem dX5_isOffByRoll_122 : decode cX5_isOffByRoll 122 = .ok (.invokevirtual 90, 3) := by decide +kernel
theorem dX5_isOffByRoll_125 : decode cX5_isOffByRoll 125 = .ok (.iadd, 1) := by decide +kernel
theorem dX5_isOffByRoll_126 : decode cX5_isOffByRoll 126 = .ok (.invokestatic 94, 3) := by decide +kernel
theorem dX5_isOffByRoll_129 : decode cX5_isOffByRoll 129 = .ok (.ifCond .eq 7, 3) := by decide +kernel
theorem dX5_isOffByRoll_132 : decode cX5_isOffByRoll 132 = .ok (.iconst 1, 1) := by decide +kernel
theorem dX5_isOffByRoll_133 : decode cX5_isOffByRoll 133 = .ok (.goto 4, 3) := by decide +kernel
theorem dX5_isOffByRoll_136 : decode cX5_isOffByRoll 136 = .ok (.iconst 0, 1) := by decide +kernel
theorem dX5_isOffByRoll_137 : decode cX5_isOffByRoll 137 = .ok (.ireturn, 1) := by decide +kernel
set_option maxRecDepth 20000 in
theorem ggX5_isSumOff_X5_isAsked : GoodIn wsX5_isSumOff wsX5_isAsked := goodIn_r _ [5, 6, 7, 8, 4, 9, 10, 11, 12, 13, 14, 15, 16, 17, 18, 19, 20, 21, 22, 60, 61, 62, 63, 64, 65, 66, 67, 68, 69, 70, 71, 72, 73, 74, 75, 76] (by decide +kernel) (by decide +kernel)
set_option maxRecDepth 20000 in
theorem gX5_isSumOff_X5_isAsked : GoodIn wsX5_isSumOff (wsV RX5 101 RX5 yX5_isAsked wsX5_isAsked) := goodIn_app (goodIn_of _ (by decide +kernel)) ggX5_isSumOff_X5_isAsked
set_option maxRecDepth 20000 in
theorem ggX5_isSumOff_X5_can : GoodIn wsX5_isSumOff wsX5_can := goodIn_r _ [26, 27, 60, 61, 62, 63, 64, 65, 66, 67, 68, 69, 70, 71, 72, 73, 74, 75, 76] (by decide +kernel) (by decide +kernel)
set_option maxRecDepth 20000 in
theorem gX5_isSumOff_X5_can : GoodIn wsX5_isSumOff (wsV RX5 65 RX5 yX5_can wsX5_can) := goodIn_app (goodIn_of _ (by decide +kernel)) ggX5_isSumOff_X5_can
set_option maxRecDepth 20000 in
theorem ggX5_isSumOff_X5_isOffBySum : GoodIn wsX5_isSumOff wsX5_isOffBySum := goodIn_r _ [31, 14, 32, 33, 34, 35, 36, 4, 37, 38, 39, 40, 41, 42, 43, 44, 45, 46, 47, 48, 49, 50, 51, 52, 53, 54, 55, 56, 57, 58, 59, 60, 61, 62, 63, 64, 65, 66, 67, 68, 69, 70, 71, 72, 73, 74, 75, 76] (by decide +kernel) (by decide +kernel)
set_option maxRecDepth 20000 in
theorem gX5_isSumOff_X5_isOffBySum : GoodIn wsX5_isSumOff (wsV RX5 111 RX5 yX5_isOffBySum wsX5_isOffBySum) := goodIn_app (goodIn_of _ (by decide +kernel)) ggX5_isSumOff_X5_isOffBySum
theorem dX5_isSumOff_0 : decode cX5_isSumOff 0 = .ok (.aload_n 0, 1) := by decide +kernel
theorem dX5_isSumOff_1 : decode cX5_isSumOff 1 = .ok (.aload_n 0, 1) := by decide +kernel
theorem dX5_isSumOff_2 : decode cX5_isSumOff 2 = .ok (.iload_n 1, 1) := by decide +kernel
theorem dX5_isSumOff_3 : decode cX5_isSumOff 3 = .ok (.iload_n 2, 1) := by decide +kernel
theorem dX5_isSumOff_4 : decode cX5_isSumOff 4 = .ok (.iload_n 3, 1) := by decide +kernel
theorem dX5_isSumOff_5 : decode cX5_isSumOff 5 = .ok (.iload 4, 2) := by decide +kernel
theorem dX5_isSumOff_7 : decode cX5_isSumOff 7 = .ok (.invokevirtual 101, 3) := by decide +kernel
theorem dX5_isSumOff_10 : decode cX5_isSumOff 10 = .ok (.ifCond .eq 7, 3) := by decide +kernel
theorem dX5_isSumOff_13 : decode cX5_isSumOff 13 = .ok (.iconst 0, 1) := by decide +kernel
theorem dX5_isSumOff_14 : decode cX5_isSumOff 14 = .ok (.goto 4, 3) := by decide +kernel
theorem dX5_isSumOff_17 : decode cX5_isSumOff 17 = .ok (.iconst 1, 1) := by decide +kernel
theorem dX5_isSumOff_18 : decode cX5_isSumOff 18 = .ok (.invokevirtual 65, 3) := by decide +kernel
theorem dX5_isSumOff_21 : decode cX5_isSumOff 21 = .ok (.ifCond .eq 19, 3) := by decide +kernel
theorem dX5_isSumOff_24 : decode cX5_isSumOff 24 = .ok (.aload_n 0, 1) := by decide +kernel
theorem dX5_isSumOff_25 : decode cX5_isSumOff 25 = .ok (.iload_n 1, 1) := by decide +kernel
theorem dX5_isSumOff_26 : decode cX5_isSumOff 26 = .ok (.iload_n 2, 1) := by decide +kernel
theorem dX5_isSumOff_27 : decode cX5_isSumOff 27 = .ok (.iload_n 3, 1) := by decide +kernel
theorem dX5_isSumOff_28 : decode cX5_isSumOff 28 = .ok (.iload 4, 2) := by decide +kernel
theorem dX5_isSumOff_30 : decode cX5_isSumOff 30 = .ok (.invokevirtual 111, 3) := by decide +kernel
theorem dX5_isSumOff_33 : decode cX5_isSumOff 33 = .ok (.ifCond .eq 7, 3) := by decide +kernel
theorem dX5_isSumOff_36 : decode cX5_isSumOff 36 = .ok (.iconst 1, 1) := by decide +kernel
theorem dX5_isSumOff_37 : decode cX5_isSumOff 37 = .ok (.goto 4, 3) := by decide +kernel
theorem dX5_isSumOff_40 : decode cX5_isSumOff 40 = .ok (.iconst 0, 1) := by decide +kernel
theorem dX5_isSumOff_41 : decode cX5_isSumOff 41 = .ok (.ireturn, 1) := by decide +kernel
set_option maxRecDepth 20000 in
theorem ggX5_areMembersOff_X5_isAsked : GoodIn wsX5_areMembersOff wsX5_isAsked := goodIn_r _ [5, 6, 7, 8, 4, 9, 10, 11, 12, 13, 14, 15, 16, 17, 18, 19, 20, 21, 22, 54, 55, 56, 57, 58, 59, 60, 61, 62, 63, 64, 65, 66, 67, 68, 69, 70] (by decide +kernel) (by decide +kernel)
set_option maxRecDepth 20000 in
theorem gX5_areMembersOff_X5_isAsked : GoodIn wsX5_areMembersOff (wsV RX5 101 RX5 yX5_isAsked wsX5_isAsked) := goodIn_app (goodIn_of _ (by decide +kernel)) ggX5_areMembersOff_X5_isAsked
set_option maxRecDepth 20000 in
theorem ggX5_areMembersOff_X5_can : GoodIn wsX5_areMembersOff wsX5_can := goodIn_r _ [26, 27, 54, 55, 56, 57, 58, 59, 60, 61, 62, 63, 64, 65, 66, 67, 68, 69, 70] (by decide +kernel) (by decide +kernel)
set_option maxRecDepth 20000 in
theorem gX5_areMembersOff_X5_can : GoodIn wsX5_areMembersOff (wsV RX5 65 RX5 yX5_can wsX5_can) := goodIn_app (goodIn_of _ (by decide +kernel)) ggX5_areMembersOff_X5_can
set_option maxRecDepth 20000 in
theorem ggX5_areMembersOff_X5_isOffByMembers : GoodIn wsX5_areMembersOff wsX5_isOffByMembers := goodIn_r _ [31, 32, 33, 34, 35, 4, 36, 37, 38, 39, 40, 41, 42, 43, 44, 45, 46, 47, 48, 49, 50, 51, 52, 53, 54, 55, 56, 57, 58, 59, 60, 61, 62, 63, 64, 65, 66, 67, 68, 69, 70] (by decide +kernel) (by decide +kernel)
set_option maxRecDepth 20000 in
theorem gX5_areMembersOff_X5_isOffByMembers : GoodIn wsX5_areMembersOff (wsV RX5 114 RX5 yX5_isOffByMembers wsX5_isOffByMembers) := goodIn_app (goodIn_of _ (by decide +kernel)) ggX5_areMembersOff_X5_isOffByMembers
theorem dX5_areMembersOff_0 : decode cX5_areMembersOff 0 = .ok (.aload_n 0, 1) := by decide +kernel
theorem dX5_areMembersOff_1 : decode cX5_areMembersOff 1 = .ok (.aload_n 0, 1) := by decide +kernel
theorem dX5_areMembersOff_2 : decode cX5_areMembersOff 2 = .ok (.iload_n 1, 1) := by decide +kernel
theorem dX5_areMembersOff_3 : decode cX5_areMembersOff 3 = .ok (.iload_n 2, 1) := by decide +kernel
theorem dX5_areMembersOff_4 : decode cX5_areMembersOff 4 = .ok (.iconst 0, 1) := by decide +kernel
theorem dX5_areMembersOff_5 : decode cX5_areMembersOff 5 = .ok (.iload_n 3, 1) := by decide +kernel
theorem dX5_areMembersOff_6 : decode cX5_areMembersOff 6 = .ok (.invokevirtual 101, 3) := by decide +kernel
theorem dX5_areMembersOff_9 : decode cX5_areMembersOff 9 = .ok (.ifCond .eq 7, 3) := by decide +kernel
theorem dX5_areMembersOff_12 : decode cX5_areMembersOff 12 = .ok (.iconst 0, 1) := by decide +kernel
theorem dX5_areMembersOff_13 : decode cX5_areMembersOff 13 = .ok (.goto 4, 3) := by decide +kernel
theorem dX5_areMembersOff_16 : decode cX5_areMembersOff 16 = .ok (.iconst 1, 1) := by decide +kernel
theorem dX5_areMembersOff_17 : decode cX5_areMembersOff 17 = .ok (.invokevirtual 65, 3) := by decide +kernel
theorem dX5_areMembersOff_20 : decode cX5_areMembersOff 20 = .ok (.ifCond .eq 17, 3) := by decide +kernel
theorem dX5_areMembersOff_23 : decode cX5_areMembersOff 23 = .ok (.aload_n 0, 1) := by decide +kernel
theorem dX5_areMembersOff_24 : decode cX5_areMembersOff 24 = .ok (.iload_n 1, 1) := by decide +kernel
theorem dX5_areMembersOff_25 : decode cX5_areMembersOff 25 = .ok (.iload_n 2, 1) := by decide +kernel
theorem dX5_areMembersOff_26 : decode cX5_areMembersOff 26 = .ok (.iload_n 3, 1) := by decide +kernel
theorem dX5_areMembersOff_27 : decode cX5_areMembersOff 27 = .ok (.invokevirtual 114, 3) := by decide +kernel
theorem dX5_areMembersOff_30 : decode cX5_areMembersOff 30 = .ok (.ifCond .eq 7, 3) := by decide +kernel
theorem dX5_areMembersOff_33 : decode cX5_areMembersOff 33 = .ok (.iconst 1, 1) := by decide +kernel
theorem dX5_areMembersOff_34 : decode cX5_areMembersOff 34 = .ok (.goto 4, 3) := by decide +kernel
theorem dX5_areMembersOff_37 : decode cX5_areMembersOff 37 = .ok (.iconst 0, 1) := by decide +kernel
theorem dX5_areMembersOff_38 : decode cX5_areMembersOff 38 = .ok (.ireturn, 1) := by decide +kernel
set_option maxRecDepth 20000 in
theorem ggX5_isRollOff_X5_isIn : GoodIn wsX5_isRollOff wsX5_isIn := goodIn_r _ [5] (by decide +kernel) (by decide +kernel)
set_option maxRecDepth 20000 in
theorem gX5_isRollOff_X5_isIn : GoodIn wsX5_isRollOff (va_wsS RX5 57 yX5_isIn wsX5_isIn) := goodIn_app (goodIn_of _ (by decide +kernel)) ggX5_isRollOff_X5_isIn
set_option maxRecDepth 20000 in
theorem ggX5_isRollOff_X5_isFiling : GoodIn wsX5_isRollOff wsX5_isFiling := goodIn_r _ [9, 10, 2, 3, 4, 5, 44, 45, 46, 47, 48, 49, 50, 51, 52, 53, 54, 55, 56, 57, 58, 59, 60] (by decide +kernel) (by decide +kernel)
set_option maxRecDepth 20000 in
theorem gX5_isRollOff_X5_isFiling : GoodIn wsX5_isRollOff (wsV RX5 87 RX5 yX5_isFiling wsX5_isFiling) := goodIn_app (goodIn_of _ (by decide +kernel)) ggX5_isRollOff_X5_isFiling
set_option maxRecDepth 20000 in
theorem ggX5_isRollOff_X5_can : GoodIn wsX5_isRollOff wsX5_can := goodIn_r _ [14, 15, 44, 45, 46, 47, 48, 49, 50, 51, 52, 53, 54, 55, 56, 57, 58, 59, 60] (by decide +kernel) (by decide +kernel)
set_option maxRecDepth 20000 in
theorem gX5_isRollOff_X5_can : GoodIn wsX5_isRollOff (wsV RX5 65 RX5 yX5_can wsX5_can) := goodIn_app (goodIn_of _ (by decide +kernel)) ggX5_isRollOff_X5_can
set_option maxRecDepth 20000 in
theorem ggX5_isRollOff_X5_isOffByRoll : GoodIn wsX5_isRollOff wsX5_isOffByRoll := goodIn_r _ [19, 20, 21, 22, 23, 24, 25, 4, 26, 27, 28, 29, 30, 31, 32, 33, 34, 35, 36, 37, 38, 39, 40, 41, 42, 43, 44, 45, 46, 47, 48, 49, 50, 51, 52, 53, 54, 55, 56, 57, 58, 59, 60] (by decide +kernel) (by decide +kernel)
set_option maxRecDepth 20000 in
theorem gX5_isRollOff_X5_isOffByRoll : GoodIn wsX5_isRollOff (wsV RX5 117 RX5 yX5_isOffByRoll wsX5_isOffByRoll) := goodIn_app (goodIn_of _ (by decide +kernel)) ggX5_isRollOff_X5_isOffByRoll
theorem dX5_isRollOff_0 : decode cX5_isRollOff 0 = .ok (.iload_n 1, 1) := by decide +kernel
theorem dX5_isRollOff_1 : decode cX5_isRollOff 1 = .ok (.iconst 0, 1) := by decide +kernel
theorem dX5_isRollOff_2 : decode cX5_isRollOff 2 = .ok (.aload_n 0, 1) := by decide +kernel
theorem dX5_isRollOff_3 : decode cX5_isRollOff 3 = .ok (.getfield 72, 3) := by decide +kernel
theorem dX5_isRollOff_6 : decode cX5_isRollOff 6 = .ok (.iconst 1, 1) := by decide +kernel
theorem dX5_isRollOff_7 : decode cX5_isRollOff 7 = .ok (.isub, 1) := by decide +kernel
theorem dX5_isRollOff_8 : decode cX5_isRollOff 8 = .ok (.invokestatic 57, 3) := by decide +kernel
theorem dX5_isRollOff_11 : decode cX5_isRollOff 11 = .ok (.ifCond .eq 35, 3) := by decide +kernel
theorem dX5_isRollOff_14 : decode cX5_isRollOff 14 = .ok (.iload_n 2, 1) := by decide +kernel
theorem dX5_isRollOff_15 : decode cX5_isRollOff 15 = .ok (.iconst 0, 1) := by decide +kernel
theorem dX5_isRollOff_16 : decode cX5_isRollOff 16 = .ok (.bipush 9, 2) := by decide +kernel
theorem dX5_isRollOff_18 : decode cX5_isRollOff 18 = .ok (.invokestatic 57, 3) := by decide +kernel
theorem dX5_isRollOff_21 : decode cX5_isRollOff 21 = .ok (.ifCond .eq 25, 3) := by decide +kernel
theorem dX5_isRollOff_24 : decode cX5_isRollOff 24 = .ok (.iload_n 3, 1) := by decide +kernel
theorem dX5_isRollOff_25 : decode cX5_isRollOff 25 = .ok (.iconst 0, 1) := by decide +kernel
theorem dX5_isRollOff_26 : decode cX5_isRollOff 26 = .ok (.iconst 3, 1) := by decide +kernel
theorem dX5_isRollOff_27 : decode cX5_isRollOff 27 = .ok (.invokestatic 57, 3) := by decide +kernel
theorem dX5_isRollOff_30 : decode cX5_isRollOff 30 = .ok (.ifCond .eq 16, 3) := by decide +kernel
theorem dX5_isRollOff_33 : decode cX5_isRollOff 33 = .ok (.aload_n 0, 1) := by decide +kernel
theorem dX5_isRollOff_34 : decode cX5_isRollOff 34 = .ok (.iload 4, 2) := by decide +kernel
theorem dX5_isRollOff_36 : decode cX5_isRollOff 36 = .ok (.invokevirtual 87, 3) := by decide +kernel
theorem dX5_isRollOff_39 : decode cX5_isRollOff 39 = .ok (.ifCond .eq 7, 3) := by decide +kernel
theorem dX5_isRollOff_42 : decode cX5_isRollOff 42 = .ok (.iconst 1, 1) := by decide +kernel
theorem dX5_isRollOff_43 : decode cX5_isRollOff 43 = .ok (.goto 4, 3) := by decide +kernel
theorem dX5_isRollOff_46 : decode cX5_isRollOff 46 = .ok (.iconst 0, 1) := by decide +kernel
theorem dX5_isRollOff_47 : decode cX5_isRollOff 47 = .ok (.istore 5, 2) := by decide +kernel
theorem dX5_isRollOff_49 : decode cX5_isRollOff 49 = .ok (.aload_n 0, 1) := by decide +kernel
theorem dX5_isRollOff_50 : decode cX5_isRollOff 50 = .ok (.iload 5, 2) := by decide +kernel
theorem dX5_isRollOff_52 : decode cX5_isRollOff 52 = .ok (.ifCond .eq 7, 3) := by decide +kernel
theorem dX5_isRollOff_55 : decode cX5_isRollOff 55 = .ok (.iconst 0, 1) := by decide +kernel
theorem dX5_isRollOff_56 : decode cX5_isRollOff 56 = .ok (.goto 4, 3) := by decide +kernel
theorem dX5_isRollOff_59 : decode cX5_isRollOff 59 = .ok (.iconst 1, 1) := by decide +kernel
theorem dX5_isRollOff_60 : decode cX5_isRollOff 60 = .ok (.invokevirtual 65, 3) := by decide +kernel
theorem dX5_isRollOff_63 : decode cX5_isRollOff 63 = .ok (.ifCond .eq 19, 3) := by decide +kernel
theorem dX5_isRollOff_66 : decode cX5_isRollOff 66 = .ok (.aload_n 0, 1) := by decide +kernel
theorem dX5_isRollOff_67 : decode cX5_isRollOff 67 = .ok (.iload_n 1, 1) := by decide +kernel
theorem dX5_isRollOff_68 : decode cX5_isRollOff 68 = .ok (.iload_n 2, 1) := by decide +kernel
theorem dX5_isRollOff_69 : decode cX5_isRollOff 69 = .ok (.iload_n 3, 1) := by decide +kernel
theorem dX5_isRollOff_70 : decode cX5_isRollOff 70 = .ok (.iload 4, 2) := by decide +kernel
theorem dX5_isRollOff_72 : decode cX5_isRollOff 72 = .ok (.invokevirtual 117, 3) := by decide +kernel
theorem dX5_isRollOff_75 : decode cX5_isRollOff 75 = .ok (.ifCond .eq 7, 3) := by decide +kernel
theorem dX5_isRollOff_78 : decode cX5_isRollOff 78 = .ok (.iconst 1, 1) := by decide +kernel
theorem dX5_isRollOff_79 : decode cX5_isRollOff 79 = .ok (.goto 4, 3) := by decide +kernel
theorem dX5_isRollOff_82 : decode cX5_isRollOff 82 = .ok (.iconst 0, 1) := by decide +kernel
theorem dX5_isRollOff_83 : decode cX5_isRollOff 83 = .ok (.ireturn, 1) := by decide +kernel
set_option maxRecDepth 20000 in
theorem ggX5_allFaults_X5_isOffByMembers : GoodIn wsX5_allFaults wsX5_isOffByMembers := goodIn_r _ [7, 8, 9, 10, 11, 6, 12, 13, 14, 15, 16, 17, 18, 19, 20, 21, 22, 23, 24, 25, 26, 27, 28, 29, 46, 47, 48, 49, 50, 51, 52, 53, 54, 55, 56, 57, 58, 59, 60, 61, 62] (by decide +kernel) (by decide +kernel)
set_option maxRecDepth 20000 in
theorem gX5_allFaults_X5_isOffByMembers : GoodIn wsX5_allFaults (wsV RX5 114 RX5 yX5_isOffByMembers wsX5_isOffByMembers) := goodIn_app (goodIn_of _ (by decide +kernel)) ggX5_allFaults_X5_isOffByMembers
set_option maxRecDepth 20000 in
theorem ggX5_allFaults_X5_isOffBySum : GoodIn wsX5_allFaults wsX5_isOffBySum := goodIn_r _ [33, 1, 34, 8, 9, 10, 11, 6, 12, 13, 14, 15, 16, 17, 18, 19, 20, 21, 22, 23, 24, 25, 26, 35, 36, 37, 38, 39, 27, 28, 29, 46, 47, 48, 49, 50, 51, 52, 53, 54, 55, 56, 57, 58, 59, 60, 61, 62] (by decide +kernel) (by decide +kernel)
set_option maxRecDepth 20000 in
theorem gX5_allFaults_X5_isOffBySum : GoodIn wsX5_allFaults (wsV RX5 111 RX5 yX5_isOffBySum wsX5_isOffBySum) := goodIn_app (goodIn_of _ (by decide +kernel)) ggX5_allFaults_X5_isOffBySum
set_option maxRecDepth 20000 in
theorem ggX5_allFaults_X5_isOffByRoll : GoodIn wsX5_allFaults wsX5_isOffByRoll := goodIn_r _ [43, 44, 45, 8, 9, 10, 11, 6, 12, 13, 14, 15, 16, 17, 18, 19, 20, 21, 22, 23, 24, 25, 26, 27, 28, 29, 46, 47, 48, 49, 50, 51, 52, 53, 54, 55, 56, 57, 58, 59, 60, 61, 62] (by decide +kernel) (by decide +kernel)
set_option maxRecDepth 20000 in
theorem gX5_allFaults_X5_isOffByRoll : GoodIn wsX5_allFaults (wsV RX5 117 RX5 yX5_isOffByRoll wsX5_isOffByRoll) := goodIn_app (goodIn_of _ (by decide +kernel)) ggX5_allFaults_X5_isOffByRoll
theorem dX5_allFaults_0 : decode cX5_allFaults 0 = .ok (.iconst 0, 1) := by decide +kernel
theorem dX5_allFaults_1 : decode cX5_allFaults 1 = .ok (.istore_n 2, 1) := by decide +kernel
theorem dX5_allFaults_2 : decode cX5_allFaults 2 = .ok (.iconst 0, 1) := by decide +kernel
theorem dX5_allFaults_3 : decode cX5_allFaults 3 = .ok (.istore_n 3, 1) := by decide +kernel
theorem dX5_allFaults_4 : decode cX5_allFaults 4 = .ok (.iload_n 3, 1) := by decide +kernel
theorem dX5_allFaults_5 : decode cX5_allFaults 5 = .ok (.bipush 10, 2) := by decide +kernel
theorem dX5_allFaults_7 : decode cX5_allFaults 7 = .ok (.if_icmp .ge 127, 3) := by decide +kernel
theorem dX5_allFaults_10 : decode cX5_allFaults 10 = .ok (.iconst 0, 1) := by decide +kernel
theorem dX5_allFaults_11 : decode cX5_allFaults 11 = .ok (.istore 4, 2) := by decide +kernel
theorem dX5_allFaults_13 : decode cX5_allFaults 13 = .ok (.iload 4, 2) := by decide +kernel
theorem dX5_allFaults_15 : decode cX5_allFaults 15 = .ok (.aload_n 0, 1) := by decide +kernel
theorem dX5_allFaults_16 : decode cX5_allFaults 16 = .ok (.getfield 54, 3) := by decide +kernel
theorem dX5_allFaults_19 : decode cX5_allFaults 19 = .ok (.if_icmp .ge 64, 3) := by decide +kernel
theorem dX5_allFaults_22 : decode cX5_allFaults 22 = .ok (.iload_n 2, 1) := by decide +kernel
theorem dX5_allFaults_23 : decode cX5_allFaults 23 = .ok (.aload_n 0, 1) := by decide +kernel
theorem dX5_allFaults_24 : decode cX5_allFaults 24 = .ok (.iload 4, 2) := by decide +kernel
theorem dX5_allFaults_26 : decode cX5_allFaults 26 = .ok (.iload_n 3, 1) := by decide +kernel
theorem dX5_allFaults_27 : decode cX5_allFaults 27 = .ok (.iload_n 1, 1) := by decide +kernel
theorem dX5_allFaults_28 : decode cX5_allFaults 28 = .ok (.invokevirtual 114, 3) := by decide +kernel
theorem dX5_allFaults_31 : decode cX5_allFaults 31 = .ok (.ifCond .eq 7, 3) := by decide +kernel
theorem dX5_allFaults_34 : decode cX5_allFaults 34 = .ok (.iconst 1, 1) := by decide +kernel
theorem dX5_allFaults_35 : decode cX5_allFaults 35 = .ok (.goto 4, 3) := by decide +kernel
theorem dX5_allFaults_38 : decode cX5_allFaults 38 = .ok (.iconst 0, 1) := by decide +kernel
theorem dX5_allFaults_39 : decode cX5_allFaults 39 = .ok (.iadd, 1) := by decide +kernel
theorem dX5_allFaults_40 : decode cX5_allFaults 40 = .ok (.istore_n 2, 1) := by decide +kernel
theorem dX5_allFaults_41 : decode cX5_allFaults 41 = .ok (.iconst 0, 1) := by decide +kernel
theorem dX5_allFaults_42 : decode cX5_allFaults 42 = .ok (.istore 5, 2) := by decide +kernel
theorem dX5_allFaults_44 : decode cX5_allFaults 44 = .ok (.iload 5, 2) := by decide +kernel
theorem dX5_allFaults_46 : decode cX5_allFaults 46 = .ok (.iconst 4, 1) := by decide +kernel
theorem dX5_allFaults_47 : decode cX5_allFaults 47 = .ok (.if_icmp .ge 30, 3) := by decide +kernel
theorem dX5_allFaults_50 : decode cX5_allFaults 50 = .ok (.iload_n 2, 1) := by decide +kernel
theorem dX5_allFaults_51 : decode cX5_allFaults 51 = .ok (.aload_n 0, 1) := by decide +kernel
theorem dX5_allFaults_52 : decode cX5_allFaults 52 = .ok (.iload 4, 2) := by decide +kernel
theorem dX5_allFaults_54 : decode cX5_allFaults 54 = .ok (.iload_n 3, 1) := by decide +kernel
theorem dX5_allFaults_55 : decode cX5_allFaults 55 = .ok (.iload 5, 2) := by decide +kernel
theorem dX5_allFaults_57 : decode cX5_allFaults 57 = .ok (.iload_n 1, 1) := by decide +kernel
theorem dX5_allFaults_58 : decode cX5_allFaults 58 = .ok (.invokevirtual 111, 3) := by decide +kernel
theorem dX5_allFaults_61 : decode cX5_allFaults 61 = .ok (.ifCond .eq 7, 3) := by decide +kernel
theorem dX5_allFaults_64 : decode cX5_allFaults 64 = .ok (.iconst 1, 1) := by decide +kernel
theorem dX5_allFaults_65 : decode cX5_allFaults 65 = .ok (.goto 4, 3) := by decide +kernel
theorem dX5_allFaults_68 : decode cX5_allFaults 68 = .ok (.iconst 0, 1) := by decide +kernel
theorem dX5_allFaults_69 : decode cX5_allFaults 69 = .ok (.iadd, 1) := by decide +kernel
theorem dX5_allFaults_70 : decode cX5_allFaults 70 = .ok (.istore_n 2, 1) := by decide +kernel
theorem dX5_allFaults_71 : decode cX5_allFaults 71 = .ok (.iinc 5 1, 3) := by decide +kernel
theorem dX5_allFaults_74 : decode cX5_allFaults 74 = .ok (.goto (-30), 3) := by decide +kernel
theorem dX5_allFaults_77 : decode cX5_allFaults 77 = .ok (.iinc 4 1, 3) := by decide +kernel
theorem dX5_allFaults_80 : decode cX5_allFaults 80 = .ok (.goto (-67), 3) := by decide +kernel
theorem dX5_allFaults_83 : decode cX5_allFaults 83 = .ok (.iconst 0, 1) := by decide +kernel
theorem dX5_allFaults_84 : decode cX5_allFaults 84 = .ok (.istore 4, 2) := by decide +kernel
theorem dX5_allFaults_86 : decode cX5_allFaults 86 = .ok (.iload 4, 2) := by decide +kernel
theorem dX5_allFaults_88 : decode cX5_allFaults 88 = .ok (.iconst 4, 1) := by decide +kernel
theorem dX5_allFaults_89 : decode cX5_allFaults 89 = .ok (.aload_n 0, 1) := by decide +kernel
theorem dX5_allFaults_90 : decode cX5_allFaults 90 = .ok (.getfield 72, 3) := by decide +kernel
theorem dX5_allFaults_93 : decode cX5_allFaults 93 = .ok (.imul, 1) := by decide +kernel
theorem dX5_allFaults_94 : decode cX5_allFaults 94 = .ok (.if_icmp .ge 34, 3) := by decide +kernel
theorem dX5_allFaults_97 : decode cX5_allFaults 97 = .ok (.iload_n 2, 1) := by decide +kernel
theorem dX5_allFaults_98 : decode cX5_allFaults 98 = .ok (.aload_n 0, 1) := by decide +kernel
theorem dX5_allFaults_99 : decode cX5_allFaults 99 = .ok (.iload 4, 2) := by decide +kernel
theorem dX5_allFaults_101 : decode cX5_allFaults 101 = .ok (.iconst 4, 1) := by decide +kernel
theorem dX5_allFaults_102 : decode cX5_allFaults 102 = .ok (.idiv, 1) := by decide +kernel
theorem dX5_allFaults_103 : decode cX5_allFaults 103 = .ok (.iload_n 3, 1) := by decide +kernel
theorem dX5_allFaults_104 : decode cX5_allFaults 104 = .ok (.iload 4, 2) := by decide +kernel
theorem dX5_allFaults_106 : decode cX5_allFaults 106 = .ok (.iconst 4, 1) := by decide +kernel
theorem dX5_allFaults_107 : decode cX5_allFaults 107 = .ok (.irem, 1) := by decide +kernel
theorem dX5_allFaults_108 : decode cX5_allFaults 108 = .ok (.iload_n 1, 1) := by decide +kernel
theorem dX5_allFaults_109 : decode cX5_allFaults 109 = .ok (.invokevirtual 117, 3) := by decide +kernel
theorem dX5_allFaults_112 : decode cX5_allFaults 112 = .ok (.ifCond .eq 7, 3) := by decide +kernel
theorem dX5_allFaults_115 : decode cX5_allFaults 115 = .ok (.iconst 1, 1) := by decide +kernel
theorem dX5_allFaults_116 : decode cX5_allFaults 116 = .ok (.goto 4, 3) := by decide +kernel
theorem dX5_allFaults_119 : decode cX5_allFaults 119 = .ok (.iconst 0, 1) := by decide +kernel
theorem dX5_allFaults_120 : decode cX5_allFaults 120 = .ok (.iadd, 1) := by decide +kernel
theorem dX5_allFaults_121 : decode cX5_allFaults 121 = .ok (.istore_n 2, 1) := by decide +kernel
theorem dX5_allFaults_122 : decode cX5_allFaults 122 = .ok (.iinc 4 1, 3) := by decide +kernel
theorem dX5_allFaults_125 : decode cX5_allFaults 125 = .ok (.goto (-39), 3) := by decide +kernel
theorem dX5_allFaults_128 : decode cX5_allFaults 128 = .ok (.iinc 3 1, 3) := by decide +kernel
theorem dX5_allFaults_131 : decode cX5_allFaults 131 = .ok (.goto (-127), 3) := by decide +kernel
theorem dX5_allFaults_134 : decode cX5_allFaults 134 = .ok (.iload_n 2, 1) := by decide +kernel
theorem dX5_allFaults_135 : decode cX5_allFaults 135 = .ok (.ireturn, 1) := by decide +kernel
set_option maxRecDepth 20000 in
theorem ggX5_faults_X5_isFiling : GoodIn wsX5_faults wsX5_isFiling := goodIn_r _ [5, 6, 7, 8, 4, 9, 63, 64, 65, 66, 67, 68, 69, 70, 71, 72, 73, 74, 75, 76, 77, 78, 79] (by decide +kernel) (by decide +kernel)
set_option maxRecDepth 20000 in
theorem gX5_faults_X5_isFiling : GoodIn wsX5_faults (wsV RX5 87 RX5 yX5_isFiling wsX5_isFiling) := goodIn_app (goodIn_of _ (by decide +kernel)) ggX5_faults_X5_isFiling
set_option maxRecDepth 20000 in
theorem ggX5_faults_X5_can : GoodIn wsX5_faults wsX5_can := goodIn_r _ [13, 14, 63, 64, 65, 66, 67, 68, 69, 70, 71, 72, 73, 74, 75, 76, 77, 78, 79] (by decide +kernel) (by decide +kernel)
set_option maxRecDepth 20000 in
theorem gX5_faults_X5_can : GoodIn wsX5_faults (wsV RX5 65 RX5 yX5_can wsX5_can) := goodIn_app (goodIn_of _ (by decide +kernel)) ggX5_faults_X5_can
set_option maxRecDepth 20000 in
theorem ggX5_faults_X5_allFaults : GoodIn wsX5_faults wsX5_allFaults := goodIn_r _ [18, 19, 20, 21, 22, 23, 4, 24, 25, 26, 27, 28, 29, 30, 31, 32, 33, 34, 35, 36, 37, 38, 39, 40, 41, 42, 43, 44, 45, 46, 47, 48, 49, 50, 51, 52, 53, 54, 55, 56, 57, 58, 59, 60, 61, 62, 63, 64, 65, 66, 67, 68, 69, 70, 71, 72, 73, 74, 75, 76, 77, 78, 79] (by decide +kernel) (by decide +kernel)
set_option maxRecDepth 20000 in
theorem gX5_faults_X5_allFaults : GoodIn wsX5_faults (wsV RX5 120 RX5 yX5_allFaults wsX5_allFaults) := goodIn_app (goodIn_of _ (by decide +kernel)) ggX5_faults_X5_allFaults
theorem dX5_faults_0 : decode cX5_faults 0 = .ok (.aload_n 0, 1) := by decide +kernel
theorem dX5_faults_1 : decode cX5_faults 1 = .ok (.aload_n 0, 1) := by decide +kernel
theorem dX5_faults_2 : decode cX5_faults 2 = .ok (.iload_n 1, 1) := by decide +kernel
theorem dX5_faults_3 : decode cX5_faults 3 = .ok (.invokevirtual 87, 3) := by decide +kernel
theorem dX5_faults_6 : decode cX5_faults 6 = .ok (.ifCond .eq 7, 3) := by decide +kernel
theorem dX5_faults_9 : decode cX5_faults 9 = .ok (.iconst 0, 1) := by decide +kernel
theorem dX5_faults_10 : decode cX5_faults 10 = .ok (.goto 4, 3) := by decide +kernel
theorem dX5_faults_13 : decode cX5_faults 13 = .ok (.iconst 1, 1) := by decide +kernel
theorem dX5_faults_14 : decode cX5_faults 14 = .ok (.invokevirtual 65, 3) := by decide +kernel
theorem dX5_faults_17 : decode cX5_faults 17 = .ok (.ifCond .eq 11, 3) := by decide +kernel
theorem dX5_faults_20 : decode cX5_faults 20 = .ok (.aload_n 0, 1) := by decide +kernel
theorem dX5_faults_21 : decode cX5_faults 21 = .ok (.iload_n 1, 1) := by decide +kernel
theorem dX5_faults_22 : decode cX5_faults 22 = .ok (.invokevirtual 120, 3) := by decide +kernel
theorem dX5_faults_25 : decode cX5_faults 25 = .ok (.goto 4, 3) := by decide +kernel
theorem dX5_faults_28 : decode cX5_faults 28 = .ok (.iconst 0, 1) := by decide +kernel
theorem dX5_faults_29 : decode cX5_faults 29 = .ok (.ireturn, 1) := by decide +kernel
set_option maxRecDepth 20000 in
theorem ggX5_faultsByList_X5_isFiling : GoodIn wsX5_faultsByList wsX5_isFiling := goodIn_r _ [5, 6, 7, 8, 4, 9, 63, 64, 65, 66, 67, 68, 69, 70, 71, 72, 73, 74, 75, 76, 77, 78, 79] (by decide +kernel) (by decide +kernel)
set_option maxRecDepth 20000 in
theorem gX5_faultsByList_X5_isFiling : GoodIn wsX5_faultsByList (wsV RX5 87 RX5 yX5_isFiling wsX5_isFiling) := goodIn_app (goodIn_of _ (by decide +kernel)) ggX5_faultsByList_X5_isFiling
set_option maxRecDepth 20000 in
theorem ggX5_faultsByList_X5_can : GoodIn wsX5_faultsByList wsX5_can := goodIn_r _ [13, 14, 63, 64, 65, 66, 67, 68, 69, 70, 71, 72, 73, 74, 75, 76, 77, 78, 79] (by decide +kernel) (by decide +kernel)
set_option maxRecDepth 20000 in
theorem gX5_faultsByList_X5_can : GoodIn wsX5_faultsByList (wsV RX5 65 RX5 yX5_can wsX5_can) := goodIn_app (goodIn_of _ (by decide +kernel)) ggX5_faultsByList_X5_can
set_option maxRecDepth 20000 in
theorem ggX5_faultsByList_X5_allFaults : GoodIn wsX5_faultsByList wsX5_allFaults := goodIn_r _ [18, 19, 20, 21, 22, 23, 4, 24, 25, 26, 27, 28, 29, 30, 31, 32, 33, 34, 35, 36, 37, 38, 39, 40, 41, 42, 43, 44, 45, 46, 47, 48, 49, 50, 51, 52, 53, 54, 55, 56, 57, 58, 59, 60, 61, 62, 63, 64, 65, 66, 67, 68, 69, 70, 71, 72, 73, 74, 75, 76, 77, 78, 79] (by decide +kernel) (by decide +kernel)
set_option maxRecDepth 20000 in
theorem gX5_faultsByList_X5_allFaults : GoodIn wsX5_faultsByList (wsV RX5 120 RX5 yX5_allFaults wsX5_allFaults) := goodIn_app (goodIn_of _ (by decide +kernel)) ggX5_faultsByList_X5_allFaults
theorem dX5_faultsByList_0 : decode cX5_faultsByList 0 = .ok (.aload_n 0, 1) := by decide +kernel
theorem dX5_faultsByList_1 : decode cX5_faultsByList 1 = .ok (.aload_n 0, 1) := by decide +kernel
theorem dX5_faultsByList_2 : decode cX5_faultsByList 2 = .ok (.iload_n 1, 1) := by decide +kernel
theorem dX5_faultsByList_3 : decode cX5_faultsByList 3 = .ok (.invokevirtual 87, 3) := by decide +kernel
theorem dX5_faultsByList_6 : decode cX5_faultsByList 6 = .ok (.ifCond .eq 7, 3) := by decide +kernel
theorem dX5_faultsByList_9 : decode cX5_faultsByList 9 = .ok (.iconst 0, 1) := by decide +kernel
theorem dX5_faultsByList_10 : decode cX5_faultsByList 10 = .ok (.goto 4, 3) := by decide +kernel
theorem dX5_faultsByList_13 : decode cX5_faultsByList 13 = .ok (.iconst 1, 1) := by decide +kernel
theorem dX5_faultsByList_14 : decode cX5_faultsByList 14 = .ok (.invokevirtual 65, 3) := by decide +kernel
theorem dX5_faultsByList_17 : decode cX5_faultsByList 17 = .ok (.ifCond .eq 11, 3) := by decide +kernel
theorem dX5_faultsByList_20 : decode cX5_faultsByList 20 = .ok (.aload_n 0, 1) := by decide +kernel
theorem dX5_faultsByList_21 : decode cX5_faultsByList 21 = .ok (.iload_n 1, 1) := by decide +kernel
theorem dX5_faultsByList_22 : decode cX5_faultsByList 22 = .ok (.invokevirtual 120, 3) := by decide +kernel
theorem dX5_faultsByList_25 : decode cX5_faultsByList 25 = .ok (.goto 4, 3) := by decide +kernel
theorem dX5_faultsByList_28 : decode cX5_faultsByList 28 = .ok (.iconst 0, 1) := by decide +kernel
theorem dX5_faultsByList_29 : decode cX5_faultsByList 29 = .ok (.ireturn, 1) := by decide +kernel
theorem dJ9_abs_0f7a4_0 : decode cJ9_abs_0f7a4 0 = .ok (.iload_n 0, 1) := by decide +kernel
theorem dJ9_abs_0f7a4_1 : decode cJ9_abs_0f7a4 1 = .ok (.ifCond .ge 8, 3) := by decide +kernel
theorem dJ9_abs_0f7a4_4 : decode cJ9_abs_0f7a4 4 = .ok (.iload_n 0, 1) := by decide +kernel
theorem dJ9_abs_0f7a4_5 : decode cJ9_abs_0f7a4 5 = .ok (.ineg, 1) := by decide +kernel
theorem dJ9_abs_0f7a4_6 : decode cJ9_abs_0f7a4 6 = .ok (.goto 4, 3) := by decide +kernel
theorem dJ9_abs_0f7a4_9 : decode cJ9_abs_0f7a4 9 = .ok (.iload_n 0, 1) := by decide +kernel
theorem dJ9_abs_0f7a4_10 : decode cJ9_abs_0f7a4 10 = .ok (.ireturn, 1) := by decide +kernel
set_option maxRecDepth 20000 in
theorem ggL_addConcept_X4_addConcept : GoodIn wsL_addConcept wsX4_addConcept := goodIn_ca (goodIn_r _ [6, 7, 8, 9, 10, 11, 12, 13, 14, 15, 16, 17, 18, 19, 20, 21] (by decide +kernel) (by decide +kernel)) (goodIn_sub (fun _ h => List.mem_cons_of_mem _ (List.mem_append_right _ h)) (by decide +kernel))
set_option maxRecDepth 20000 in
theorem gL_addConcept_X4_addConcept : GoodIn wsL_addConcept (wsV RL 7 RX4 yX4_addConcept wsX4_addConcept) := goodIn_app (goodIn_of _ (by decide +kernel)) ggL_addConcept_X4_addConcept
theorem dL_addConcept_0 : decode cL_addConcept 0 = .ok (.aload_n 1, 1) := by decide +kernel
theorem dL_addConcept_1 : decode cL_addConcept 1 = .ok (.iconst 0, 1) := by decide +kernel
theorem dL_addConcept_2 : decode cL_addConcept 2 = .ok (.aload_n 0, 1) := by decide +kernel
theorem dL_addConcept_3 : decode cL_addConcept 3 = .ok (.invokevirtual 7, 3) := by decide +kernel
theorem dL_addConcept_6 : decode cL_addConcept 6 = .ok (.i2l, 1) := by decide +kernel
theorem dL_addConcept_7 : decode cL_addConcept 7 = .ok (.lastore, 1) := by decide +kernel
theorem dL_addConcept_8 : decode cL_addConcept 8 = .ok (.goto 6, 3) := by decide +kernel
theorem dL_addConcept_11 : decode cL_addConcept 11 = .ok (.astore_n 2, 1) := by decide +kernel
theorem dL_addConcept_12 : decode cL_addConcept 12 = .ok (.iconst 1, 1) := by decide +kernel
theorem dL_addConcept_13 : decode cL_addConcept 13 = .ok (.ireturn, 1) := by decide +kernel
theorem dL_addConcept_14 : decode cL_addConcept 14 = .ok (.iconst 0, 1) := by decide +kernel
theorem dL_addConcept_15 : decode cL_addConcept 15 = .ok (.ireturn, 1) := by decide +kernel
set_option maxRecDepth 20000 in
theorem ggL_hang_X4_hang : GoodIn wsL_hang wsX4_hang := goodIn_ca (goodIn_ca (goodIn_r _ [7, 8, 9, 10, 11, 12, 13, 14, 6, 15, 16, 17, 18, 19, 20, 21, 22, 23, 24, 25, 26, 27, 28, 29, 30, 31, 32, 33] (by decide +kernel) (by decide +kernel)) (goodIn_sub (fun _ h => List.mem_cons_of_mem _ (List.mem_append_left _ (List.mem_append_right _ h))) (by decide +kernel))) (goodIn_sub (fun _ h => List.mem_cons_of_mem _ (List.mem_append_right _ h)) (by decide +kernel))
set_option maxRecDepth 20000 in
theorem gL_hang_X4_hang : GoodIn wsL_hang (wsV RL 15 RX4 yX4_hang wsX4_hang) := goodIn_app (goodIn_of _ (by decide +kernel)) ggL_hang_X4_hang
theorem dL_hang_0 : decode cL_hang 0 = .ok (.aload 4, 2) := by decide +kernel
theorem dL_hang_2 : decode cL_hang 2 = .ok (.iconst 0, 1) := by decide +kernel
theorem dL_hang_3 : decode cL_hang 3 = .ok (.aload_n 0, 1) := by decide +kernel
theorem dL_hang_4 : decode cL_hang 4 = .ok (.iload_n 1, 1) := by decide +kernel
theorem dL_hang_5 : decode cL_hang 5 = .ok (.iload_n 2, 1) := by decide +kernel
theorem dL_hang_6 : decode cL_hang 6 = .ok (.iload_n 3, 1) := by decide +kernel
theorem dL_hang_7 : decode cL_hang 7 = .ok (.invokevirtual 15, 3) := by decide +kernel
theorem dL_hang_10 : decode cL_hang 10 = .ok (.i2l, 1) := by decide +kernel
theorem dL_hang_11 : decode cL_hang 11 = .ok (.lastore, 1) := by decide +kernel
theorem dL_hang_12 : decode cL_hang 12 = .ok (.goto 11, 3) := by decide +kernel
theorem dL_hang_15 : decode cL_hang 15 = .ok (.astore 5, 2) := by decide +kernel
theorem dL_hang_17 : decode cL_hang 17 = .ok (.iconst 1, 1) := by decide +kernel
theorem dL_hang_18 : decode cL_hang 18 = .ok (.ireturn, 1) := by decide +kernel
theorem dL_hang_19 : decode cL_hang 19 = .ok (.astore 5, 2) := by decide +kernel
theorem dL_hang_21 : decode cL_hang 21 = .ok (.iconst 2, 1) := by decide +kernel
theorem dL_hang_22 : decode cL_hang 22 = .ok (.ireturn, 1) := by decide +kernel
theorem dL_hang_23 : decode cL_hang 23 = .ok (.iconst 0, 1) := by decide +kernel
theorem dL_hang_24 : decode cL_hang 24 = .ok (.ireturn, 1) := by decide +kernel
set_option maxRecDepth 20000 in
theorem ggL_unhang_X4_unhang : GoodIn wsL_unhang wsX4_unhang := goodIn_ca (goodIn_r _ [6, 7, 8, 9, 10, 5, 11, 12, 13, 14, 15, 16, 17, 18, 19, 20, 21, 22, 23, 24, 25] (by decide +kernel) (by decide +kernel)) (goodIn_sub (fun _ h => List.mem_cons_of_mem _ (List.mem_append_right _ h)) (by decide +kernel))
set_option maxRecDepth 20000 in
theorem gL_unhang_X4_unhang : GoodIn wsL_unhang (wsV RL 23 RX4 yX4_unhang wsX4_unhang) := goodIn_app (goodIn_of _ (by decide +kernel)) ggL_unhang_X4_unhang
theorem dL_unhang_0 : decode cL_unhang 0 = .ok (.aload_n 2, 1) := by decide +kernel
theorem dL_unhang_1 : decode cL_unhang 1 = .ok (.iconst 0, 1) := by decide +kernel
theorem dL_unhang_2 : decode cL_unhang 2 = .ok (.aload_n 0, 1) := by decide +kernel
theorem dL_unhang_3 : decode cL_unhang 3 = .ok (.iload_n 1, 1) := by decide +kernel
theorem dL_unhang_4 : decode cL_unhang 4 = .ok (.invokevirtual 23, 3) := by decide +kernel
theorem dL_unhang_7 : decode cL_unhang 7 = .ok (.i2l, 1) := by decide +kernel
theorem dL_unhang_8 : decode cL_unhang 8 = .ok (.lastore, 1) := by decide +kernel
theorem dL_unhang_9 : decode cL_unhang 9 = .ok (.goto 6, 3) := by decide +kernel
theorem dL_unhang_12 : decode cL_unhang 12 = .ok (.astore_n 3, 1) := by decide +kernel
theorem dL_unhang_13 : decode cL_unhang 13 = .ok (.iconst 1, 1) := by decide +kernel
theorem dL_unhang_14 : decode cL_unhang 14 = .ok (.ireturn, 1) := by decide +kernel
theorem dL_unhang_15 : decode cL_unhang 15 = .ok (.iconst 0, 1) := by decide +kernel
theorem dL_unhang_16 : decode cL_unhang 16 = .ok (.ireturn, 1) := by decide +kernel
set_option maxRecDepth 20000 in
theorem ggL_addRoll_X4_addRoll : GoodIn wsL_addRoll wsX4_addRoll := goodIn_ca (goodIn_ca (goodIn_ca (goodIn_r _ [8, 9, 10, 11, 12, 13, 14, 15, 16, 17, 18, 7, 19, 20, 21, 22, 23, 24, 25, 26, 27, 28, 29, 30, 31, 32, 33] (by decide +kernel) (by decide +kernel)) (goodIn_sub (fun _ h => List.mem_cons_of_mem _ (List.mem_append_left _ (List.mem_append_left _ (List.mem_append_right _ h)))) (by decide +kernel))) (goodIn_sub (fun _ h => List.mem_cons_of_mem _ (List.mem_append_left _ (List.mem_append_right _ h))) (by decide +kernel))) (goodIn_sub (fun _ h => List.mem_cons_of_mem _ (List.mem_append_right _ h)) (by decide +kernel))
set_option maxRecDepth 20000 in
theorem gL_addRoll_X4_addRoll : GoodIn wsL_addRoll (wsV RL 27 RX4 yX4_addRoll wsX4_addRoll) := goodIn_app (goodIn_of _ (by decide +kernel)) ggL_addRoll_X4_addRoll
theorem dL_addRoll_0 : decode cL_addRoll 0 = .ok (.aload_n 3, 1) := by decide +kernel
theorem dL_addRoll_1 : decode cL_addRoll 1 = .ok (.iconst 0, 1) := by decide +kernel
theorem dL_addRoll_2 : decode cL_addRoll 2 = .ok (.aload_n 0, 1) := by decide +kernel
theorem dL_addRoll_3 : decode cL_addRoll 3 = .ok (.iload_n 1, 1) := by decide +kernel
theorem dL_addRoll_4 : decode cL_addRoll 4 = .ok (.iload_n 2, 1) := by decide +kernel
theorem dL_addRoll_5 : decode cL_addRoll 5 = .ok (.invokevirtual 27, 3) := by decide +kernel
theorem dL_addRoll_8 : decode cL_addRoll 8 = .ok (.i2l, 1) := by decide +kernel
theorem dL_addRoll_9 : decode cL_addRoll 9 = .ok (.lastore, 1) := by decide +kernel
theorem dL_addRoll_10 : decode cL_addRoll 10 = .ok (.goto 15, 3) := by decide +kernel
theorem dL_addRoll_13 : decode cL_addRoll 13 = .ok (.astore 4, 2) := by decide +kernel
theorem dL_addRoll_15 : decode cL_addRoll 15 = .ok (.iconst 1, 1) := by decide +kernel
theorem dL_addRoll_16 : decode cL_addRoll 16 = .ok (.ireturn, 1) := by decide +kernel
theorem dL_addRoll_17 : decode cL_addRoll 17 = .ok (.astore 4, 2) := by decide +kernel
theorem dL_addRoll_19 : decode cL_addRoll 19 = .ok (.iconst 2, 1) := by decide +kernel
theorem dL_addRoll_20 : decode cL_addRoll 20 = .ok (.ireturn, 1) := by decide +kernel
theorem dL_addRoll_21 : decode cL_addRoll 21 = .ok (.astore 4, 2) := by decide +kernel
theorem dL_addRoll_23 : decode cL_addRoll 23 = .ok (.iconst 3, 1) := by decide +kernel
theorem dL_addRoll_24 : decode cL_addRoll 24 = .ok (.ireturn, 1) := by decide +kernel
theorem dL_addRoll_25 : decode cL_addRoll 25 = .ok (.iconst 0, 1) := by decide +kernel
theorem dL_addRoll_26 : decode cL_addRoll 26 = .ok (.ireturn, 1) := by decide +kernel
set_option maxRecDepth 20000 in
theorem ggL_file_X4_file : GoodIn wsL_file wsX4_file := goodIn_ca (goodIn_r _ [6, 7, 8, 9, 10, 11, 12, 13, 14, 15, 16, 17, 18, 19, 20] (by decide +kernel) (by decide +kernel)) (goodIn_sub (fun _ h => List.mem_cons_of_mem _ (List.mem_append_right _ h)) (by decide +kernel))
set_option maxRecDepth 20000 in
theorem gL_file_X4_file : GoodIn wsL_file (wsV RL 31 RX4 yX4_file wsX4_file) := goodIn_app (goodIn_of _ (by decide +kernel)) ggL_file_X4_file
theorem dL_file_0 : decode cL_file 0 = .ok (.aload_n 1, 1) := by decide +kernel
theorem dL_file_1 : decode cL_file 1 = .ok (.iconst 0, 1) := by decide +kernel
theorem dL_file_2 : decode cL_file 2 = .ok (.aload_n 0, 1) := by decide +kernel
theorem dL_file_3 : decode cL_file 3 = .ok (.invokevirtual 31, 3) := by decide +kernel
theorem dL_file_6 : decode cL_file 6 = .ok (.i2l, 1) := by decide +kernel
theorem dL_file_7 : decode cL_file 7 = .ok (.lastore, 1) := by decide +kernel
theorem dL_file_8 : decode cL_file 8 = .ok (.goto 6, 3) := by decide +kernel
theorem dL_file_11 : decode cL_file 11 = .ok (.astore_n 2, 1) := by decide +kernel
theorem dL_file_12 : decode cL_file 12 = .ok (.iconst 1, 1) := by decide +kernel
theorem dL_file_13 : decode cL_file 13 = .ok (.ireturn, 1) := by decide +kernel
theorem dL_file_14 : decode cL_file 14 = .ok (.iconst 0, 1) := by decide +kernel
theorem dL_file_15 : decode cL_file 15 = .ok (.ireturn, 1) := by decide +kernel
set_option maxRecDepth 20000 in
theorem ggL_tell_X4_tell : GoodIn wsL_tell wsX4_tell := goodIn_ca (goodIn_ca (goodIn_ca (goodIn_r _ [8, 9, 10, 11, 12, 13, 14, 15, 16, 17, 18, 19, 20, 21, 22, 23, 24, 25, 7, 26, 27, 28, 29, 30, 31, 32, 33, 34, 35, 36, 37, 38, 39, 40, 41, 42, 43, 44, 45, 46, 47, 48, 49, 50, 51, 52, 53, 54, 55, 56, 57, 58, 59, 60, 61, 62, 63, 64, 65, 66, 67, 68, 69, 70, 71, 72, 73, 74, 75, 76, 77, 78, 79, 80, 81, 82, 83, 84, 85, 86, 87, 88, 89, 90, 91] (by decide +kernel) (by decide +kernel)) (goodIn_sub (fun _ h => List.mem_cons_of_mem _ (List.mem_append_left _ (List.mem_append_left _ (List.mem_append_right _ h)))) (by decide +kernel))) (goodIn_sub (fun _ h => List.mem_cons_of_mem _ (List.mem_append_left _ (List.mem_append_right _ h))) (by decide +kernel))) (goodIn_sub (fun _ h => List.mem_cons_of_mem _ (List.mem_append_right _ h)) (by decide +kernel))
set_option maxRecDepth 20000 in
theorem gL_tell_X4_tell : GoodIn wsL_tell (wsV RL 34 RX4 yX4_tell wsX4_tell) := goodIn_app (goodIn_of _ (by decide +kernel)) ggL_tell_X4_tell
theorem dL_tell_0 : decode cL_tell 0 = .ok (.aload 6, 2) := by decide +kernel
theorem dL_tell_2 : decode cL_tell 2 = .ok (.iconst 0, 1) := by decide +kernel
theorem dL_tell_3 : decode cL_tell 3 = .ok (.aload_n 0, 1) := by decide +kernel
theorem dL_tell_4 : decode cL_tell 4 = .ok (.iload_n 1, 1) := by decide +kernel
theorem dL_tell_5 : decode cL_tell 5 = .ok (.iload_n 2, 1) := by decide +kernel
theorem dL_tell_6 : decode cL_tell 6 = .ok (.iload_n 3, 1) := by decide +kernel
theorem dL_tell_7 : decode cL_tell 7 = .ok (.iload 4, 2) := by decide +kernel
theorem dL_tell_9 : decode cL_tell 9 = .ok (.iload 5, 2) := by decide +kernel
theorem dL_tell_11 : decode cL_tell 11 = .ok (.invokevirtual 34, 3) := by decide +kernel
theorem dL_tell_14 : decode cL_tell 14 = .ok (.i2l, 1) := by decide +kernel
theorem dL_tell_15 : decode cL_tell 15 = .ok (.lastore, 1) := by decide +kernel
theorem dL_tell_16 : decode cL_tell 16 = .ok (.goto 15, 3) := by decide +kernel
theorem dL_tell_19 : decode cL_tell 19 = .ok (.astore 7, 2) := by decide +kernel
theorem dL_tell_21 : decode cL_tell 21 = .ok (.iconst 1, 1) := by decide +kernel
theorem dL_tell_22 : decode cL_tell 22 = .ok (.ireturn, 1) := by decide +kernel
theorem dL_tell_23 : decode cL_tell 23 = .ok (.astore 7, 2) := by decide +kernel
theorem dL_tell_25 : decode cL_tell 25 = .ok (.iconst 2, 1) := by decide +kernel
theorem dL_tell_26 : decode cL_tell 26 = .ok (.ireturn, 1) := by decide +kernel
theorem dL_tell_27 : decode cL_tell 27 = .ok (.astore 7, 2) := by decide +kernel
theorem dL_tell_29 : decode cL_tell 29 = .ok (.iconst 3, 1) := by decide +kernel
theorem dL_tell_30 : decode cL_tell 30 = .ok (.ireturn, 1) := by decide +kernel
theorem dL_tell_31 : decode cL_tell 31 = .ok (.iconst 0, 1) := by decide +kernel
theorem dL_tell_32 : decode cL_tell 32 = .ok (.ireturn, 1) := by decide +kernel
set_option maxRecDepth 20000 in
theorem ggL_disagreements_X4_disagreements : GoodIn wsL_disagreements wsX4_disagreements := goodIn_ca (goodIn_r _ [6, 7, 8, 9, 10, 11, 12, 13, 5, 14, 15, 16, 17, 18, 19, 20, 21, 22, 23, 24, 25, 26, 27, 28, 29, 30, 31, 32, 33, 34, 35, 36, 37, 38, 39, 40, 41, 42, 43, 44, 45, 46, 47, 48, 49, 50, 51, 52, 53, 54, 55, 56] (by decide +kernel) (by decide +kernel)) (goodIn_sub (fun _ h => List.mem_cons_of_mem _ (List.mem_append_right _ h)) (by decide +kernel))
set_option maxRecDepth 20000 in
theorem gL_disagreements_X4_disagreements : GoodIn wsL_disagreements (wsV RL 38 RX4 yX4_disagreements wsX4_disagreements) := goodIn_app (goodIn_of _ (by decide +kernel)) ggL_disagreements_X4_disagreements
theorem dL_disagreements_0 : decode cL_disagreements 0 = .ok (.aload_n 2, 1) := by decide +kernel
theorem dL_disagreements_1 : decode cL_disagreements 1 = .ok (.iconst 0, 1) := by decide +kernel
theorem dL_disagreements_2 : decode cL_disagreements 2 = .ok (.aload_n 0, 1) := by decide +kernel
theorem dL_disagreements_3 : decode cL_disagreements 3 = .ok (.iload_n 1, 1) := by decide +kernel
theorem dL_disagreements_4 : decode cL_disagreements 4 = .ok (.invokevirtual 38, 3) := by decide +kernel
theorem dL_disagreements_7 : decode cL_disagreements 7 = .ok (.i2l, 1) := by decide +kernel
theorem dL_disagreements_8 : decode cL_disagreements 8 = .ok (.lastore, 1) := by decide +kernel
theorem dL_disagreements_9 : decode cL_disagreements 9 = .ok (.goto 6, 3) := by decide +kernel
theorem dL_disagreements_12 : decode cL_disagreements 12 = .ok (.astore_n 3, 1) := by decide +kernel
theorem dL_disagreements_13 : decode cL_disagreements 13 = .ok (.iconst 1, 1) := by decide +kernel
theorem dL_disagreements_14 : decode cL_disagreements 14 = .ok (.ireturn, 1) := by decide +kernel
theorem dL_disagreements_15 : decode cL_disagreements 15 = .ok (.iconst 0, 1) := by decide +kernel
theorem dL_disagreements_16 : decode cL_disagreements 16 = .ok (.ireturn, 1) := by decide +kernel
set_option maxRecDepth 20000 in
theorem ggL_restated_X4_restated : GoodIn wsL_restated wsX4_restated := goodIn_ca (goodIn_r _ [6, 7, 8, 9, 10, 5, 11, 12, 13, 14, 15, 16, 17, 18, 19, 20, 21, 22, 23, 24, 25, 26, 27, 28, 29, 30, 31, 32, 33, 34, 35, 36, 37, 38, 39, 40, 41, 42, 43, 44, 45, 46] (by decide +kernel) (by decide +kernel)) (goodIn_sub (fun _ h => List.mem_cons_of_mem _ (List.mem_append_right _ h)) (by decide +kernel))
set_option maxRecDepth 20000 in
theorem gL_restated_X4_restated : GoodIn wsL_restated (wsV RL 41 RX4 yX4_restated wsX4_restated) := goodIn_app (goodIn_of _ (by decide +kernel)) ggL_restated_X4_restated
theorem dL_restated_0 : decode cL_restated 0 = .ok (.aload_n 2, 1) := by decide +kernel
theorem dL_restated_1 : decode cL_restated 1 = .ok (.iconst 0, 1) := by decide +kernel
theorem dL_restated_2 : decode cL_restated 2 = .ok (.aload_n 0, 1) := by decide +kernel
theorem dL_restated_3 : decode cL_restated 3 = .ok (.iload_n 1, 1) := by decide +kernel
theorem dL_restated_4 : decode cL_restated 4 = .ok (.invokevirtual 41, 3) := by decide +kernel
theorem dL_restated_7 : decode cL_restated 7 = .ok (.i2l, 1) := by decide +kernel
theorem dL_restated_8 : decode cL_restated 8 = .ok (.lastore, 1) := by decide +kernel
theorem dL_restated_9 : decode cL_restated 9 = .ok (.goto 6, 3) := by decide +kernel
theorem dL_restated_12 : decode cL_restated 12 = .ok (.astore_n 3, 1) := by decide +kernel
theorem dL_restated_13 : decode cL_restated 13 = .ok (.iconst 1, 1) := by decide +kernel
theorem dL_restated_14 : decode cL_restated 14 = .ok (.ireturn, 1) := by decide +kernel
theorem dL_restated_15 : decode cL_restated 15 = .ok (.iconst 0, 1) := by decide +kernel
theorem dL_restated_16 : decode cL_restated 16 = .ok (.ireturn, 1) := by decide +kernel
set_option maxRecDepth 20000 in
theorem ggL_value_X4_value : GoodIn wsL_value wsX4_value := goodIn_ca (goodIn_ca (goodIn_r _ [7, 8, 9, 10, 11, 6, 12, 13, 14, 15, 16, 17, 18, 19, 20, 21, 22, 23, 24, 25, 26, 27, 28, 29, 30, 31, 32, 33, 34, 35, 36, 37, 38, 39, 40, 41, 42, 43, 44, 45, 46, 47, 48, 49, 50, 51, 52, 53, 54, 55, 56, 57, 58, 59, 60, 61, 62] (by decide +kernel) (by decide +kernel)) (goodIn_sub (fun _ h => List.mem_cons_of_mem _ (List.mem_append_left _ (List.mem_append_right _ h))) (by decide +kernel))) (goodIn_sub (fun _ h => List.mem_cons_of_mem _ (List.mem_append_right _ h)) (by decide +kernel))
set_option maxRecDepth 20000 in
theorem gL_value_X4_value : GoodIn wsL_value (wsV RL 44 RX4 yX4_value wsX4_value) := goodIn_app (goodIn_of _ (by decide +kernel)) ggL_value_X4_value
theorem dL_value_0 : decode cL_value 0 = .ok (.aload 5, 2) := by decide +kernel
theorem dL_value_2 : decode cL_value 2 = .ok (.iconst 0, 1) := by decide +kernel
theorem dL_value_3 : decode cL_value 3 = .ok (.aload_n 0, 1) := by decide +kernel
theorem dL_value_4 : decode cL_value 4 = .ok (.iload_n 1, 1) := by decide +kernel
theorem dL_value_5 : decode cL_value 5 = .ok (.iload_n 2, 1) := by decide +kernel
theorem dL_value_6 : decode cL_value 6 = .ok (.iload_n 3, 1) := by decide +kernel
theorem dL_value_7 : decode cL_value 7 = .ok (.iload 4, 2) := by decide +kernel
theorem dL_value_9 : decode cL_value 9 = .ok (.invokevirtual 44, 3) := by decide +kernel
theorem dL_value_12 : decode cL_value 12 = .ok (.i2l, 1) := by decide +kernel
theorem dL_value_13 : decode cL_value 13 = .ok (.lastore, 1) := by decide +kernel
theorem dL_value_14 : decode cL_value 14 = .ok (.goto 11, 3) := by decide +kernel
theorem dL_value_17 : decode cL_value 17 = .ok (.astore 6, 2) := by decide +kernel
theorem dL_value_19 : decode cL_value 19 = .ok (.iconst 1, 1) := by decide +kernel
theorem dL_value_20 : decode cL_value 20 = .ok (.ireturn, 1) := by decide +kernel
theorem dL_value_21 : decode cL_value 21 = .ok (.astore 6, 2) := by decide +kernel
theorem dL_value_23 : decode cL_value 23 = .ok (.iconst 2, 1) := by decide +kernel
theorem dL_value_24 : decode cL_value 24 = .ok (.ireturn, 1) := by decide +kernel
theorem dL_value_25 : decode cL_value 25 = .ok (.iconst 0, 1) := by decide +kernel
theorem dL_value_26 : decode cL_value 26 = .ok (.ireturn, 1) := by decide +kernel
set_option maxRecDepth 20000 in
theorem ggL_doubt_X4_doubt : GoodIn wsL_doubt wsX4_doubt := goodIn_ca (goodIn_ca (goodIn_r _ [7, 8, 9, 10, 11, 6, 12, 13, 14, 15, 16, 17, 18, 19, 20, 21, 22, 23, 24, 25, 26, 27, 28, 29, 30, 31, 32, 33, 34, 35, 36, 37, 38, 39, 40, 41, 42, 43, 44, 45, 46, 47, 48, 49, 50, 51, 52, 53, 54, 55, 56, 57, 58, 59, 60, 61, 62] (by decide +kernel) (by decide +kernel)) (goodIn_sub (fun _ h => List.mem_cons_of_mem _ (List.mem_append_left _ (List.mem_append_right _ h))) (by decide +kernel))) (goodIn_sub (fun _ h => List.mem_cons_of_mem _ (List.mem_append_right _ h)) (by decide +kernel))
set_option maxRecDepth 20000 in
theorem gL_doubt_X4_doubt : GoodIn wsL_doubt (wsV RL 50 RX4 yX4_doubt wsX4_doubt) := goodIn_app (goodIn_of _ (by decide +kernel)) ggL_doubt_X4_doubt
theorem dL_doubt_0 : decode cL_doubt 0 = .ok (.aload 5, 2) := by decide +kernel
theorem dL_doubt_2 : decode cL_doubt 2 = .ok (.iconst 0, 1) := by decide +kernel
theorem dL_doubt_3 : decode cL_doubt 3 = .ok (.aload_n 0, 1) := by decide +kernel
theorem dL_doubt_4 : decode cL_doubt 4 = .ok (.iload_n 1, 1) := by decide +kernel
theorem dL_doubt_5 : decode cL_doubt 5 = .ok (.iload_n 2, 1) := by decide +kernel
theorem dL_doubt_6 : decode cL_doubt 6 = .ok (.iload_n 3, 1) := by decide +kernel
theorem dL_doubt_7 : decode cL_doubt 7 = .ok (.iload 4, 2) := by decide +kernel
theorem dL_doubt_9 : decode cL_doubt 9 = .ok (.invokevirtual 50, 3) := by decide +kernel
theorem dL_doubt_12 : decode cL_doubt 12 = .ok (.i2l, 1) := by decide +kernel
theorem dL_doubt_13 : decode cL_doubt 13 = .ok (.lastore, 1) := by decide +kernel
theorem dL_doubt_14 : decode cL_doubt 14 = .ok (.goto 11, 3) := by decide +kernel
theorem dL_doubt_17 : decode cL_doubt 17 = .ok (.astore 6, 2) := by decide +kernel
theorem dL_doubt_19 : decode cL_doubt 19 = .ok (.iconst 1, 1) := by decide +kernel
theorem dL_doubt_20 : decode cL_doubt 20 = .ok (.ireturn, 1) := by decide +kernel
theorem dL_doubt_21 : decode cL_doubt 21 = .ok (.astore 6, 2) := by decide +kernel
theorem dL_doubt_23 : decode cL_doubt 23 = .ok (.iconst 2, 1) := by decide +kernel
theorem dL_doubt_24 : decode cL_doubt 24 = .ok (.ireturn, 1) := by decide +kernel
theorem dL_doubt_25 : decode cL_doubt 25 = .ok (.iconst 0, 1) := by decide +kernel
theorem dL_doubt_26 : decode cL_doubt 26 = .ok (.ireturn, 1) := by decide +kernel
set_option maxRecDepth 20000 in
theorem ggL_sum_X4_sum : GoodIn wsL_sum wsX4_sum := goodIn_ca (goodIn_r _ [6, 7, 8, 9, 10, 11, 12, 13, 5, 14, 15, 16, 17, 18, 19, 20, 21, 22, 23, 24, 25, 26, 27, 28, 29, 30, 31, 32, 33, 34, 35, 36, 37, 38, 39, 40, 41, 42, 43, 44, 45, 46, 47, 48, 49, 50, 51, 52, 53, 54, 55, 56, 57, 58, 59, 60, 61, 62, 63, 64, 65, 66, 67, 68, 69, 70, 71, 72, 73, 74, 75, 76, 77, 78, 79] (by decide +kernel) (by decide +kernel)) (goodIn_sub (fun _ h => List.mem_cons_of_mem _ (List.mem_append_right _ h)) (by decide +kernel))
set_option maxRecDepth 20000 in
theorem gL_sum_X4_sum : GoodIn wsL_sum (wsV RL 53 RX4 yX4_sum wsX4_sum) := goodIn_app (goodIn_of _ (by decide +kernel)) ggL_sum_X4_sum
theorem dL_sum_0 : decode cL_sum 0 = .ok (.aload 5, 2) := by decide +kernel
theorem dL_sum_2 : decode cL_sum 2 = .ok (.iconst 0, 1) := by decide +kernel
theorem dL_sum_3 : decode cL_sum 3 = .ok (.aload_n 0, 1) := by decide +kernel
theorem dL_sum_4 : decode cL_sum 4 = .ok (.iload_n 1, 1) := by decide +kernel
theorem dL_sum_5 : decode cL_sum 5 = .ok (.iload_n 2, 1) := by decide +kernel
theorem dL_sum_6 : decode cL_sum 6 = .ok (.iload_n 3, 1) := by decide +kernel
theorem dL_sum_7 : decode cL_sum 7 = .ok (.iload 4, 2) := by decide +kernel
theorem dL_sum_9 : decode cL_sum 9 = .ok (.invokevirtual 53, 3) := by decide +kernel
theorem dL_sum_12 : decode cL_sum 12 = .ok (.i2l, 1) := by decide +kernel
theorem dL_sum_13 : decode cL_sum 13 = .ok (.lastore, 1) := by decide +kernel
theorem dL_sum_14 : decode cL_sum 14 = .ok (.goto 7, 3) := by decide +kernel
theorem dL_sum_17 : decode cL_sum 17 = .ok (.astore 6, 2) := by decide +kernel
theorem dL_sum_19 : decode cL_sum 19 = .ok (.iconst 1, 1) := by decide +kernel
theorem dL_sum_20 : decode cL_sum 20 = .ok (.ireturn, 1) := by decide +kernel
theorem dL_sum_21 : decode cL_sum 21 = .ok (.iconst 0, 1) := by decide +kernel
theorem dL_sum_22 : decode cL_sum 22 = .ok (.ireturn, 1) := by decide +kernel
set_option maxRecDepth 20000 in
theorem ggL_derived_X4_derived : GoodIn wsL_derived wsX4_derived := goodIn_ca (goodIn_ca (goodIn_r _ [7, 8, 9, 10, 11, 12, 13, 14, 15, 16, 6, 17, 18, 19, 20, 21, 22, 23, 24, 25, 26, 27, 28, 29, 30, 31, 32, 33, 34, 35, 36, 37, 38, 39, 40, 41, 42, 43, 44, 45, 46, 47, 48, 49, 50, 51, 52, 53, 54, 55, 56, 57, 58, 59, 60, 61, 62, 63, 64, 65, 66] (by decide +kernel) (by decide +kernel)) (goodIn_sub (fun _ h => List.mem_cons_of_mem _ (List.mem_append_left _ (List.mem_append_right _ h))) (by decide +kernel))) (goodIn_sub (fun _ h => List.mem_cons_of_mem _ (List.mem_append_right _ h)) (by decide +kernel))
set_option maxRecDepth 20000 in
theorem gL_derived_X4_derived : GoodIn wsL_derived (wsV RL 56 RX4 yX4_derived wsX4_derived) := goodIn_app (goodIn_of _ (by decide +kernel)) ggL_derived_X4_derived
theorem dL_derived_0 : decode cL_derived 0 = .ok (.aload 5, 2) := by decide +kernel
theorem dL_derived_2 : decode cL_derived 2 = .ok (.iconst 0, 1) := by decide +kernel
theorem dL_derived_3 : decode cL_derived 3 = .ok (.aload_n 0, 1) := by decide +kernel
theorem dL_derived_4 : decode cL_derived 4 = .ok (.iload_n 1, 1) := by decide +kernel
theorem dL_derived_5 : decode cL_derived 5 = .ok (.iload_n 2, 1) := by decide +kernel
theorem dL_derived_6 : decode cL_derived 6 = .ok (.iload_n 3, 1) := by decide +kernel
theorem dL_derived_7 : decode cL_derived 7 = .ok (.iload 4, 2) := by decide +kernel
theorem dL_derived_9 : decode cL_derived 9 = .ok (.invokevirtual 56, 3) := by decide +kernel
theorem dL_derived_12 : decode cL_derived 12 = .ok (.i2l, 1) := by decide +kernel
theorem dL_derived_13 : decode cL_derived 13 = .ok (.lastore, 1) := by decide +kernel
theorem dL_derived_14 : decode cL_derived 14 = .ok (.goto 11, 3) := by decide +kernel
theorem dL_derived_17 : decode cL_derived 17 = .ok (.astore 6, 2) := by decide +kernel
theorem dL_derived_19 : decode cL_derived 19 = .ok (.iconst 1, 1) := by decide +kernel
theorem dL_derived_20 : decode cL_derived 20 = .ok (.ireturn, 1) := by decide +kernel
theorem dL_derived_21 : decode cL_derived 21 = .ok (.astore 6, 2) := by decide +kernel
theorem dL_derived_23 : decode cL_derived 23 = .ok (.iconst 2, 1) := by decide +kernel
theorem dL_derived_24 : decode cL_derived 24 = .ok (.ireturn, 1) := by decide +kernel
theorem dL_derived_25 : decode cL_derived 25 = .ok (.iconst 0, 1) := by decide +kernel
theorem dL_derived_26 : decode cL_derived 26 = .ok (.ireturn, 1) := by decide +kernel
set_option maxRecDepth 20000 in
theorem ggL_isSumOff_X4_isSumOff : GoodIn wsL_isSumOff wsX4_isSumOff := goodIn_ca (goodIn_r _ [6, 7, 8, 9, 10, 5, 11, 12, 13, 14, 15, 16, 17, 18, 19, 20, 21, 22, 23, 24, 25, 26, 27, 28, 29, 30, 31, 32, 33, 34, 35, 36, 37, 38, 39, 40, 41, 42, 43, 44, 45, 46, 47, 48, 49, 50, 51, 52, 53, 54, 55, 56, 57, 58, 59, 60, 61, 62, 63, 64, 65, 66, 67, 68, 69, 70, 71, 72, 73, 74, 75, 76, 77, 78, 79, 80, 81, 82, 83, 84, 85, 86, 87, 88, 89, 90, 91] (by decide +kernel) (by decide +kernel)) (goodIn_sub (fun _ h => List.mem_cons_of_mem _ (List.mem_append_right _ h)) (by decide +kernel))
set_option maxRecDepth 20000 in
theorem gL_isSumOff_X4_isSumOff : GoodIn wsL_isSumOff (wsV RL 59 RX4 yX4_isSumOff wsX4_isSumOff) := goodIn_app (goodIn_of _ (by decide +kernel)) ggL_isSumOff_X4_isSumOff
theorem dL_isSumOff_0 : decode cL_isSumOff 0 = .ok (.aload 5, 2) := by decide +kernel
theorem dL_isSumOff_2 : decode cL_isSumOff 2 = .ok (.iconst 0, 1) := by decide +kernel
theorem dL_isSumOff_3 : decode cL_isSumOff 3 = .ok (.aload_n 0, 1) := by decide +kernel
theorem dL_isSumOff_4 : decode cL_isSumOff 4 = .ok (.iload_n 1, 1) := by decide +kernel
theorem dL_isSumOff_5 : decode cL_isSumOff 5 = .ok (.iload_n 2, 1) := by decide +kernel
theorem dL_isSumOff_6 : decode cL_isSumOff 6 = .ok (.iload_n 3, 1) := by decide +kernel
theorem dL_isSumOff_7 : decode cL_isSumOff 7 = .ok (.iload 4, 2) := by decide +kernel
theorem dL_isSumOff_9 : decode cL_isSumOff 9 = .ok (.invokevirtual 59, 3) := by decide +kernel
theorem dL_isSumOff_12 : decode cL_isSumOff 12 = .ok (.ifCond .eq 7, 3) := by decide +kernel
theorem dL_isSumOff_15 : decode cL_isSumOff 15 = .ok (.lconst 1, 1) := by decide +kernel
theorem dL_isSumOff_16 : decode cL_isSumOff 16 = .ok (.goto 4, 3) := by decide +kernel
theorem dL_isSumOff_19 : decode cL_isSumOff 19 = .ok (.lconst 0, 1) := by decide +kernel
theorem dL_isSumOff_20 : decode cL_isSumOff 20 = .ok (.lastore, 1) := by decide +kernel
theorem dL_isSumOff_21 : decode cL_isSumOff 21 = .ok (.goto 7, 3) := by decide +kernel
theorem dL_isSumOff_24 : decode cL_isSumOff 24 = .ok (.astore 6, 2) := by decide +kernel
theorem dL_isSumOff_26 : decode cL_isSumOff 26 = .ok (.iconst 1, 1) := by decide +kernel
theorem dL_isSumOff_27 : decode cL_isSumOff 27 = .ok (.ireturn, 1) := by decide +kernel
theorem dL_isSumOff_28 : decode cL_isSumOff 28 = .ok (.iconst 0, 1) := by decide +kernel
theorem dL_isSumOff_29 : decode cL_isSumOff 29 = .ok (.ireturn, 1) := by decide +kernel
set_option maxRecDepth 20000 in
theorem ggL_areMembersOff_X4_areMembersOff : GoodIn wsL_areMembersOff wsX4_areMembersOff := goodIn_ca (goodIn_r _ [6, 7, 8, 9, 10, 5, 11, 12, 13, 14, 15, 16, 17, 18, 19, 20, 21, 22, 23, 24, 25, 26, 27, 28, 29, 30, 31, 32, 33, 34, 35, 36, 37, 38, 39, 40, 41, 42, 43, 44, 45, 46, 47, 48, 49, 50, 51, 52, 53, 54, 55, 56, 57, 58, 59, 60, 61, 62, 63, 64, 65, 66, 67, 68, 69, 70, 71, 72, 73, 74, 75, 76, 77, 78, 79, 80, 81, 82, 83, 84] (by decide +kernel) (by decide +kernel)) (goodIn_sub (fun _ h => List.mem_cons_of_mem _ (List.mem_append_right _ h)) (by decide +kernel))
set_option maxRecDepth 20000 in
theorem gL_areMembersOff_X4_areMembersOff : GoodIn wsL_areMembersOff (wsV RL 63 RX4 yX4_areMembersOff wsX4_areMembersOff) := goodIn_app (goodIn_of _ (by decide +kernel)) ggL_areMembersOff_X4_areMembersOff
theorem dL_areMembersOff_0 : decode cL_areMembersOff 0 = .ok (.aload 4, 2) := by decide +kernel
theorem dL_areMembersOff_2 : decode cL_areMembersOff 2 = .ok (.iconst 0, 1) := by decide +kernel
theorem dL_areMembersOff_3 : decode cL_areMembersOff 3 = .ok (.aload_n 0, 1) := by decide +kernel
theorem dL_areMembersOff_4 : decode cL_areMembersOff 4 = .ok (.iload_n 1, 1) := by decide +kernel
theorem dL_areMembersOff_5 : decode cL_areMembersOff 5 = .ok (.iload_n 2, 1) := by decide +kernel
theorem dL_areMembersOff_6 : decode cL_areMembersOff 6 = .ok (.iload_n 3, 1) := by decide +kernel
theorem dL_areMembersOff_7 : decode cL_areMembersOff 7 = .ok (.invokevirtual 63, 3) := by decide +kernel
theorem dL_areMembersOff_10 : decode cL_areMembersOff 10 = .ok (.ifCond .eq 7, 3) := by decide +kernel
theorem dL_areMembersOff_13 : decode cL_areMembersOff 13 = .ok (.lconst 1, 1) := by decide +kernel
theorem dL_areMembersOff_14 : decode cL_areMembersOff 14 = .ok (.goto 4, 3) := by decide +kernel
theorem dL_areMembersOff_17 : decode cL_areMembersOff 17 = .ok (.lconst 0, 1) := by decide +kernel
theorem dL_areMembersOff_18 : decode cL_areMembersOff 18 = .ok (.lastore, 1) := by decide +kernel
theorem dL_areMembersOff_19 : decode cL_areMembersOff 19 = .ok (.goto 7, 3) := by decide +kernel
theorem dL_areMembersOff_22 : decode cL_areMembersOff 22 = .ok (.astore 5, 2) := by decide +kernel
theorem dL_areMembersOff_24 : decode cL_areMembersOff 24 = .ok (.iconst 1, 1) := by decide +kernel
theorem dL_areMembersOff_25 : decode cL_areMembersOff 25 = .ok (.ireturn, 1) := by decide +kernel
theorem dL_areMembersOff_26 : decode cL_areMembersOff 26 = .ok (.iconst 0, 1) := by decide +kernel
theorem dL_areMembersOff_27 : decode cL_areMembersOff 27 = .ok (.ireturn, 1) := by decide +kernel
set_option maxRecDepth 20000 in
theorem ggL_isRollOff_X4_isRollOff : GoodIn wsL_isRollOff wsX4_isRollOff := goodIn_ca (goodIn_r _ [6, 7, 8, 9, 10, 11, 12, 5, 13, 14, 15, 16, 17, 18, 19, 20, 21, 22, 23, 24, 25, 26, 27, 28, 29, 30, 31, 32, 33, 34, 35, 36, 37, 38, 39, 40, 41, 42, 43, 44, 45, 46, 47, 48, 49, 50, 51, 52, 53, 54, 55, 56, 57, 58, 59, 60, 61, 62, 63, 64, 65, 66, 67, 68, 69, 70, 71, 72, 73, 74, 75, 76, 77, 78, 79] (by decide +kernel) (by decide +kernel)) (goodIn_sub (fun _ h => List.mem_cons_of_mem _ (List.mem_append_right _ h)) (by decide +kernel))
set_option maxRecDepth 20000 in
theorem gL_isRollOff_X4_isRollOff : GoodIn wsL_isRollOff (wsV RL 67 RX4 yX4_isRollOff wsX4_isRollOff) := goodIn_app (goodIn_of _ (by decide +kernel)) ggL_isRollOff_X4_isRollOff
theorem dL_isRollOff_0 : decode cL_isRollOff 0 = .ok (.aload 5, 2) := by decide +kernel
theorem dL_isRollOff_2 : decode cL_isRollOff 2 = .ok (.iconst 0, 1) := by decide +kernel
theorem dL_isRollOff_3 : decode cL_isRollOff 3 = .ok (.aload_n 0, 1) := by decide +kernel
theorem dL_isRollOff_4 : decode cL_isRollOff 4 = .ok (.iload_n 1, 1) := by decide +kernel
theorem dL_isRollOff_5 : decode cL_isRollOff 5 = .ok (.iload_n 2, 1) := by decide +kernel
theorem dL_isRollOff_6 : decode cL_isRollOff 6 = .ok (.iload_n 3, 1) := by decide +kernel
theorem dL_isRollOff_7 : decode cL_isRollOff 7 = .ok (.iload 4, 2) := by decide +kernel
theorem dL_isRollOff_9 : decode cL_isRollOff 9 = .ok (.invokevirtual 67, 3) := by decide +kernel
theorem dL_isRollOff_12 : decode cL_isRollOff 12 = .ok (.ifCond .eq 7, 3) := by decide +kernel
theorem dL_isRollOff_15 : decode cL_isRollOff 15 = .ok (.lconst 1, 1) := by decide +kernel
theorem dL_isRollOff_16 : decode cL_isRollOff 16 = .ok (.goto 4, 3) := by decide +kernel
theorem dL_isRollOff_19 : decode cL_isRollOff 19 = .ok (.lconst 0, 1) := by decide +kernel
theorem dL_isRollOff_20 : decode cL_isRollOff 20 = .ok (.lastore, 1) := by decide +kernel
theorem dL_isRollOff_21 : decode cL_isRollOff 21 = .ok (.goto 7, 3) := by decide +kernel
theorem dL_isRollOff_24 : decode cL_isRollOff 24 = .ok (.astore 6, 2) := by decide +kernel
theorem dL_isRollOff_26 : decode cL_isRollOff 26 = .ok (.iconst 1, 1) := by decide +kernel
theorem dL_isRollOff_27 : decode cL_isRollOff 27 = .ok (.ireturn, 1) := by decide +kernel
theorem dL_isRollOff_28 : decode cL_isRollOff 28 = .ok (.iconst 0, 1) := by decide +kernel
theorem dL_isRollOff_29 : decode cL_isRollOff 29 = .ok (.ireturn, 1) := by decide +kernel
set_option maxRecDepth 20000 in
theorem ggL_faults_X4_faults : GoodIn wsL_faults wsX4_faults := goodIn_ca (goodIn_r _ [6, 7, 8, 9, 10, 11, 5, 12, 13, 14, 15, 16, 17, 18, 19, 20, 21, 22, 23, 24, 25, 26, 27, 28, 29, 30, 31, 32, 33, 34, 35, 36, 37, 38, 39, 40, 41, 42, 43, 44, 45, 46, 47, 48, 49, 50, 51, 52, 53, 54, 55, 56, 57, 58, 59, 60, 61, 62, 63, 64, 65, 66, 67, 68, 69, 70, 71, 72, 73, 74, 75, 76, 77, 78, 79, 80, 81, 82, 83, 84, 85, 86, 87, 88, 89, 90, 91, 92, 93, 94, 95, 96] (by decide +kernel) (by decide +kernel)) (goodIn_sub (fun _ h => List.mem_cons_of_mem _ (List.mem_append_right _ h)) (by decide +kernel))
set_option maxRecDepth 20000 in
theorem gL_faults_X4_faults : GoodIn wsL_faults (wsV RL 70 RX4 yX4_faults wsX4_faults) := goodIn_app (goodIn_of _ (by decide +kernel)) ggL_faults_X4_faults
theorem dL_faults_0 : decode cL_faults 0 = .ok (.aload_n 2, 1) := by decide +kernel
theorem dL_faults_1 : decode cL_faults 1 = .ok (.iconst 0, 1) := by decide +kernel
theorem dL_faults_2 : decode cL_faults 2 = .ok (.aload_n 0, 1) := by decide +kernel
theorem dL_faults_3 : decode cL_faults 3 = .ok (.iload_n 1, 1) := by decide +kernel
theorem dL_faults_4 : decode cL_faults 4 = .ok (.invokevirtual 70, 3) := by decide +kernel
theorem dL_faults_7 : decode cL_faults 7 = .ok (.i2l, 1) := by decide +kernel
theorem dL_faults_8 : decode cL_faults 8 = .ok (.lastore, 1) := by decide +kernel
theorem dL_faults_9 : decode cL_faults 9 = .ok (.goto 6, 3) := by decide +kernel
theorem dL_faults_12 : decode cL_faults 12 = .ok (.astore_n 3, 1) := by decide +kernel
theorem dL_faults_13 : decode cL_faults 13 = .ok (.iconst 1, 1) := by decide +kernel
theorem dL_faults_14 : decode cL_faults 14 = .ok (.ireturn, 1) := by decide +kernel
theorem dL_faults_15 : decode cL_faults 15 = .ok (.iconst 0, 1) := by decide +kernel
theorem dL_faults_16 : decode cL_faults 16 = .ok (.ireturn, 1) := by decide +kernel
set_option maxRecDepth 20000 in
theorem ggL_faultsByList_X4_faultsByList : GoodIn wsL_faultsByList wsX4_faultsByList := goodIn_ca (goodIn_r _ [6, 7, 8, 9, 10, 11, 12, 13, 5, 14, 15, 16, 17, 18, 19, 20, 21, 22, 23, 24, 25, 26, 27, 28, 29, 30, 31, 32, 33, 34, 35, 36, 37, 38, 39, 40, 41, 42, 43, 44, 45, 46, 47, 48, 49, 50, 51, 52, 53, 54, 55, 56, 57, 58, 59, 60, 61, 62, 63, 64, 65, 66, 67, 68, 69, 70, 71, 72, 73, 74, 75, 76, 77, 78, 79, 80, 81, 82, 83, 84, 85, 86, 87, 88, 89, 90, 91, 92, 93, 94, 95, 96, 97, 98, 99] (by decide +kernel) (by decide +kernel)) (goodIn_sub (fun _ h => List.mem_cons_of_mem _ (List.mem_append_right _ h)) (by decide +kernel))
set_option maxRecDepth 20000 in
theorem gL_faultsByList_X4_faultsByList : GoodIn wsL_faultsByList (wsV RL 73 RX4 yX4_faultsByList wsX4_faultsByList) := goodIn_app (goodIn_of _ (by decide +kernel)) ggL_faultsByList_X4_faultsByList
theorem dL_faultsByList_0 : decode cL_faultsByList 0 = .ok (.aload_n 2, 1) := by decide +kernel
theorem dL_faultsByList_1 : decode cL_faultsByList 1 = .ok (.iconst 0, 1) := by decide +kernel
theorem dL_faultsByList_2 : decode cL_faultsByList 2 = .ok (.aload_n 0, 1) := by decide +kernel
theorem dL_faultsByList_3 : decode cL_faultsByList 3 = .ok (.iload_n 1, 1) := by decide +kernel
theorem dL_faultsByList_4 : decode cL_faultsByList 4 = .ok (.invokevirtual 73, 3) := by decide +kernel
theorem dL_faultsByList_7 : decode cL_faultsByList 7 = .ok (.i2l, 1) := by decide +kernel
theorem dL_faultsByList_8 : decode cL_faultsByList 8 = .ok (.lastore, 1) := by decide +kernel
theorem dL_faultsByList_9 : decode cL_faultsByList 9 = .ok (.goto 6, 3) := by decide +kernel
theorem dL_faultsByList_12 : decode cL_faultsByList 12 = .ok (.astore_n 3, 1) := by decide +kernel
theorem dL_faultsByList_13 : decode cL_faultsByList 13 = .ok (.iconst 1, 1) := by decide +kernel
theorem dL_faultsByList_14 : decode cL_faultsByList 14 = .ok (.ireturn, 1) := by decide +kernel
theorem dL_faultsByList_15 : decode cL_faultsByList 15 = .ok (.iconst 0, 1) := by decide +kernel
theorem dL_faultsByList_16 : decode cL_faultsByList 16 = .ok (.ireturn, 1) := by decide +kernel
set_option maxRecDepth 20000 in
theorem ggL_law_X4_init : GoodIn wsL_law wsX4_init := goodIn_r _ [9, 10, 11, 12, 13, 14, 15, 16, 17, 18, 19, 20, 21, 22, 23, 24, 25, 26, 27, 28, 29, 30, 31, 32, 33, 34, 35, 36, 37, 38, 39, 460, 461, 462, 463, 464, 465, 466, 467, 468, 469, 470, 488, 489, 490] (by decide +kernel) (by decide +kernel)
set_option maxRecDepth 20000 in
theorem gL_law_X4_init : GoodIn wsL_law (wsX4_init) := ggL_law_X4_init
set_option maxRecDepth 20000 in
theorem ggL_law_X5_init : GoodIn wsL_law wsX5_init := goodIn_r _ [42, 43, 11, 12, 13, 44, 45, 46, 47, 48, 49, 50, 51, 52, 53, 54, 55, 56, 57, 471, 472, 473, 474, 475, 476, 477, 478, 479, 480, 481, 482, 483, 484, 485, 486, 487] (by decide +kernel) (by decide +kernel)
set_option maxRecDepth 20000 in
theorem gL_law_X5_init : GoodIn wsL_law (wsX5_init) := ggL_law_X5_init
set_option maxRecDepth 20000 in
theorem ggL_law_L_addConcept : GoodIn wsL_law wsL_addConcept := goodIn_ca (goodIn_r _ [61, 62, 63, 64, 65, 2, 66, 67, 68, 69, 14, 460, 461, 462, 463, 464, 465, 466, 467, 468, 469, 470] (by decide +kernel) (by decide +kernel)) (goodIn_sub (fun _ h => List.mem_append_left _ (List.mem_append_left _ (List.mem_append_left _ (List.mem_append_right _ h)))) (by decide +kernel))
set_option maxRecDepth 20000 in
theorem gL_law_L_addConcept : GoodIn wsL_law (va_wsS RL 80 yL_addConcept wsL_addConcept) := goodIn_app (goodIn_of _ (by decide +kernel)) ggL_law_L_addConcept
set_option maxRecDepth 20000 in
theorem ggL_law_X5_addConcept : GoodIn wsL_law wsX5_addConcept := goodIn_r _ [73, 74, 44, 75, 76, 77, 5, 78, 79, 471, 472, 473, 474, 475, 476, 477, 478, 479, 480, 481, 482, 483, 484, 485, 486, 487] (by decide +kernel) (by decide +kernel)
set_option maxRecDepth 20000 in
theorem gL_law_X5_addConcept : GoodIn wsL_law (wsV RL 85 RX5 yX5_addConcept wsX5_addConcept) := goodIn_app (goodIn_of _ (by decide +kernel)) ggL_law_X5_addConcept
set_option maxRecDepth 20000 in
theorem ggL_law_X5_thrown : GoodIn wsL_law wsX5_thrown := goodIn_r _ [83, 79, 471, 472, 473, 474, 475, 476, 477, 478, 479, 480, 481, 482, 483, 484, 485, 486, 487] (by decide +kernel) (by decide +kernel)
set_option maxRecDepth 20000 in
theorem gL_law_X5_thrown : GoodIn wsL_law (wsV RL 86 RX5 yX5_thrown wsX5_thrown) := goodIn_app (goodIn_of _ (by decide +kernel)) ggL_law_X5_thrown
set_option maxRecDepth 20000 in
theorem ggL_law_L_hang : GoodIn wsL_law wsL_hang := goodIn_ca (goodIn_ca (goodIn_r _ [86, 87, 88, 89, 90, 91, 2, 92, 93, 94, 14, 15, 95, 96, 97, 98, 99, 100, 69, 101, 102, 103, 104, 460, 461, 462, 463, 464, 465, 466, 467, 468, 469, 470] (by decide +kernel) (by decide +kernel)) (goodIn_sub (fun _ h => List.mem_append_left _ (List.mem_append_left _ (List.mem_append_right _ h))) (by decide +kernel))) (goodIn_sub (fun _ h => List.mem_append_left _ (List.mem_append_right _ h)) (by decide +kernel))
set_option maxRecDepth 20000 in
theorem gL_law_L_hang : GoodIn wsL_law (va_wsS RL 89 yL_hang wsL_hang) := goodIn_app (goodIn_of _ (by decide +kernel)) ggL_law_L_hang
set_option maxRecDepth 20000 in
theorem ggL_law_X5_hang : GoodIn wsL_law wsX5_hang := goodIn_r _ [108, 44, 45, 109, 110, 111, 5, 112, 74, 113, 114, 115, 116, 117, 118, 119, 75, 76, 77, 78, 79, 471, 472, 473, 474, 475, 476, 477, 478, 479, 480, 481, 482, 483, 484, 485, 486, 487] (by decide +kernel) (by decide +kernel)
set_option maxRecDepth 20000 in
theorem gL_law_X5_hang : GoodIn wsL_law (wsV RL 92 RX5 yX5_hang wsX5_hang) := goodIn_app (goodIn_of _ (by decide +kernel)) ggL_law_X5_hang
set_option maxRecDepth 20000 in
theorem ggL_law_L_unhang : GoodIn wsL_law wsL_unhang := goodIn_ca (goodIn_r _ [122, 87, 123, 124, 125, 2, 126, 14, 95, 96, 97, 98, 99, 100, 69, 460, 461, 462, 463, 464, 465, 466, 467, 468, 469, 470] (by decide +kernel) (by decide +kernel)) (goodIn_sub (fun _ h => List.mem_append_left _ (List.mem_append_right _ h)) (by decide +kernel))
set_option maxRecDepth 20000 in
theorem gL_law_L_unhang : GoodIn wsL_law (va_wsS RL 93 yL_unhang wsL_unhang) := goodIn_app (goodIn_of _ (by decide +kernel)) ggL_law_L_unhang
set_option maxRecDepth 20000 in
theorem ggL_law_X5_unhang : GoodIn wsL_law wsX5_unhang := goodIn_r _ [130, 44, 109, 110, 111, 5, 112, 74, 113, 114, 115, 75, 76, 77, 78, 79, 471, 472, 473, 474, 475, 476, 477, 478, 479, 480, 481, 482, 483, 484, 485, 486, 487] (by decide +kernel) (by decide +kernel)
set_option maxRecDepth 20000 in
theorem gL_law_X5_unhang : GoodIn wsL_law (wsV RL 96 RX5 yX5_unhang wsX5_unhang) := goodIn_app (goodIn_of _ (by decide +kernel)) ggL_law_X5_unhang
set_option maxRecDepth 20000 in
theorem ggL_law_L_addRoll : GoodIn wsL_law wsL_addRoll := goodIn_ca (goodIn_ca (goodIn_ca (goodIn_r _ [133, 87, 88, 62, 134, 135, 136, 2, 137, 93, 94, 67, 68, 138, 16, 17, 95, 96, 97, 98, 99, 100, 69, 460, 461, 462, 463, 464, 465, 466, 467, 468, 469, 470] (by decide +kernel) (by decide +kernel)) (goodIn_sub (fun _ h => List.mem_append_left _ (List.mem_append_left _ (List.mem_append_right _ h))) (by decide +kernel))) (goodIn_sub (fun _ h => List.mem_append_left _ (List.mem_append_left _ (List.mem_append_left _ (List.mem_append_right _ h)))) (by decide +kernel))) (goodIn_sub (fun _ h => List.mem_append_left _ (List.mem_append_right _ h)) (by decide +kernel))
set_option maxRecDepth 20000 in
theorem gL_law_L_addRoll : GoodIn wsL_law (va_wsS RL 97 yL_addRoll wsL_addRoll) := goodIn_app (goodIn_of _ (by decide +kernel)) ggL_law_L_addRoll
set_option maxRecDepth 20000 in
theorem ggL_law_X5_addRoll : GoodIn wsL_law wsX5_addRoll := goodIn_r _ [142, 143, 46, 47, 109, 110, 111, 5, 112, 74, 113, 114, 115, 75, 76, 77, 78, 79, 471, 472, 473, 474, 475, 476, 477, 478, 479, 480, 481, 482, 483, 484, 485, 486, 487] (by decide +kernel) (by decide +kernel)
set_option maxRecDepth 20000 in
theorem gL_law_X5_addRoll : GoodIn wsL_law (wsV RL 100 RX5 yX5_addRoll wsX5_addRoll) := goodIn_app (goodIn_of _ (by decide +kernel)) ggL_law_X5_addRoll
set_option maxRecDepth 20000 in
theorem ggL_law_L_file : GoodIn wsL_law wsL_file := goodIn_ca (goodIn_r _ [146, 62, 147, 148, 149, 2, 150, 67, 68, 151, 460, 461, 462, 463, 464, 465, 466, 467, 468, 469, 470] (by decide +kernel) (by decide +kernel)) (goodIn_sub (fun _ h => List.mem_append_left _ (List.mem_append_left _ (List.mem_append_left _ (List.mem_append_right _ h)))) (by decide +kernel))
set_option maxRecDepth 20000 in
theorem gL_law_L_file : GoodIn wsL_law (va_wsS RL 101 yL_file wsL_file) := goodIn_app (goodIn_of _ (by decide +kernel)) ggL_law_L_file
set_option maxRecDepth 20000 in
theorem ggL_law_X5_file : GoodIn wsL_law wsX5_file := goodIn_r _ [155, 48, 75, 76, 77, 5, 78, 79, 471, 472, 473, 474, 475, 476, 477, 478, 479, 480, 481, 482, 483, 484, 485, 486, 487] (by decide +kernel) (by decide +kernel)
set_option maxRecDepth 20000 in
theorem gL_law_X5_file : GoodIn wsL_law (wsV RL 103 RX5 yX5_file wsX5_file) := goodIn_app (goodIn_of _ (by decide +kernel)) ggL_law_X5_file
set_option maxRecDepth 20000 in
theorem ggL_law_L_tell : GoodIn wsL_law wsL_tell := goodIn_ca (goodIn_ca (goodIn_ca (goodIn_r _ [158, 87, 88, 62, 159, 160, 161, 2, 162, 93, 94, 67, 68, 163, 164, 21, 165, 166, 167, 151, 168, 25, 169, 170, 171, 172, 173, 95, 96, 97, 98, 99, 100, 69, 174, 175, 176, 177, 178, 179, 20, 180, 181, 182, 183, 184, 185, 186, 187, 188, 11, 12, 189, 190, 191, 192, 193, 194, 195, 196, 31, 197, 198, 199, 24, 200, 39, 201, 202, 203, 204, 205, 206, 460, 461, 462, 463, 464, 465, 466, 467, 468, 469, 470, 491, 492, 493, 494, 495, 488, 489, 490] (by decide +kernel) (by decide +kernel)) (goodIn_sub (fun _ h => List.mem_append_left _ (List.mem_append_left _ (List.mem_append_right _ h))) (by decide +kernel))) (goodIn_sub (fun _ h => List.mem_append_left _ (List.mem_append_left _ (List.mem_append_left _ (List.mem_append_right _ h)))) (by decide +kernel))) (goodIn_sub (fun _ h => List.mem_append_left _ (List.mem_append_right _ h)) (by decide +kernel))
set_option maxRecDepth 20000 in
theorem gL_law_L_tell : GoodIn wsL_law (va_wsS RL 104 yL_tell wsL_tell) := goodIn_app (goodIn_of _ (by decide +kernel)) ggL_law_L_tell
set_option maxRecDepth 20000 in
theorem ggL_law_X5_tell : GoodIn wsL_law wsX5_tell := goodIn_r _ [210, 211, 212, 213, 49, 50, 51, 52, 48, 53, 54, 113, 114, 5, 115, 214, 215, 216, 217, 109, 110, 111, 112, 74, 75, 76, 77, 78, 79, 471, 472, 473, 474, 475, 476, 477, 478, 479, 480, 481, 482, 483, 484, 485, 486, 487] (by decide +kernel) (by decide +kernel)
set_option maxRecDepth 20000 in
theorem gL_law_X5_tell : GoodIn wsL_law (wsV RL 107 RX5 yX5_tell wsX5_tell) := goodIn_app (goodIn_of _ (by decide +kernel)) ggL_law_X5_tell
set_option maxRecDepth 20000 in
theorem ggL_law_L_disagreements : GoodIn wsL_law wsL_disagreements := goodIn_ca (goodIn_r _ [220, 87, 221, 222, 223, 2, 224, 21, 169, 225, 226, 227, 228, 229, 230, 99, 100, 151, 231, 232, 233, 20, 234, 31, 235, 236, 237, 167, 238, 190, 189, 191, 192, 239, 240, 241, 242, 243, 244, 460, 461, 462, 463, 464, 465, 466, 467, 468, 469, 470, 488, 489, 491, 492, 493, 494, 495] (by decide +kernel) (by decide +kernel)) (goodIn_sub (fun _ h => List.mem_append_left _ (List.mem_append_right _ h)) (by decide +kernel))
set_option maxRecDepth 20000 in
theorem gL_law_L_disagreements : GoodIn wsL_law (va_wsS RL 108 yL_disagreements wsL_disagreements) := goodIn_app (goodIn_of _ (by decide +kernel)) ggL_law_L_disagreements
set_option maxRecDepth 20000 in
theorem ggL_law_X5_disagreements : GoodIn wsL_law wsX5_disagreements := goodIn_r _ [248, 213, 52, 49, 50, 51, 53, 249, 250, 251, 5, 252, 48, 113, 114, 115, 75, 76, 77, 78, 79, 253, 254, 255, 256, 257, 258, 259, 260, 54, 261, 262, 263, 471, 472, 473, 474, 475, 476, 477, 478, 479, 480, 481, 482, 483, 484, 485, 486, 487] (by decide +kernel) (by decide +kernel)
set_option maxRecDepth 20000 in
theorem gL_law_X5_disagreements : GoodIn wsL_law (wsV RL 110 RX5 yX5_disagreements wsX5_disagreements) := goodIn_app (goodIn_of _ (by decide +kernel)) ggL_law_X5_disagreements
set_option maxRecDepth 20000 in
theorem ggL_law_L_restated : GoodIn wsL_law wsL_restated := goodIn_ca (goodIn_r _ [266, 87, 267, 268, 269, 2, 270, 69, 227, 228, 229, 230, 99, 100, 151, 271, 272, 273, 274, 25, 226, 275, 276, 277, 278, 24, 279, 39, 280, 202, 460, 461, 462, 463, 464, 465, 466, 467, 468, 469, 470, 491, 492, 493, 494, 495, 490] (by decide +kernel) (by decide +kernel)) (goodIn_sub (fun _ h => List.mem_append_left _ (List.mem_append_right _ h)) (by decide +kernel))
set_option maxRecDepth 20000 in
theorem gL_law_L_restated : GoodIn wsL_law (va_wsS RL 111 yL_restated wsL_restated) := goodIn_app (goodIn_of _ (by decide +kernel)) ggL_law_L_restated
set_option maxRecDepth 20000 in
theorem ggL_law_X5_restated : GoodIn wsL_law wsX5_restated := goodIn_r _ [284, 213, 52, 49, 50, 51, 53, 249, 250, 251, 5, 252, 48, 113, 114, 115, 75, 76, 77, 78, 79, 285, 286, 287, 288, 54, 253, 254, 255, 256, 471, 472, 473, 474, 475, 476, 477, 478, 479, 480, 481, 482, 483, 484, 485, 486, 487] (by decide +kernel) (by decide +kernel)
set_option maxRecDepth 20000 in
theorem gL_law_X5_restated : GoodIn wsL_law (wsV RL 113 RX5 yX5_restated wsX5_restated) := goodIn_app (goodIn_of _ (by decide +kernel)) ggL_law_X5_restated
set_option maxRecDepth 20000 in
theorem ggL_law_L_value : GoodIn wsL_law wsL_value := goodIn_ca (goodIn_ca (goodIn_r _ [291, 87, 292, 293, 294, 295, 2, 296, 275, 297, 298, 299, 300, 301, 302, 25, 170, 171, 172, 173, 95, 96, 97, 98, 99, 100, 69, 174, 175, 176, 227, 228, 229, 230, 151, 182, 183, 184, 276, 277, 278, 24, 279, 39, 280, 202, 491, 492, 493, 494, 495, 460, 461, 462, 463, 464, 465, 466, 467, 468, 469, 470, 490] (by decide +kernel) (by decide +kernel)) (goodIn_sub (fun _ h => List.mem_append_right _ h) (by decide +kernel))) (goodIn_sub (fun _ h => List.mem_append_left _ (List.mem_append_right _ h)) (by decide +kernel))
set_option maxRecDepth 20000 in
theorem gL_law_L_value : GoodIn wsL_law (va_wsS RL 114 yL_value wsL_value) := goodIn_app (goodIn_of _ (by decide +kernel)) ggL_law_L_value
set_option maxRecDepth 20000 in
theorem ggL_law_X5_value : GoodIn wsL_law wsX5_value := goodIn_r _ [306, 53, 307, 308, 309, 5, 310, 214, 215, 216, 217, 109, 110, 111, 112, 74, 113, 114, 115, 249, 250, 251, 252, 48, 285, 286, 287, 288, 213, 52, 54, 253, 254, 255, 256, 49, 50, 51, 75, 76, 77, 78, 79, 471, 472, 473, 474, 475, 476, 477, 478, 479, 480, 481, 482, 483, 484, 485, 486, 487] (by decide +kernel) (by decide +kernel)
set_option maxRecDepth 20000 in
theorem gL_law_X5_value : GoodIn wsL_law (wsV RL 117 RX5 yX5_value wsX5_value) := goodIn_app (goodIn_of _ (by decide +kernel)) ggL_law_X5_value
set_option maxRecDepth 20000 in
theorem ggL_law_L_doubt : GoodIn wsL_law wsL_doubt := goodIn_ca (goodIn_ca (goodIn_r _ [313, 87, 292, 314, 315, 316, 2, 317, 318, 297, 298, 299, 300, 301, 302, 25, 170, 171, 172, 173, 95, 96, 97, 98, 99, 100, 69, 174, 175, 176, 227, 228, 229, 230, 151, 182, 183, 184, 276, 277, 278, 24, 279, 39, 280, 202, 491, 492, 493, 494, 495, 460, 461, 462, 463, 464, 465, 466, 467, 468, 469, 470, 490] (by decide +kernel) (by decide +kernel)) (goodIn_sub (fun _ h => List.mem_append_right _ h) (by decide +kernel))) (goodIn_sub (fun _ h => List.mem_append_left _ (List.mem_append_right _ h)) (by decide +kernel))
set_option maxRecDepth 20000 in
theorem gL_law_L_doubt : GoodIn wsL_law (va_wsS RL 118 yL_doubt wsL_doubt) := goodIn_app (goodIn_of _ (by decide +kernel)) ggL_law_L_doubt
set_option maxRecDepth 20000 in
theorem ggL_law_X5_doubt : GoodIn wsL_law wsX5_doubt := goodIn_r _ [322, 307, 308, 309, 5, 310, 214, 215, 216, 217, 109, 110, 111, 112, 74, 113, 114, 115, 249, 250, 251, 252, 48, 285, 286, 287, 288, 213, 52, 54, 253, 254, 255, 256, 49, 50, 51, 75, 76, 77, 78, 79, 257, 258, 259, 260, 471, 472, 473, 474, 475, 476, 477, 478, 479, 480, 481, 482, 483, 484, 485, 486, 487] (by decide +kernel) (by decide +kernel)
set_option maxRecDepth 20000 in
theorem gL_law_X5_doubt : GoodIn wsL_law (wsV RL 120 RX5 yX5_doubt wsX5_doubt) := goodIn_app (goodIn_of _ (by decide +kernel)) ggL_law_X5_doubt
set_option maxRecDepth 20000 in
theorem ggL_law_L_sum : GoodIn wsL_law wsL_sum := goodIn_ca (goodIn_r _ [325, 87, 326, 327, 328, 2, 329, 69, 25, 15, 275, 170, 171, 172, 173, 95, 96, 97, 98, 99, 100, 174, 175, 176, 227, 228, 229, 230, 151, 182, 183, 184, 330, 331, 332, 333, 14, 334, 335, 336, 277, 24, 279, 39, 280, 202, 337, 338, 20, 339, 181, 31, 340, 341, 342, 204, 205, 167, 206, 190, 192, 460, 461, 462, 463, 464, 465, 466, 467, 468, 469, 470, 491, 492, 493, 494, 495, 490, 488, 489] (by decide +kernel) (by decide +kernel)) (goodIn_sub (fun _ h => List.mem_append_left _ (List.mem_append_right _ h)) (by decide +kernel))
set_option maxRecDepth 20000 in
theorem gL_law_L_sum : GoodIn wsL_law (va_wsS RL 121 yL_sum wsL_sum) := goodIn_app (goodIn_of _ (by decide +kernel)) ggL_law_L_sum
set_option maxRecDepth 20000 in
theorem ggL_law_X5_sum : GoodIn wsL_law wsX5_sum := goodIn_r _ [346, 307, 308, 309, 5, 310, 214, 215, 216, 217, 109, 110, 111, 112, 74, 113, 114, 115, 249, 250, 251, 252, 48, 75, 76, 77, 78, 79, 347, 348, 349, 350, 44, 45, 53, 285, 286, 287, 288, 213, 52, 54, 253, 254, 255, 256, 49, 50, 51, 471, 472, 473, 474, 475, 476, 477, 478, 479, 480, 481, 482, 483, 484, 485, 486, 487] (by decide +kernel) (by decide +kernel)
set_option maxRecDepth 20000 in
theorem gL_law_X5_sum : GoodIn wsL_law (wsV RL 123 RX5 yX5_sum wsX5_sum) := goodIn_app (goodIn_of _ (by decide +kernel)) ggL_law_X5_sum
set_option maxRecDepth 20000 in
theorem ggL_law_L_derived : GoodIn wsL_law wsL_derived := goodIn_ca (goodIn_ca (goodIn_r _ [353, 87, 292, 354, 355, 356, 2, 357, 301, 302, 26, 27, 25, 275, 170, 171, 172, 173, 95, 96, 97, 98, 99, 100, 69, 174, 175, 176, 227, 228, 229, 230, 151, 182, 183, 184, 276, 277, 278, 24, 279, 39, 280, 202, 358, 359, 360, 361, 14, 15, 460, 461, 462, 463, 464, 465, 466, 467, 468, 469, 470, 491, 492, 493, 494, 495, 490] (by decide +kernel) (by decide +kernel)) (goodIn_sub (fun _ h => List.mem_append_right _ h) (by decide +kernel))) (goodIn_sub (fun _ h => List.mem_append_left _ (List.mem_append_right _ h)) (by decide +kernel))
set_option maxRecDepth 20000 in
theorem gL_law_L_derived : GoodIn wsL_law (va_wsS RL 124 yL_derived wsL_derived) := goodIn_app (goodIn_of _ (by decide +kernel)) ggL_law_L_derived
set_option maxRecDepth 20000 in
theorem ggL_law_X5_derived : GoodIn wsL_law wsX5_derived := goodIn_r _ [365, 57, 55, 307, 308, 309, 5, 310, 214, 215, 216, 217, 109, 110, 111, 112, 74, 113, 114, 115, 249, 250, 251, 252, 48, 75, 76, 77, 78, 79, 366, 367, 368, 369, 53, 44, 45, 285, 286, 287, 288, 213, 52, 54, 253, 254, 255, 256, 49, 50, 51, 471, 472, 473, 474, 475, 476, 477, 478, 479, 480, 481, 482, 483, 484, 485, 486, 487] (by decide +kernel) (by decide +kernel)
set_option maxRecDepth 20000 in
theorem gL_law_X5_derived : GoodIn wsL_law (wsV RL 126 RX5 yX5_derived wsX5_derived) := goodIn_app (goodIn_of _ (by decide +kernel)) ggL_law_X5_derived
set_option maxRecDepth 20000 in
theorem ggL_law_L_isSumOff : GoodIn wsL_law wsL_isSumOff := goodIn_ca (goodIn_r _ [372, 87, 373, 374, 375, 2, 376, 25, 170, 171, 172, 173, 95, 96, 97, 98, 99, 100, 69, 174, 175, 176, 227, 228, 229, 230, 151, 377, 378, 379, 380, 318, 15, 275, 182, 183, 184, 334, 335, 336, 277, 24, 279, 39, 280, 202, 337, 338, 20, 339, 181, 31, 340, 341, 342, 204, 205, 167, 206, 190, 192, 330, 331, 332, 333, 14, 381, 239, 240, 241, 242, 243, 244, 460, 461, 462, 463, 464, 465, 466, 467, 468, 469, 470, 491, 492, 493, 494, 495, 490, 488, 489] (by decide +kernel) (by decide +kernel)) (goodIn_sub (fun _ h => List.mem_append_left _ (List.mem_append_right _ h)) (by decide +kernel))
set_option maxRecDepth 20000 in
theorem gL_law_L_isSumOff : GoodIn wsL_law (va_wsS RL 127 yL_isSumOff wsL_isSumOff) := goodIn_app (goodIn_of _ (by decide +kernel)) ggL_law_L_isSumOff
set_option maxRecDepth 20000 in
theorem ggL_law_X5_isSumOff : GoodIn wsL_law wsX5_isSumOff := goodIn_r _ [385, 307, 308, 309, 5, 310, 214, 215, 216, 217, 109, 110, 111, 112, 74, 113, 114, 115, 249, 250, 251, 252, 48, 75, 76, 77, 78, 79, 386, 387, 388, 389, 44, 53, 285, 286, 287, 288, 213, 52, 54, 253, 254, 255, 256, 49, 50, 51, 257, 258, 259, 260, 347, 348, 349, 350, 45, 261, 262, 263, 471, 472, 473, 474, 475, 476, 477, 478, 479, 480, 481, 482, 483, 484, 485, 486, 487] (by decide +kernel) (by decide +kernel)
set_option maxRecDepth 20000 in
theorem gL_law_X5_isSumOff : GoodIn wsL_law (wsV RL 129 RX5 yX5_isSumOff wsX5_isSumOff) := goodIn_app (goodIn_of _ (by decide +kernel)) ggL_law_X5_isSumOff
set_option maxRecDepth 20000 in
theorem ggL_law_L_areMembersOff : GoodIn wsL_law wsL_areMembersOff := goodIn_ca (goodIn_r _ [392, 87, 393, 394, 395, 2, 396, 25, 170, 171, 172, 173, 95, 96, 97, 98, 99, 100, 69, 174, 175, 176, 227, 228, 229, 230, 151, 397, 398, 399, 318, 275, 182, 183, 184, 334, 335, 336, 277, 24, 279, 39, 280, 202, 337, 338, 20, 339, 181, 31, 340, 341, 342, 204, 205, 167, 206, 190, 192, 381, 239, 240, 241, 242, 243, 244, 460, 461, 462, 463, 464, 465, 466, 467, 468, 469, 470, 491, 492, 493, 494, 495, 490, 488, 489] (by decide +kernel) (by decide +kernel)) (goodIn_sub (fun _ h => List.mem_append_left _ (List.mem_append_right _ h)) (by decide +kernel))
set_option maxRecDepth 20000 in
theorem gL_law_L_areMembersOff : GoodIn wsL_law (va_wsS RL 130 yL_areMembersOff wsL_areMembersOff) := goodIn_app (goodIn_of _ (by decide +kernel)) ggL_law_L_areMembersOff
set_option maxRecDepth 20000 in
theorem ggL_law_X5_areMembersOff : GoodIn wsL_law wsX5_areMembersOff := goodIn_r _ [403, 307, 308, 309, 5, 310, 214, 215, 216, 217, 109, 110, 111, 112, 74, 113, 114, 115, 249, 250, 251, 252, 48, 75, 76, 77, 78, 79, 404, 405, 406, 407, 53, 285, 286, 287, 288, 213, 52, 54, 253, 254, 255, 256, 49, 50, 51, 257, 258, 259, 260, 261, 262, 263, 471, 472, 473, 474, 475, 476, 477, 478, 479, 480, 481, 482, 483, 484, 485, 486, 487] (by decide +kernel) (by decide +kernel)
set_option maxRecDepth 20000 in
theorem gL_law_X5_areMembersOff : GoodIn wsL_law (wsV RL 133 RX5 yX5_areMembersOff wsX5_areMembersOff) := goodIn_app (goodIn_of _ (by decide +kernel)) ggL_law_X5_areMembersOff
set_option maxRecDepth 20000 in
theorem ggL_law_L_isRollOff : GoodIn wsL_law wsL_isRollOff := goodIn_ca (goodIn_r _ [410, 87, 411, 412, 413, 2, 414, 99, 100, 138, 25, 174, 175, 176, 227, 228, 229, 230, 151, 415, 416, 417, 418, 16, 17, 275, 318, 182, 183, 184, 334, 335, 336, 277, 24, 279, 39, 280, 202, 337, 338, 20, 339, 181, 31, 340, 341, 342, 204, 205, 167, 206, 190, 192, 381, 239, 240, 241, 242, 243, 244, 460, 461, 462, 463, 464, 465, 466, 467, 468, 469, 470, 491, 492, 493, 494, 495, 490, 488, 489] (by decide +kernel) (by decide +kernel)) (goodIn_sub (fun _ h => List.mem_append_left _ (List.mem_append_right _ h)) (by decide +kernel))
set_option maxRecDepth 20000 in
theorem gL_law_L_isRollOff : GoodIn wsL_law (va_wsS RL 134 yL_isRollOff wsL_isRollOff) := goodIn_app (goodIn_of _ (by decide +kernel)) ggL_law_L_isRollOff
set_option maxRecDepth 20000 in
theorem ggL_law_X5_isRollOff : GoodIn wsL_law wsX5_isRollOff := goodIn_r _ [422, 143, 113, 114, 5, 115, 249, 250, 251, 252, 48, 75, 76, 77, 78, 79, 423, 424, 425, 426, 46, 47, 53, 285, 286, 287, 288, 213, 52, 54, 253, 254, 255, 256, 49, 50, 51, 257, 258, 259, 260, 261, 262, 263, 471, 472, 473, 474, 475, 476, 477, 478, 479, 480, 481, 482, 483, 484, 485, 486, 487] (by decide +kernel) (by decide +kernel)
set_option maxRecDepth 20000 in
theorem gL_law_X5_isRollOff : GoodIn wsL_law (wsV RL 136 RX5 yX5_isRollOff wsX5_isRollOff) := goodIn_app (goodIn_of _ (by decide +kernel)) ggL_law_X5_isRollOff
set_option maxRecDepth 20000 in
theorem ggL_law_L_faults : GoodIn wsL_law wsL_faults := goodIn_ca (goodIn_r _ [429, 87, 430, 431, 432, 2, 433, 69, 25, 227, 228, 229, 230, 99, 100, 151, 276, 277, 278, 24, 279, 39, 280, 202, 434, 435, 436, 437, 138, 16, 377, 378, 379, 380, 318, 15, 275, 182, 183, 184, 334, 335, 336, 337, 338, 20, 339, 181, 31, 340, 341, 342, 204, 205, 167, 206, 190, 192, 330, 331, 332, 333, 14, 381, 239, 240, 241, 242, 243, 244, 397, 398, 399, 415, 416, 417, 418, 17, 460, 461, 462, 463, 464, 465, 466, 467, 468, 469, 470, 490, 491, 492, 493, 494, 495, 488, 489] (by decide +kernel) (by decide +kernel)) (goodIn_sub (fun _ h => List.mem_append_left _ (List.mem_append_right _ h)) (by decide +kernel))
set_option maxRecDepth 20000 in
theorem gL_law_L_faults : GoodIn wsL_law (va_wsS RL 137 yL_faults wsL_faults) := goodIn_app (goodIn_of _ (by decide +kernel)) ggL_law_L_faults
set_option maxRecDepth 20000 in
theorem ggL_law_X5_faults : GoodIn wsL_law wsX5_faults := goodIn_r _ [441, 249, 250, 251, 5, 252, 48, 113, 114, 115, 75, 76, 77, 78, 79, 442, 443, 444, 445, 74, 143, 404, 405, 406, 407, 53, 285, 286, 287, 288, 213, 52, 54, 253, 254, 255, 256, 49, 50, 51, 257, 258, 259, 260, 261, 262, 263, 386, 387, 388, 389, 44, 347, 348, 349, 350, 45, 423, 424, 425, 426, 46, 47, 471, 472, 473, 474, 475, 476, 477, 478, 479, 480, 481, 482, 483, 484, 485, 486, 487] (by decide +kernel) (by decide +kernel)
set_option maxRecDepth 20000 in
theorem gL_law_X5_faults : GoodIn wsL_law (wsV RL 139 RX5 yX5_faults wsX5_faults) := goodIn_app (goodIn_of _ (by decide +kernel)) ggL_law_X5_faults
set_option maxRecDepth 20000 in
theorem ggL_law_L_faultsByList : GoodIn wsL_law wsL_faultsByList := goodIn_ca (goodIn_r _ [448, 87, 449, 450, 451, 2, 452, 21, 169, 225, 453, 227, 228, 229, 230, 99, 100, 151, 454, 338, 455, 20, 339, 181, 31, 340, 341, 342, 204, 205, 167, 206, 190, 192, 434, 435, 436, 437, 138, 16, 377, 378, 379, 380, 318, 69, 15, 275, 182, 183, 184, 334, 335, 336, 277, 24, 279, 39, 280, 202, 337, 330, 331, 332, 333, 14, 381, 239, 240, 241, 242, 243, 244, 397, 398, 399, 415, 416, 417, 418, 17, 460, 461, 462, 463, 464, 465, 466, 467, 468, 469, 470, 488, 489, 491, 492, 493, 494, 495, 490] (by decide +kernel) (by decide +kernel)) (goodIn_sub (fun _ h => List.mem_append_left _ (List.mem_append_right _ h)) (by decide +kernel))
set_option maxRecDepth 20000 in
theorem gL_law_L_faultsByList : GoodIn wsL_law (va_wsS RL 140 yL_faultsByList wsL_faultsByList) := goodIn_app (goodIn_of _ (by decide +kernel)) ggL_law_L_faultsByList
set_option maxRecDepth 20000 in
theorem ggL_law_X5_faultsByList : GoodIn wsL_law wsX5_faultsByList := goodIn_r _ [459, 249, 250, 251, 5, 252, 48, 113, 114, 115, 75, 76, 77, 78, 79, 442, 443, 444, 445, 74, 143, 404, 405, 406, 407, 53, 285, 286, 287, 288, 213, 52, 54, 253, 254, 255, 256, 49, 50, 51, 257, 258, 259, 260, 261, 262, 263, 386, 387, 388, 389, 44, 347, 348, 349, 350, 45, 423, 424, 425, 426, 46, 47, 471, 472, 473, 474, 475, 476, 477, 478, 479, 480, 481, 482, 483, 484, 485, 486, 487] (by decide +kernel) (by decide +kernel)
set_option maxRecDepth 20000 in
theorem gL_law_X5_faultsByList : GoodIn wsL_law (wsV RL 142 RX5 yX5_faultsByList wsX5_faultsByList) := goodIn_app (goodIn_of _ (by decide +kernel)) ggL_law_X5_faultsByList
theorem dL_law_0 : decode cL_law 0 = .ok (.new 8, 3) := by decide +kernel
theorem dL_law_3 : decode cL_law 3 = .ok (.dup, 1) := by decide +kernel
theorem dL_law_4 : decode cL_law 4 = .ok (.invokespecial 76, 3) := by decide +kernel
theorem dL_law_7 : decode cL_law 7 = .ok (.astore_n 1, 1) := by decide +kernel
theorem dL_law_8 : decode cL_law 8 = .ok (.new 77, 3) := by decide +kernel
theorem dL_law_11 : decode cL_law 11 = .ok (.dup, 1) := by decide +kernel
theorem dL_law_12 : decode cL_law 12 = .ok (.invokespecial 79, 3) := by decide +kernel
theorem dL_law_15 : decode cL_law 15 = .ok (.astore_n 2, 1) := by decide +kernel
theorem dL_law_16 : decode cL_law 16 = .ok (.iconst 1, 1) := by decide +kernel
theorem dL_law_17 : decode cL_law 17 = .ok (.newarray .long, 2) := by decide +kernel
theorem dL_law_19 : decode cL_law 19 = .ok (.astore_n 3, 1) := by decide +kernel
theorem dL_law_20 : decode cL_law 20 = .ok (.iconst 0, 1) := by decide +kernel
theorem dL_law_21 : decode cL_law 21 = .ok (.istore 4, 2) := by decide +kernel
theorem dL_law_23 : decode cL_law 23 = .ok (.iload 4, 2) := by decide +kernel
theorem dL_law_25 : decode cL_law 25 = .ok (.aload_n 0, 1) := by decide +kernel
theorem dL_law_26 : decode cL_law 26 = .ok (.arraylength, 1) := by decide +kernel
theorem dL_law_27 : decode cL_law 27 = .ok (.bipush 6, 2) := by decide +kernel
theorem dL_law_29 : decode cL_law 29 = .ok (.isub, 1) := by decide +kernel
theorem dL_law_30 : decode cL_law 30 = .ok (.if_icmp .gt 1389, 3) := by decide +kernel
theorem dL_law_33 : decode cL_law 33 = .ok (.aload_n 0, 1) := by decide +kernel
theorem dL_law_34 : decode cL_law 34 = .ok (.iload 4, 2) := by decide +kernel
theorem dL_law_36 : decode cL_law 36 = .ok (.iaload, 1) := by decide +kernel
theorem dL_law_37 : decode cL_law 37 = .ok (.bipush 31, 2) := by decide +kernel
theorem dL_law_39 : decode cL_law 39 = .ok (.iand, 1) := by decide +kernel
theorem dL_law_40 : decode cL_law 40 = .ok (.tableswitch 1373 0 16 #[84, 128, 224, 280, 348, 392, 496, 552, 608, 700, 792, 884, 976, 1075, 1162, 1261, 1317], 84) := by decide +kernel
theorem dL_law_124 : decode cL_law 124 = .ok (.aload_n 1, 1) := by decide +kernel
theorem dL_law_125 : decode cL_law 125 = .ok (.aload_n 3, 1) := by decide +kernel
theorem dL_law_126 : decode cL_law 126 = .ok (.invokestatic 80, 3) := by decide +kernel
theorem dL_law_129 : decode cL_law 129 = .ok (.istore 5, 2) := by decide +kernel
theorem dL_law_131 : decode cL_law 131 = .ok (.aload_n 2, 1) := by decide +kernel
theorem dL_law_132 : decode cL_law 132 = .ok (.invokevirtual 85, 3) := by decide +kernel
theorem dL_law_135 : decode cL_law 135 = .ok (.istore 6, 2) := by decide +kernel
theorem dL_law_137 : decode cL_law 137 = .ok (.aload_n 2, 1) := by decide +kernel
theorem dL_law_138 : decode cL_law 138 = .ok (.invokevirtual 86, 3) := by decide +kernel
theorem dL_law_141 : decode cL_law 141 = .ok (.iload 5, 2) := by decide +kernel
theorem dL_law_143 : decode cL_law 143 = .ok (.if_icmp .eq 5, 3) := by decide +kernel
theorem dL_law_146 : decode cL_law 146 = .ok (.iconst 0, 1) := by decide +kernel
theorem dL_law_147 : decode cL_law 147 = .ok (.ireturn, 1) := by decide +kernel
theorem dL_law_148 : decode cL_law 148 = .ok (.iload 5, 2) := by decide +kernel
theorem dL_law_150 : decode cL_law 150 = .ok (.ifCond .ne 15, 3) := by decide +kernel
theorem dL_law_153 : decode cL_law 153 = .ok (.aload_n 3, 1) := by decide +kernel
theorem dL_law_154 : decode cL_law 154 = .ok (.iconst 0, 1) := by decide +kernel
theorem dL_law_155 : decode cL_law 155 = .ok (.laload, 1) := by decide +kernel
theorem dL_law_156 : decode cL_law 156 = .ok (.iload 6, 2) := by decide +kernel
theorem dL_law_158 : decode cL_law 158 = .ok (.i2l, 1) := by decide +kernel
theorem dL_law_159 : decode cL_law 159 = .ok (.lcmp, 1) := by decide +kernel
theorem dL_law_160 : decode cL_law 160 = .ok (.ifCond .eq 5, 3) := by decide +kernel
theorem dL_law_163 : decode cL_law 163 = .ok (.iconst 0, 1) := by decide +kernel
theorem dL_law_164 : decode cL_law 164 = .ok (.ireturn, 1) := by decide +kernel
theorem dL_law_165 : decode cL_law 165 = .ok (.goto 1248, 3) := by decide +kernel
theorem dL_law_168 : decode cL_law 168 = .ok (.aload_n 1, 1) := by decide +kernel
theorem dL_law_169 : decode cL_law 169 = .ok (.aload_n 0, 1) := by decide +kernel
theorem dL_law_170 : decode cL_law 170 = .ok (.iload 4, 2) := by decide +kernel
theorem dL_law_172 : decode cL_law 172 = .ok (.iconst 1, 1) := by decide +kernel
theorem dL_law_173 : decode cL_law 173 = .ok (.iadd, 1) := by decide +kernel
theorem dL_law_174 : decode cL_law 174 = .ok (.iaload, 1) := by decide +kernel
theorem dL_law_175 : decode cL_law 175 = .ok (.aload_n 0, 1) := by decide +kernel
theorem dL_law_176 : decode cL_law 176 = .ok (.iload 4, 2) := by decide +kernel
theorem dL_law_178 : decode cL_law 178 = .ok (.iconst 2, 1) := by decide +kernel
theorem dL_law_179 : decode cL_law 179 = .ok (.iadd, 1) := by decide +kernel
theorem dL_law_180 : decode cL_law 180 = .ok (.iaload, 1) := by decide +kernel
theorem dL_law_181 : decode cL_law 181 = .ok (.aload_n 0, 1) := by decide +kernel
theorem dL_law_182 : decode cL_law 182 = .ok (.iload 4, 2) := by decide +kernel
theorem dL_law_184 : decode cL_law 184 = .ok (.iconst 3, 1) := by decide +kernel
theorem dL_law_185 : decode cL_law 185 = .ok (.iadd, 1) := by decide +kernel
theorem dL_law_186 : decode cL_law 186 = .ok (.iaload, 1) := by decide +kernel
theorem dL_law_187 : decode cL_law 187 = .ok (.ifCond .eq 7, 3) := by decide +kernel
theorem dL_law_190 : decode cL_law 190 = .ok (.iconst 1, 1) := by decide +kernel
theorem dL_law_191 : decode cL_law 191 = .ok (.goto 4, 3) := by decide +kernel
theorem dL_law_194 : decode cL_law 194 = .ok (.iconst 0, 1) := by decide +kernel
theorem dL_law_195 : decode cL_law 195 = .ok (.aload_n 3, 1) := by decide +kernel
theorem dL_law_196 : decode cL_law 196 = .ok (.invokestatic 89, 3) := by decide +kernel
theorem dL_law_199 : decode cL_law 199 = .ok (.istore 5, 2) := by decide +kernel
theorem dL_law_201 : decode cL_law 201 = .ok (.aload_n 2, 1) := by decide +kernel
theorem dL_law_202 : decode cL_law 202 = .ok (.aload_n 0, 1) := by decide +kernel
theorem dL_law_203 : decode cL_law 203 = .ok (.iload 4, 2) := by decide +kernel
theorem dL_law_205 : decode cL_law 205 = .ok (.iconst 1, 1) := by decide +kernel
theorem dL_law_206 : decode cL_law 206 = .ok (.iadd, 1) := by decide +kernel
theorem dL_law_207 : decode cL_law 207 = .ok (.iaload, 1) := by decide +kernel
theorem dL_law_208 : decode cL_law 208 = .ok (.aload_n 0, 1) := by decide +kernel
theorem dL_law_209 : decode cL_law 209 = .ok (.iload 4, 2) := by decide +kernel
theorem dL_law_211 : decode cL_law 211 = .ok (.iconst 2, 1) := by decide +kernel
theorem dL_law_212 : decode cL_law 212 = .ok (.iadd, 1) := by decide +kernel
theorem dL_law_213 : decode cL_law 213 = .ok (.iaload, 1) := by decide +kernel
theorem dL_law_214 : decode cL_law 214 = .ok (.aload_n 0, 1) := by decide +kernel
theorem dL_law_215 : decode cL_law 215 = .ok (.iload 4, 2) := by decide +kernel
theorem dL_law_217 : decode cL_law 217 = .ok (.iconst 3, 1) := by decide +kernel
theorem dL_law_218 : decode cL_law 218 = .ok (.iadd, 1) := by decide +kernel
theorem dL_law_219 : decode cL_law 219 = .ok (.iaload, 1) := by decide +kernel
theorem dL_law_220 : decode cL_law 220 = .ok (.ifCond .eq 7, 3) := by decide +kernel
theorem dL_law_223 : decode cL_law 223 = .ok (.iconst 1, 1) := by decide +kernel
theorem dL_law_224 : decode cL_law 224 = .ok (.goto 4, 3) := by decide +kernel
theorem dL_law_227 : decode cL_law 227 = .ok (.iconst 0, 1) := by decide +kernel
theorem dL_law_228 : decode cL_law 228 = .ok (.invokevirtual 92, 3) := by decide +kernel
theorem dL_law_231 : decode cL_law 231 = .ok (.istore 6, 2) := by decide +kernel
theorem dL_law_233 : decode cL_law 233 = .ok (.aload_n 2, 1) := by decide +kernel
theorem dL_law_234 : decode cL_law 234 = .ok (.invokevirtual 86, 3) := by decide +kernel
theorem dL_law_237 : decode cL_law 237 = .ok (.iload 5, 2) := by decide +kernel
theorem dL_law_239 : decode cL_law 239 = .ok (.if_icmp .eq 5, 3) := by decide +kernel
theorem dL_law_242 : decode cL_law 242 = .ok (.iconst 0, 1) := by decide +kernel
theorem dL_law_243 : decode cL_law 243 = .ok (.ireturn, 1) := by decide +kernel
theorem dL_law_244 : decode cL_law 244 = .ok (.iload 5, 2) := by decide +kernel
theorem dL_law_246 : decode cL_law 246 = .ok (.ifCond .ne 15, 3) := by decide +kernel
theorem dL_law_249 : decode cL_law 249 = .ok (.aload_n 3, 1) := by decide +kernel
theorem dL_law_250 : decode cL_law 250 = .ok (.iconst 0, 1) := by decide +kernel
theorem dL_law_251 : decode cL_law 251 = .ok (.laload, 1) := by decide +kernel
theorem dL_law_252 : decode cL_law 252 = .ok (.iload 6, 2) := by decide +kernel
theorem dL_law_254 : decode cL_law 254 = .ok (.i2l, 1) := by decide +kernel
theorem dL_law_255 : decode cL_law 255 = .ok (.lcmp, 1) := by decide +kernel
theorem dL_law_256 : decode cL_law 256 = .ok (.ifCond .eq 5, 3) := by decide +kernel
theorem dL_law_259 : decode cL_law 259 = .ok (.iconst 0, 1) := by decide +kernel
theorem dL_law_260 : decode cL_law 260 = .ok (.ireturn, 1) := by decide +kernel
theorem dL_law_261 : decode cL_law 261 = .ok (.goto 1152, 3) := by decide +kernel
theorem dL_law_264 : decode cL_law 264 = .ok (.aload_n 1, 1) := by decide +kernel
theorem dL_law_265 : decode cL_law 265 = .ok (.aload_n 0, 1) := by decide +kernel
theorem dL_law_266 : decode cL_law 266 = .ok (.iload 4, 2) := by decide +kernel
theorem dL_law_268 : decode cL_law 268 = .ok (.iconst 1, 1) := by decide +kernel
theorem dL_law_269 : decode cL_law 269 = .ok (.iadd, 1) := by decide +kernel
theorem dL_law_270 : decode cL_law 270 = .ok (.iaload, 1) := by decide +kernel
theorem dL_law_271 : decode cL_law 271 = .ok (.aload_n 3, 1) := by decide +kernel
theorem dL_law_272 : decode cL_law 272 = .ok (.invokestatic 93, 3) := by decide +kernel
theorem dL_law_275 : decode cL_law 275 = .ok (.istore 5, 2) := by decide +kernel
theorem dL_law_277 : decode cL_law 277 = .ok (.aload_n 2, 1) := by decide +kernel
theorem dL_law_278 : decode cL_law 278 = .ok (.aload_n 0, 1) := by decide +kernel
theorem dL_law_279 : decode cL_law 279 = .ok (.iload 4, 2) := by decide +kernel
theorem dL_law_281 : decode cL_law 281 = .ok (.iconst 1, 1) := by decide +kernel
theorem dL_law_282 : decode cL_law 282 = .ok (.iadd, 1) := by decide +kernel
theorem dL_law_283 : decode cL_law 283 = .ok (.iaload, 1) := by decide +kernel
theorem dL_law_284 : decode cL_law 284 = .ok (.invokevirtual 96, 3) := by decide +kernel
theorem dL_law_287 : decode cL_law 287 = .ok (.istore 6, 2) := by decide +kernel
theorem dL_law_289 : decode cL_law 289 = .ok (.aload_n 2, 1) := by decide +kernel
theorem dL_law_290 : decode cL_law 290 = .ok (.invokevirtual 86, 3) := by decide +kernel
theorem dL_law_293 : decode cL_law 293 = .ok (.iload 5, 2) := by decide +kernel
theorem dL_law_295 : decode cL_law 295 = .ok (.if_icmp .eq 5, 3) := by decide +kernel
theorem dL_law_298 : decode cL_law 298 = .ok (.iconst 0, 1) := by decide +kernel
theorem dL_law_299 : decode cL_law 299 = .ok (.ireturn, 1) := by decide +kernel
theorem dL_law_300 : decode cL_law 300 = .ok (.iload 5, 2) := by decide +kernel
theorem dL_law_302 : decode cL_law 302 = .ok (.ifCond .ne 15, 3) := by decide +kernel
theorem dL_law_305 : decode cL_law 305 = .ok (.aload_n 3, 1) := by decide +kernel
theorem dL_law_306 : decode cL_law 306 = .ok (.iconst 0, 1) := by decide +kernel
theorem dL_law_307 : decode cL_law 307 = .ok (.laload, 1) := by decide +kernel
theorem dL_law_308 : decode cL_law 308 = .ok (.iload 6, 2) := by decide +kernel
theorem dL_law_310 : decode cL_law 310 = .ok (.i2l, 1) := by decide +kernel
theorem dL_law_311 : decode cL_law 311 = .ok (.lcmp, 1) := by decide +kernel
theorem dL_law_312 : decode cL_law 312 = .ok (.ifCond .eq 5, 3) := by decide +kernel
theorem dL_law_315 : decode cL_law 315 = .ok (.iconst 0, 1) := by decide +kernel
theorem dL_law_316 : decode cL_law 316 = .ok (.ireturn, 1) := by decide +kernel
theorem dL_law_317 : decode cL_law 317 = .ok (.goto 1096, 3) := by decide +kernel
theorem dL_law_320 : decode cL_law 320 = .ok (.aload_n 1, 1) := by decide +kernel
theorem dL_law_321 : decode cL_law 321 = .ok (.aload_n 0, 1) := by decide +kernel
theorem dL_law_322 : decode cL_law 322 = .ok (.iload 4, 2) := by decide +kernel
theorem dL_law_324 : decode cL_law 324 = .ok (.iconst 1, 1) := by decide +kernel
theorem dL_law_325 : decode cL_law 325 = .ok (.iadd, 1) := by decide +kernel
theorem dL_law_326 : decode cL_law 326 = .ok (.iaload, 1) := by decide +kernel
theorem dL_law_327 : decode cL_law 327 = .ok (.aload_n 0, 1) := by decide +kernel
theorem dL_law_328 : decode cL_law 328 = .ok (.iload 4, 2) := by decide +kernel
theorem dL_law_330 : decode cL_law 330 = .ok (.iconst 2, 1) := by decide +kernel
theorem dL_law_331 : decode cL_law 331 = .ok (.iadd, 1) := by decide +kernel
theorem dL_law_332 : decode cL_law 332 = .ok (.iaload, 1) := by decide +kernel
theorem dL_law_333 : decode cL_law 333 = .ok (.aload_n 3, 1) := by decide +kernel
theorem dL_law_334 : decode cL_law 334 = .ok (.invokestatic 97, 3) := by decide +kernel
theorem dL_law_337 : decode cL_law 337 = .ok (.istore 5, 2) := by decide +kernel
theorem dL_law_339 : decode cL_law 339 = .ok (.aload_n 2, 1) := by decide +kernel
theorem dL_law_340 : decode cL_law 340 = .ok (.aload_n 0, 1) := by decide +kernel
theorem dL_law_341 : decode cL_law 341 = .ok (.iload 4, 2) := by decide +kernel
theorem dL_law_343 : decode cL_law 343 = .ok (.iconst 1, 1) := by decide +kernel
theorem dL_law_344 : decode cL_law 344 = .ok (.iadd, 1) := by decide +kernel
theorem dL_law_345 : decode cL_law 345 = .ok (.iaload, 1) := by decide +kernel
theorem dL_law_346 : decode cL_law 346 = .ok (.aload_n 0, 1) := by decide +kernel
theorem dL_law_347 : decode cL_law 347 = .ok (.iload 4, 2) := by decide +kernel
theorem dL_law_349 : decode cL_law 349 = .ok (.iconst 2, 1) := by decide +kernel
theorem dL_law_350 : decode cL_law 350 = .ok (.iadd, 1) := by decide +kernel
theorem dL_law_351 : decode cL_law 351 = .ok (.iaload, 1) := by decide +kernel
theorem dL_law_352 : decode cL_law 352 = .ok (.invokevirtual 100, 3) := by decide +kernel
theorem dL_law_355 : decode cL_law 355 = .ok (.istore 6, 2) := by decide +kernel
theorem dL_law_357 : decode cL_law 357 = .ok (.aload_n 2, 1) := by decide +kernel
theorem dL_law_358 : decode cL_law 358 = .ok (.invokevirtual 86, 3) := by decide +kernel
theorem dL_law_361 : decode cL_law 361 = .ok (.iload 5, 2) := by decide +kernel
theorem dL_law_363 : decode cL_law 363 = .ok (.if_icmp .eq 5, 3) := by decide +kernel
theorem dL_law_366 : decode cL_law 366 = .ok (.iconst 0, 1) := by decide +kernel
theorem dL_law_367 : decode cL_law 367 = .ok (.ireturn, 1) := by decide +kernel
theorem dL_law_368 : decode cL_law 368 = .ok (.iload 5, 2) := by decide +kernel
theorem dL_law_370 : decode cL_law 370 = .ok (.ifCond .ne 15, 3) := by decide +kernel
theorem dL_law_373 : decode cL_law 373 = .ok (.aload_n 3, 1) := by decide +kernel
theorem dL_law_374 : decode cL_law 374 = .ok (.iconst 0, 1) := by decide +kernel
theorem dL_law_375 : decode cL_law 375 = .ok (.laload, 1) := by decide +kernel
theorem dL_law_376 : decode cL_law 376 = .ok (.iload 6, 2) := by decide +kernel
theorem dL_law_378 : decode cL_law 378 = .ok (.i2l, 1) := by decide +kernel
theorem dL_law_379 : decode cL_law 379 = .ok (.lcmp, 1) := by decide +kernel
theorem dL_law_380 : decode cL_law 380 = .ok (.ifCond .eq 5, 3) := by decide +kernel
theorem dL_law_383 : decode cL_law 383 = .ok (.iconst 0, 1) := by decide +kernel
theorem dL_law_384 : decode cL_law 384 = .ok (.ireturn, 1) := by decide +kernel
theorem dL_law_385 : decode cL_law 385 = .ok (.goto 1028, 3) := by decide +kernel
theorem dL_law_388 : decode cL_law 388 = .ok (.aload_n 1, 1) := by decide +kernel
theorem dL_law_389 : decode cL_law 389 = .ok (.aload_n 3, 1) := by decide +kernel
theorem dL_law_390 : decode cL_law 390 = .ok (.invokestatic 101, 3) := by decide +kernel
theorem dL_law_393 : decode cL_law 393 = .ok (.istore 5, 2) := by decide +kernel
theorem dL_law_395 : decode cL_law 395 = .ok (.aload_n 2, 1) := by decide +kernel
theorem dL_law_396 : decode cL_law 396 = .ok (.invokevirtual 103, 3) := by decide +kernel
theorem dL_law_399 : decode cL_law 399 = .ok (.istore 6, 2) := by decide +kernel
theorem dL_law_401 : decode cL_law 401 = .ok (.aload_n 2, 1) := by decide +kernel
theorem dL_law_402 : decode cL_law 402 = .ok (.invokevirtual 86, 3) := by decide +kernel
theorem dL_law_405 : decode cL_law 405 = .ok (.iload 5, 2) := by decide +kernel
theorem dL_law_407 : decode cL_law 407 = .ok (.if_icmp .eq 5, 3) := by decide +kernel
theorem dL_law_410 : decode cL_law 410 = .ok (.iconst 0, 1) := by decide +kernel
theorem dL_law_411 : decode cL_law 411 = .ok (.ireturn, 1) := by decide +kernel
theorem dL_law_412 : decode cL_law 412 = .ok (.iload 5, 2) := by decide +kernel
theorem dL_law_414 : decode cL_law 414 = .ok (.ifCond .ne 15, 3) := by decide +kernel
theorem dL_law_417 : decode cL_law 417 = .ok (.aload_n 3, 1) := by decide +kernel
theorem dL_law_418 : decode cL_law 418 = .ok (.iconst 0, 1) := by decide +kernel
theorem dL_law_419 : decode cL_law 419 = .ok (.laload, 1) := by decide +kernel
theorem dL_law_420 : decode cL_law 420 = .ok (.iload 6, 2) := by decide +kernel
theorem dL_law_422 : decode cL_law 422 = .ok (.i2l, 1) := by decide +kernel
theorem dL_law_423 : decode cL_law 423 = .ok (.lcmp, 1) := by decide +kernel
theorem dL_law_424 : decode cL_law 424 = .ok (.ifCond .eq 5, 3) := by decide +kernel
theorem dL_law_427 : decode cL_law 427 = .ok (.iconst 0, 1) := by decide +kernel
theorem dL_law_428 : decode cL_law 428 = .ok (.ireturn, 1) := by decide +kernel
theorem dL_law_429 : decode cL_law 429 = .ok (.goto 984, 3) := by decide +kernel
theorem dL_law_432 : decode cL_law 432 = .ok (.aload_n 1, 1) := by decide +kernel
theorem dL_law_433 : decode cL_law 433 = .ok (.aload_n 0, 1) := by decide +kernel
theorem dL_law_434 : decode cL_law 434 = .ok (.iload 4, 2) := by decide +kernel
theorem dL_law_436 : decode cL_law 436 = .ok (.iconst 1, 1) := by decide +kernel
theorem dL_law_437 : decode cL_law 437 = .ok (.iadd, 1) := by decide +kernel
theorem dL_law_438 : decode cL_law 438 = .ok (.iaload, 1) := by decide +kernel
theorem dL_law_439 : decode cL_law 439 = .ok (.aload_n 0, 1) := by decide +kernel
theorem dL_law_440 : decode cL_law 440 = .ok (.iload 4, 2) := by decide +kernel
theorem dL_law_442 : decode cL_law 442 = .ok (.iconst 2, 1) := by decide +kernel
theorem dL_law_443 : decode cL_law 443 = .ok (.iadd, 1) := by decide +kernel
theorem dL_law_444 : decode cL_law 444 = .ok (.iaload, 1) := by decide +kernel
theorem dL_law_445 : decode cL_law 445 = .ok (.aload_n 0, 1) := by decide +kernel
theorem dL_law_446 : decode cL_law 446 = .ok (.iload 4, 2) := by decide +kernel
theorem dL_law_448 : decode cL_law 448 = .ok (.iconst 3, 1) := by decide +kernel
theorem dL_law_449 : decode cL_law 449 = .ok (.iadd, 1) := by decide +kernel
theorem dL_law_450 : decode cL_law 450 = .ok (.iaload, 1) := by decide +kernel
theorem dL_law_451 : decode cL_law 451 = .ok (.aload_n 0, 1) := by decide +kernel
theorem dL_law_452 : decode cL_law 452 = .ok (.iload 4, 2) := by decide +kernel
theorem dL_law_454 : decode cL_law 454 = .ok (.iconst 4, 1) := by decide +kernel
theorem dL_law_455 : decode cL_law 455 = .ok (.iadd, 1) := by decide +kernel
theorem dL_law_456 : decode cL_law 456 = .ok (.iaload, 1) := by decide +kernel
theorem dL_law_457 : decode cL_law 457 = .ok (.aload_n 0, 1) := by decide +kernel
theorem dL_law_458 : decode cL_law 458 = .ok (.iload 4, 2) := by decide +kernel
theorem dL_law_460 : decode cL_law 460 = .ok (.iconst 5, 1) := by decide +kernel
theorem dL_law_461 : decode cL_law 461 = .ok (.iadd, 1) := by decide +kernel
theorem dL_law_462 : decode cL_law 462 = .ok (.iaload, 1) := by decide +kernel
theorem dL_law_463 : decode cL_law 463 = .ok (.aload_n 3, 1) := by decide +kernel
theorem dL_law_464 : decode cL_law 464 = .ok (.invokestatic 104, 3) := by decide +kernel
theorem dL_law_467 : decode cL_law 467 = .ok (.istore 5, 2) := by decide +kernel
theorem dL_law_469 : decode cL_law 469 = .ok (.aload_n 2, 1) := by decide +kernel
theorem dL_law_470 : decode cL_law 470 = .ok (.aload_n 0, 1) := by decide +kernel
theorem dL_law_471 : decode cL_law 471 = .ok (.iload 4, 2) := by decide +kernel
theorem dL_law_473 : decode cL_law 473 = .ok (.iconst 1, 1) := by decide +kernel
theorem dL_law_474 : decode cL_law 474 = .ok (.iadd, 1) := by decide +kernel
theorem dL_law_475 : decode cL_law 475 = .ok (.iaload, 1) := by decide +kernel
theorem dL_law_476 : decode cL_law 476 = .ok (.aload_n 0, 1) := by decide +kernel
theorem dL_law_477 : decode cL_law 477 = .ok (.iload 4, 2) := by decide +kernel
theorem dL_law_479 : decode cL_law 479 = .ok (.iconst 2, 1) := by decide +kernel
theorem dL_law_480 : decode cL_law 480 = .ok (.iadd, 1) := by decide +kernel
theorem dL_law_481 : decode cL_law 481 = .ok (.iaload, 1) := by decide +kernel
theorem dL_law_482 : decode cL_law 482 = .ok (.aload_n 0, 1) := by decide +kernel
theorem dL_law_483 : decode cL_law 483 = .ok (.iload 4, 2) := by decide +kernel
theorem dL_law_485 : decode cL_law 485 = .ok (.iconst 3, 1) := by decide +kernel
theorem dL_law_486 : decode cL_law 486 = .ok (.iadd, 1) := by decide +kernel
theorem dL_law_487 : decode cL_law 487 = .ok (.iaload, 1) := by decide +kernel
theorem dL_law_488 : decode cL_law 488 = .ok (.aload_n 0, 1) := by decide +kernel
theorem dL_law_489 : decode cL_law 489 = .ok (.iload 4, 2) := by decide +kernel
theorem dL_law_491 : decode cL_law 491 = .ok (.iconst 4, 1) := by decide +kernel
theorem dL_law_492 : decode cL_law 492 = .ok (.iadd, 1) := by decide +kernel
theorem dL_law_493 : decode cL_law 493 = .ok (.iaload, 1) := by decide +kernel
theorem dL_law_494 : decode cL_law 494 = .ok (.aload_n 0, 1) := by decide +kernel
theorem dL_law_495 : decode cL_law 495 = .ok (.iload 4, 2) := by decide +kernel
theorem dL_law_497 : decode cL_law 497 = .ok (.iconst 5, 1) := by decide +kernel
theorem dL_law_498 : decode cL_law 498 = .ok (.iadd, 1) := by decide +kernel
theorem dL_law_499 : decode cL_law 499 = .ok (.iaload, 1) := by decide +kernel
theorem dL_law_500 : decode cL_law 500 = .ok (.invokevirtual 107, 3) := by decide +kernel
theorem dL_law_503 : decode cL_law 503 = .ok (.istore 6, 2) := by decide +kernel
theorem dL_law_505 : decode cL_law 505 = .ok (.aload_n 2, 1) := by decide +kernel
theorem dL_law_506 : decode cL_law 506 = .ok (.invokevirtual 86, 3) := by decide +kernel
theorem dL_law_509 : decode cL_law 509 = .ok (.iload 5, 2) := by decide +kernel
theorem dL_law_511 : decode cL_law 511 = .ok (.if_icmp .eq 5, 3) := by decide +kernel
theorem dL_law_514 : decode cL_law 514 = .ok (.iconst 0, 1) := by decide +kernel
theorem dL_law_515 : decode cL_law 515 = .ok (.ireturn, 1) := by decide +kernel
theorem dL_law_516 : decode cL_law 516 = .ok (.iload 5, 2) := by decide +kernel
theorem dL_law_518 : decode cL_law 518 = .ok (.ifCond .ne 15, 3) := by decide +kernel
theorem dL_law_521 : decode cL_law 521 = .ok (.aload_n 3, 1) := by decide +kernel
theorem dL_law_522 : decode cL_law 522 = .ok (.iconst 0, 1) := by decide +kernel
theorem dL_law_523 : decode cL_law 523 = .ok (.laload, 1) := by decide +kernel
theorem dL_law_524 : decode cL_law 524 = .ok (.iload 6, 2) := by decide +kernel
theorem dL_law_526 : decode cL_law 526 = .ok (.i2l, 1) := by decide +kernel
theorem dL_law_527 : decode cL_law 527 = .ok (.lcmp, 1) := by decide +kernel
theorem dL_law_528 : decode cL_law 528 = .ok (.ifCond .eq 5, 3) := by decide +kernel
theorem dL_law_531 : decode cL_law 531 = .ok (.iconst 0, 1) := by decide +kernel
theorem dL_law_532 : decode cL_law 532 = .ok (.ireturn, 1) := by decide +kernel
theorem dL_law_533 : decode cL_law 533 = .ok (.goto 880, 3) := by decide +kernel
theorem dL_law_536 : decode cL_law 536 = .ok (.aload_n 1, 1) := by decide +kernel
theorem dL_law_537 : decode cL_law 537 = .ok (.aload_n 0, 1) := by decide +kernel
theorem dL_law_538 : decode cL_law 538 = .ok (.iload 4, 2) := by decide +kernel
theorem dL_law_540 : decode cL_law 540 = .ok (.iconst 1, 1) := by decide +kernel
theorem dL_law_541 : decode cL_law 541 = .ok (.iadd, 1) := by decide +kernel
theorem dL_law_542 : decode cL_law 542 = .ok (.iaload, 1) := by decide +kernel
theorem dL_law_543 : decode cL_law 543 = .ok (.aload_n 3, 1) := by decide +kernel
theorem dL_law_544 : decode cL_law 544 = .ok (.invokestatic 108, 3) := by decide +kernel
theorem dL_law_547 : decode cL_law 547 = .ok (.istore 5, 2) := by decide +kernel
theorem dL_law_549 : decode cL_law 549 = .ok (.aload_n 2, 1) := by decide +kernel
theorem dL_law_550 : decode cL_law 550 = .ok (.aload_n 0, 1) := by decide +kernel
theorem dL_law_551 : decode cL_law 551 = .ok (.iload 4, 2) := by decide +kernel
theorem dL_law_553 : decode cL_law 553 = .ok (.iconst 1, 1) := by decide +kernel
theorem dL_law_554 : decode cL_law 554 = .ok (.iadd, 1) := by decide +kernel
theorem dL_law_555 : decode cL_law 555 = .ok (.iaload, 1) := by decide +kernel
theorem dL_law_556 : decode cL_law 556 = .ok (.invokevirtual 110, 3) := by decide +kernel
theorem dL_law_559 : decode cL_law 559 = .ok (.istore 6, 2) := by decide +kernel
theorem dL_law_561 : decode cL_law 561 = .ok (.aload_n 2, 1) := by decide +kernel
theorem dL_law_562 : decode cL_law 562 = .ok (.invokevirtual 86, 3) := by decide +kernel
theorem dL_law_565 : decode cL_law 565 = .ok (.iload 5, 2) := by decide +kernel
theorem dL_law_567 : decode cL_law 567 = .ok (.if_icmp .eq 5, 3) := by decide +kernel
theorem dL_law_570 : decode cL_law 570 = .ok (.iconst 0, 1) := by decide +kernel
theorem dL_law_571 : decode cL_law 571 = .ok (.ireturn, 1) := by decide +kernel
theorem dL_law_572 : decode cL_law 572 = .ok (.iload 5, 2) := by decide +kernel
theorem dL_law_574 : decode cL_law 574 = .ok (.ifCond .ne 15, 3) := by decide +kernel
theorem dL_law_577 : decode cL_law 577 = .ok (.aload_n 3, 1) := by decide +kernel
theorem dL_law_578 : decode cL_law 578 = .ok (.iconst 0, 1) := by decide +kernel
theorem dL_law_579 : decode cL_law 579 = .ok (.laload, 1) := by decide +kernel
theorem dL_law_580 : decode cL_law 580 = .ok (.iload 6, 2) := by decide +kernel
theorem dL_law_582 : decode cL_law 582 = .ok (.i2l, 1) := by decide +kernel
theorem dL_law_583 : decode cL_law 583 = .ok (.lcmp, 1) := by decide +kernel
theorem dL_law_584 : decode cL_law 584 = .ok (.ifCond .eq 5, 3) := by decide +kernel
theorem dL_law_587 : decode cL_law 587 = .ok (.iconst 0, 1) := by decide +kernel
theorem dL_law_588 : decode cL_law 588 = .ok (.ireturn, 1) := by decide +kernel
theorem dL_law_589 : decode cL_law 589 = .ok (.goto 824, 3) := by decide +kernel
theorem dL_law_592 : decode cL_law 592 = .ok (.aload_n 1, 1) := by decide +kernel
theorem dL_law_593 : decode cL_law 593 = .ok (.aload_n 0, 1) := by decide +kernel
theorem dL_law_594 : decode cL_law 594 = .ok (.iload 4, 2) := by decide +kernel
theorem dL_law_596 : decode cL_law 596 = .ok (.iconst 1, 1) := by decide +kernel
theorem dL_law_597 : decode cL_law 597 = .ok (.iadd, 1) := by decide +kernel
theorem dL_law_598 : decode cL_law 598 = .ok (.iaload, 1) := by decide +kernel
theorem dL_law_599 : decode cL_law 599 = .ok (.aload_n 3, 1) := by decide +kernel
theorem dL_law_600 : decode cL_law 600 = .ok (.invokestatic 111, 3) := by decide +kernel
theorem dL_law_603 : decode cL_law 603 = .ok (.istore 5, 2) := by decide +kernel
theorem dL_law_605 : decode cL_law 605 = .ok (.aload_n 2, 1) := by decide +kernel
theorem dL_law_606 : decode cL_law 606 = .ok (.aload_n 0, 1) := by decide +kernel
theorem dL_law_607 : decode cL_law 607 = .ok (.iload 4, 2) := by decide +kernel
theorem dL_law_609 : decode cL_law 609 = .ok (.iconst 1, 1) := by decide +kernel
theorem dL_law_610 : decode cL_law 610 = .ok (.iadd, 1) := by decide +kernel
theorem dL_law_611 : decode cL_law 611 = .ok (.iaload, 1) := by decide +kernel
theorem dL_law_612 : decode cL_law 612 = .ok (.invokevirtual 113, 3) := by decide +kernel
theorem dL_law_615 : decode cL_law 615 = .ok (.istore 6, 2) := by decide +kernel
theorem dL_law_617 : decode cL_law 617 = .ok (.aload_n 2, 1) := by decide +kernel
theorem dL_law_618 : decode cL_law 618 = .ok (.invokevirtual 86, 3) := by decide +kernel
theorem dL_law_621 : decode cL_law 621 = .ok (.iload 5, 2) := by decide +kernel
theorem dL_law_623 : decode cL_law 623 = .ok (.if_icmp .eq 5, 3) := by decide +kernel
theorem dL_law_626 : decode cL_law 626 = .ok (.iconst 0, 1) := by decide +kernel
theorem dL_law_627 : decode cL_law 627 = .ok (.ireturn, 1) := by decide +kernel
theorem dL_law_628 : decode cL_law 628 = .ok (.iload 5, 2) := by decide +kernel
theorem dL_law_630 : decode cL_law 630 = .ok (.ifCond .ne 15, 3) := by decide +kernel
theorem dL_law_633 : decode cL_law 633 = .ok (.aload_n 3, 1) := by decide +kernel
theorem dL_law_634 : decode cL_law 634 = .ok (.iconst 0, 1) := by decide +kernel
theorem dL_law_635 : decode cL_law 635 = .ok (.laload, 1) := by decide +kernel
theorem dL_law_636 : decode cL_law 636 = .ok (.iload 6, 2) := by decide +kernel
theorem dL_law_638 : decode cL_law 638 = .ok (.i2l, 1) := by decide +kernel
theorem dL_law_639 : decode cL_law 639 = .ok (.lcmp, 1) := by decide +kernel
theorem dL_law_640 : decode cL_law 640 = .ok (.ifCond .eq 5, 3) := by decide +kernel
theorem dL_law_643 : decode cL_law 643 = .ok (.iconst 0, 1) := by decide +kernel
theorem dL_law_644 : decode cL_law 644 = .ok (.ireturn, 1) := by decide +kernel
theorem dL_law_645 : decode cL_law 645 = .ok (.goto 768, 3) := by decide +kernel
theorem dL_law_648 : decode cL_law 648 = .ok (.aload_n 1, 1) := by decide +kernel
theorem dL_law_649 : decode cL_law 649 = .ok (.aload_n 0, 1) := by decide +kernel
theorem dL_law_650 : decode cL_law 650 = .ok (.iload 4, 2) := by decide +kernel
theorem dL_law_652 : decode cL_law 652 = .ok (.iconst 1, 1) := by decide +kernel
theorem dL_law_653 : decode cL_law 653 = .ok (.iadd, 1) := by decide +kernel
theorem dL_law_654 : decode cL_law 654 = .ok (.iaload, 1) := by decide +kernel
theorem dL_law_655 : decode cL_law 655 = .ok (.aload_n 0, 1) := by decide +kernel
theorem dL_law_656 : decode cL_law 656 = .ok (.iload 4, 2) := by decide +kernel
theorem dL_law_658 : decode cL_law 658 = .ok (.iconst 2, 1) := by decide +kernel
theorem dL_law_659 : decode cL_law 659 = .ok (.iadd, 1) := by decide +kernel
theorem dL_law_660 : decode cL_law 660 = .ok (.iaload, 1) := by decide +kernel
theorem dL_law_661 : decode cL_law 661 = .ok (.aload_n 0, 1) := by decide +kernel
theorem dL_law_662 : decode cL_law 662 = .ok (.iload 4, 2) := by decide +kernel
theorem dL_law_664 : decode cL_law 664 = .ok (.iconst 3, 1) := by decide +kernel
theorem dL_law_665 : decode cL_law 665 = .ok (.iadd, 1) := by decide +kernel
theorem dL_law_666 : decode cL_law 666 = .ok (.iaload, 1) := by decide +kernel
theorem dL_law_667 : decode cL_law 667 = .ok (.aload_n 0, 1) := by decide +kernel
theorem dL_law_668 : decode cL_law 668 = .ok (.iload 4, 2) := by decide +kernel
theorem dL_law_670 : decode cL_law 670 = .ok (.iconst 4, 1) := by decide +kernel
theorem dL_law_671 : decode cL_law 671 = .ok (.iadd, 1) := by decide +kernel
theorem dL_law_672 : decode cL_law 672 = .ok (.iaload, 1) := by decide +kernel
theorem dL_law_673 : decode cL_law 673 = .ok (.aload_n 3, 1) := by decide +kernel
theorem dL_law_674 : decode cL_law 674 = .ok (.invokestatic 114, 3) := by decide +kernel
theorem dL_law_677 : decode cL_law 677 = .ok (.istore 5, 2) := by decide +kernel
theorem dL_law_679 : decode cL_law 679 = .ok (.aload_n 2, 1) := by decide +kernel
theorem dL_law_680 : decode cL_law 680 = .ok (.aload_n 0, 1) := by decide +kernel
theorem dL_law_681 : decode cL_law 681 = .ok (.iload 4, 2) := by decide +kernel
theorem dL_law_683 : decode cL_law 683 = .ok (.iconst 1, 1) := by decide +kernel
theorem dL_law_684 : decode cL_law 684 = .ok (.iadd, 1) := by decide +kernel
theorem dL_law_685 : decode cL_law 685 = .ok (.iaload, 1) := by decide +kernel
theorem dL_law_686 : decode cL_law 686 = .ok (.aload_n 0, 1) := by decide +kernel
theorem dL_law_687 : decode cL_law 687 = .ok (.iload 4, 2) := by decide +kernel
theorem dL_law_689 : decode cL_law 689 = .ok (.iconst 2, 1) := by decide +kernel
theorem dL_law_690 : decode cL_law 690 = .ok (.iadd, 1) := by decide +kernel
theorem dL_law_691 : decode cL_law 691 = .ok (.iaload, 1) := by decide +kernel
theorem dL_law_692 : decode cL_law 692 = .ok (.aload_n 0, 1) := by decide +kernel
theorem dL_law_693 : decode cL_law 693 = .ok (.iload 4, 2) := by decide +kernel
theorem dL_law_695 : decode cL_law 695 = .ok (.iconst 3, 1) := by decide +kernel
theorem dL_law_696 : decode cL_law 696 = .ok (.iadd, 1) := by decide +kernel
theorem dL_law_697 : decode cL_law 697 = .ok (.iaload, 1) := by decide +kernel
theorem dL_law_698 : decode cL_law 698 = .ok (.aload_n 0, 1) := by decide +kernel
theorem dL_law_699 : decode cL_law 699 = .ok (.iload 4, 2) := by decide +kernel
theorem dL_law_701 : decode cL_law 701 = .ok (.iconst 4, 1) := by decide +kernel
theorem dL_law_702 : decode cL_law 702 = .ok (.iadd, 1) := by decide +kernel
theorem dL_law_703 : decode cL_law 703 = .ok (.iaload, 1) := by decide +kernel
theorem dL_law_704 : decode cL_law 704 = .ok (.invokevirtual 117, 3) := by decide +kernel
theorem dL_law_707 : decode cL_law 707 = .ok (.istore 6, 2) := by decide +kernel
theorem dL_law_709 : decode cL_law 709 = .ok (.aload_n 2, 1) := by decide +kernel
theorem dL_law_710 : decode cL_law 710 = .ok (.invokevirtual 86, 3) := by decide +kernel
theorem dL_law_713 : decode cL_law 713 = .ok (.iload 5, 2) := by decide +kernel
theorem dL_law_715 : decode cL_law 715 = .ok (.if_icmp .eq 5, 3) := by decide +kernel
theorem dL_law_718 : decode cL_law 718 = .ok (.iconst 0, 1) := by decide +kernel
theorem dL_law_719 : decode cL_law 719 = .ok (.ireturn, 1) := by decide +kernel
theorem dL_law_720 : decode cL_law 720 = .ok (.iload 5, 2) := by decide +kernel
theorem dL_law_722 : decode cL_law 722 = .ok (.ifCond .ne 15, 3) := by decide +kernel
theorem dL_law_725 : decode cL_law 725 = .ok (.aload_n 3, 1) := by decide +kernel
theorem dL_law_726 : decode cL_law 726 = .ok (.iconst 0, 1) := by decide +kernel
theorem dL_law_727 : decode cL_law 727 = .ok (.laload, 1) := by decide +kernel
theorem dL_law_728 : decode cL_law 728 = .ok (.iload 6, 2) := by decide +kernel
theorem dL_law_730 : decode cL_law 730 = .ok (.i2l, 1) := by decide +kernel
theorem dL_law_731 : decode cL_law 731 = .ok (.lcmp, 1) := by decide +kernel
theorem dL_law_732 : decode cL_law 732 = .ok (.ifCond .eq 5, 3) := by decide +kernel
theorem dL_law_735 : decode cL_law 735 = .ok (.iconst 0, 1) := by decide +kernel
theorem dL_law_736 : decode cL_law 736 = .ok (.ireturn, 1) := by decide +kernel
theorem dL_law_737 : decode cL_law 737 = .ok (.goto 676, 3) := by decide +kernel
theorem dL_law_740 : decode cL_law 740 = .ok (.aload_n 1, 1) := by decide +kernel
theorem dL_law_741 : decode cL_law 741 = .ok (.aload_n 0, 1) := by decide +kernel
theorem dL_law_742 : decode cL_law 742 = .ok (.iload 4, 2) := by decide +kernel
theorem dL_law_744 : decode cL_law 744 = .ok (.iconst 1, 1) := by decide +kernel
theorem dL_law_745 : decode cL_law 745 = .ok (.iadd, 1) := by decide +kernel
theorem dL_law_746 : decode cL_law 746 = .ok (.iaload, 1) := by decide +kernel
theorem dL_law_747 : decode cL_law 747 = .ok (.aload_n 0, 1) := by decide +kernel
theorem dL_law_748 : decode cL_law 748 = .ok (.iload 4, 2) := by decide +kernel
theorem dL_law_750 : decode cL_law 750 = .ok (.iconst 2, 1) := by decide +kernel
theorem dL_law_751 : decode cL_law 751 = .ok (.iadd, 1) := by decide +kernel
theorem dL_law_752 : decode cL_law 752 = .ok (.iaload, 1) := by decide +kernel
theorem dL_law_753 : decode cL_law 753 = .ok (.aload_n 0, 1) := by decide +kernel
theorem dL_law_754 : decode cL_law 754 = .ok (.iload 4, 2) := by decide +kernel
theorem dL_law_756 : decode cL_law 756 = .ok (.iconst 3, 1) := by decide +kernel
theorem dL_law_757 : decode cL_law 757 = .ok (.iadd, 1) := by decide +kernel
theorem dL_law_758 : decode cL_law 758 = .ok (.iaload, 1) := by decide +kernel
theorem dL_law_759 : decode cL_law 759 = .ok (.aload_n 0, 1) := by decide +kernel
theorem dL_law_760 : decode cL_law 760 = .ok (.iload 4, 2) := by decide +kernel
theorem dL_law_762 : decode cL_law 762 = .ok (.iconst 4, 1) := by decide +kernel
theorem dL_law_763 : decode cL_law 763 = .ok (.iadd, 1) := by decide +kernel
theorem dL_law_764 : decode cL_law 764 = .ok (.iaload, 1) := by decide +kernel
theorem dL_law_765 : decode cL_law 765 = .ok (.aload_n 3, 1) := by decide +kernel
theorem dL_law_766 : decode cL_law 766 = .ok (.invokestatic 118, 3) := by decide +kernel
theorem dL_law_769 : decode cL_law 769 = .ok (.istore 5, 2) := by decide +kernel
theorem dL_law_771 : decode cL_law 771 = .ok (.aload_n 2, 1) := by decide +kernel
theorem dL_law_772 : decode cL_law 772 = .ok (.aload_n 0, 1) := by decide +kernel
theorem dL_law_773 : decode cL_law 773 = .ok (.iload 4, 2) := by decide +kernel
theorem dL_law_775 : decode cL_law 775 = .ok (.iconst 1, 1) := by decide +kernel
theorem dL_law_776 : decode cL_law 776 = .ok (.iadd, 1) := by decide +kernel
theorem dL_law_777 : decode cL_law 777 = .ok (.iaload, 1) := by decide +kernel
theorem dL_law_778 : decode cL_law 778 = .ok (.aload_n 0, 1) := by decide +kernel
theorem dL_law_779 : decode cL_law 779 = .ok (.iload 4, 2) := by decide +kernel
theorem dL_law_781 : decode cL_law 781 = .ok (.iconst 2, 1) := by decide +kernel
theorem dL_law_782 : decode cL_law 782 = .ok (.iadd, 1) := by decide +kernel
theorem dL_law_783 : decode cL_law 783 = .ok (.iaload, 1) := by decide +kernel
theorem dL_law_784 : decode cL_law 784 = .ok (.aload_n 0, 1) := by decide +kernel
theorem dL_law_785 : decode cL_law 785 = .ok (.iload 4, 2) := by decide +kernel
theorem dL_law_787 : decode cL_law 787 = .ok (.iconst 3, 1) := by decide +kernel
theorem dL_law_788 : decode cL_law 788 = .ok (.iadd, 1) := by decide +kernel
theorem dL_law_789 : decode cL_law 789 = .ok (.iaload, 1) := by decide +kernel
theorem dL_law_790 : decode cL_law 790 = .ok (.aload_n 0, 1) := by decide +kernel
theorem dL_law_791 : decode cL_law 791 = .ok (.iload 4, 2) := by decide +kernel
theorem dL_law_793 : decode cL_law 793 = .ok (.iconst 4, 1) := by decide +kernel
theorem dL_law_794 : decode cL_law 794 = .ok (.iadd, 1) := by decide +kernel
theorem dL_law_795 : decode cL_law 795 = .ok (.iaload, 1) := by decide +kernel
theorem dL_law_796 : decode cL_law 796 = .ok (.invokevirtual 120, 3) := by decide +kernel
theorem dL_law_799 : decode cL_law 799 = .ok (.istore 6, 2) := by decide +kernel
theorem dL_law_801 : decode cL_law 801 = .ok (.aload_n 2, 1) := by decide +kernel
theorem dL_law_802 : decode cL_law 802 = .ok (.invokevirtual 86, 3) := by decide +kernel
theorem dL_law_805 : decode cL_law 805 = .ok (.iload 5, 2) := by decide +kernel
theorem dL_law_807 : decode cL_law 807 = .ok (.if_icmp .eq 5, 3) := by decide +kernel
theorem dL_law_810 : decode cL_law 810 = .ok (.iconst 0, 1) := by decide +kernel
theorem dL_law_811 : decode cL_law 811 = .ok (.ireturn, 1) := by decide +kernel
theorem dL_law_812 : decode cL_law 812 = .ok (.iload 5, 2) := by decide +kernel
theorem dL_law_814 : decode cL_law 814 = .ok (.ifCond .ne 15, 3) := by decide +kernel
theorem dL_law_817 : decode cL_law 817 = .ok (.aload_n 3, 1) := by decide +kernel
theorem dL_law_818 : decode cL_law 818 = .ok (.iconst 0, 1) := by decide +kernel
theorem dL_law_819 : decode cL_law 819 = .ok (.laload, 1) := by decide +kernel
theorem dL_law_820 : decode cL_law 820 = .ok (.iload 6, 2) := by decide +kernel
theorem dL_law_822 : decode cL_law 822 = .ok (.i2l, 1) := by decide +kernel
theorem dL_law_823 : decode cL_law 823 = .ok (.lcmp, 1) := by decide +kernel
theorem dL_law_824 : decode cL_law 824 = .ok (.ifCond .eq 5, 3) := by decide +kernel
theorem dL_law_827 : decode cL_law 827 = .ok (.iconst 0, 1) := by decide +kernel
theorem dL_law_828 : decode cL_law 828 = .ok (.ireturn, 1) := by decide +kernel
theorem dL_law_829 : decode cL_law 829 = .ok (.goto 584, 3) := by decide +kernel
theorem dL_law_832 : decode cL_law 832 = .ok (.aload_n 1, 1) := by decide +kernel
theorem dL_law_833 : decode cL_law 833 = .ok (.aload_n 0, 1) := by decide +kernel
theorem dL_law_834 : decode cL_law 834 = .ok (.iload 4, 2) := by decide +kernel
theorem dL_law_836 : decode cL_law 836 = .ok (.iconst 1, 1) := by decide +kernel
theorem dL_law_837 : decode cL_law 837 = .ok (.iadd, 1) := by decide +kernel
theorem dL_law_838 : decode cL_law 838 = .ok (.iaload, 1) := by decide +kernel
theorem dL_law_839 : decode cL_law 839 = .ok (.aload_n 0, 1) := by decide +kernel
theorem dL_law_840 : decode cL_law 840 = .ok (.iload 4, 2) := by decide +kernel
theorem dL_law_842 : decode cL_law 842 = .ok (.iconst 2, 1) := by decide +kernel
theorem dL_law_843 : decode cL_law 843 = .ok (.iadd, 1) := by decide +kernel
theorem dL_law_844 : decode cL_law 844 = .ok (.iaload, 1) := by decide +kernel
theorem dL_law_845 : decode cL_law 845 = .ok (.aload_n 0, 1) := by decide +kernel
theorem dL_law_846 : decode cL_law 846 = .ok (.iload 4, 2) := by decide +kernel
theorem dL_law_848 : decode cL_law 848 = .ok (.iconst 3, 1) := by decide +kernel
theorem dL_law_849 : decode cL_law 849 = .ok (.iadd, 1) := by decide +kernel
theorem dL_law_850 : decode cL_law 850 = .ok (.iaload, 1) := by decide +kernel
theorem dL_law_851 : decode cL_law 851 = .ok (.aload_n 0, 1) := by decide +kernel
theorem dL_law_852 : decode cL_law 852 = .ok (.iload 4, 2) := by decide +kernel
theorem dL_law_854 : decode cL_law 854 = .ok (.iconst 4, 1) := by decide +kernel
theorem dL_law_855 : decode cL_law 855 = .ok (.iadd, 1) := by decide +kernel
theorem dL_law_856 : decode cL_law 856 = .ok (.iaload, 1) := by decide +kernel
theorem dL_law_857 : decode cL_law 857 = .ok (.aload_n 3, 1) := by decide +kernel
theorem dL_law_858 : decode cL_law 858 = .ok (.invokestatic 121, 3) := by decide +kernel
theorem dL_law_861 : decode cL_law 861 = .ok (.istore 5, 2) := by decide +kernel
theorem dL_law_863 : decode cL_law 863 = .ok (.aload_n 2, 1) := by decide +kernel
theorem dL_law_864 : decode cL_law 864 = .ok (.aload_n 0, 1) := by decide +kernel
theorem dL_law_865 : decode cL_law 865 = .ok (.iload 4, 2) := by decide +kernel
theorem dL_law_867 : decode cL_law 867 = .ok (.iconst 1, 1) := by decide +kernel
theorem dL_law_868 : decode cL_law 868 = .ok (.iadd, 1) := by decide +kernel
theorem dL_law_869 : decode cL_law 869 = .ok (.iaload, 1) := by decide +kernel
theorem dL_law_870 : decode cL_law 870 = .ok (.aload_n 0, 1) := by decide +kernel
theorem dL_law_871 : decode cL_law 871 = .ok (.iload 4, 2) := by decide +kernel
theorem dL_law_873 : decode cL_law 873 = .ok (.iconst 2, 1) := by decide +kernel
theorem dL_law_874 : decode cL_law 874 = .ok (.iadd, 1) := by decide +kernel
theorem dL_law_875 : decode cL_law 875 = .ok (.iaload, 1) := by decide +kernel
theorem dL_law_876 : decode cL_law 876 = .ok (.aload_n 0, 1) := by decide +kernel
theorem dL_law_877 : decode cL_law 877 = .ok (.iload 4, 2) := by decide +kernel
theorem dL_law_879 : decode cL_law 879 = .ok (.iconst 3, 1) := by decide +kernel
theorem dL_law_880 : decode cL_law 880 = .ok (.iadd, 1) := by decide +kernel
theorem dL_law_881 : decode cL_law 881 = .ok (.iaload, 1) := by decide +kernel
theorem dL_law_882 : decode cL_law 882 = .ok (.aload_n 0, 1) := by decide +kernel
theorem dL_law_883 : decode cL_law 883 = .ok (.iload 4, 2) := by decide +kernel
theorem dL_law_885 : decode cL_law 885 = .ok (.iconst 4, 1) := by decide +kernel
theorem dL_law_886 : decode cL_law 886 = .ok (.iadd, 1) := by decide +kernel
theorem dL_law_887 : decode cL_law 887 = .ok (.iaload, 1) := by decide +kernel
theorem dL_law_888 : decode cL_law 888 = .ok (.invokevirtual 123, 3) := by decide +kernel
theorem dL_law_891 : decode cL_law 891 = .ok (.istore 6, 2) := by decide +kernel
theorem dL_law_893 : decode cL_law 893 = .ok (.aload_n 2, 1) := by decide +kernel
theorem dL_law_894 : decode cL_law 894 = .ok (.invokevirtual 86, 3) := by decide +kernel
theorem dL_law_897 : decode cL_law 897 = .ok (.iload 5, 2) := by decide +kernel
theorem dL_law_899 : decode cL_law 899 = .ok (.if_icmp .eq 5, 3) := by decide +kernel
theorem dL_law_902 : decode cL_law 902 = .ok (.iconst 0, 1) := by decide +kernel
theorem dL_law_903 : decode cL_law 903 = .ok (.ireturn, 1) := by decide +kernel
theorem dL_law_904 : decode cL_law 904 = .ok (.iload 5, 2) := by decide +kernel
theorem dL_law_906 : decode cL_law 906 = .ok (.ifCond .ne 15, 3) := by decide +kernel
theorem dL_law_909 : decode cL_law 909 = .ok (.aload_n 3, 1) := by decide +kernel
theorem dL_law_910 : decode cL_law 910 = .ok (.iconst 0, 1) := by decide +kernel
theorem dL_law_911 : decode cL_law 911 = .ok (.laload, 1) := by decide +kernel
theorem dL_law_912 : decode cL_law 912 = .ok (.iload 6, 2) := by decide +kernel
theorem dL_law_914 : decode cL_law 914 = .ok (.i2l, 1) := by decide +kernel
theorem dL_law_915 : decode cL_law 915 = .ok (.lcmp, 1) := by decide +kernel
theorem dL_law_916 : decode cL_law 916 = .ok (.ifCond .eq 5, 3) := by decide +kernel
theorem dL_law_919 : decode cL_law 919 = .ok (.iconst 0, 1) := by decide +kernel
theorem dL_law_920 : decode cL_law 920 = .ok (.ireturn, 1) := by decide +kernel
theorem dL_law_921 : decode cL_law 921 = .ok (.goto 492, 3) := by decide +kernel
theorem dL_law_924 : decode cL_law 924 = .ok (.aload_n 1, 1) := by decide +kernel
theorem dL_law_925 : decode cL_law 925 = .ok (.aload_n 0, 1) := by decide +kernel
theorem dL_law_926 : decode cL_law 926 = .ok (.iload 4, 2) := by decide +kernel
theorem dL_law_928 : decode cL_law 928 = .ok (.iconst 1, 1) := by decide +kernel
theorem dL_law_929 : decode cL_law 929 = .ok (.iadd, 1) := by decide +kernel
theorem dL_law_930 : decode cL_law 930 = .ok (.iaload, 1) := by decide +kernel
theorem dL_law_931 : decode cL_law 931 = .ok (.aload_n 0, 1) := by decide +kernel
theorem dL_law_932 : decode cL_law 932 = .ok (.iload 4, 2) := by decide +kernel
theorem dL_law_934 : decode cL_law 934 = .ok (.iconst 2, 1) := by decide +kernel
theorem dL_law_935 : decode cL_law 935 = .ok (.iadd, 1) := by decide +kernel
theorem dL_law_936 : decode cL_law 936 = .ok (.iaload, 1) := by decide +kernel
theorem dL_law_937 : decode cL_law 937 = .ok (.aload_n 0, 1) := by decide +kernel
theorem dL_law_938 : decode cL_law 938 = .ok (.iload 4, 2) := by decide +kernel
theorem dL_law_940 : decode cL_law 940 = .ok (.iconst 3, 1) := by decide +kernel
theorem dL_law_941 : decode cL_law 941 = .ok (.iadd, 1) := by decide +kernel
theorem dL_law_942 : decode cL_law 942 = .ok (.iaload, 1) := by decide +kernel
theorem dL_law_943 : decode cL_law 943 = .ok (.aload_n 0, 1) := by decide +kernel
theorem dL_law_944 : decode cL_law 944 = .ok (.iload 4, 2) := by decide +kernel
theorem dL_law_946 : decode cL_law 946 = .ok (.iconst 4, 1) := by decide +kernel
theorem dL_law_947 : decode cL_law 947 = .ok (.iadd, 1) := by decide +kernel
theorem dL_law_948 : decode cL_law 948 = .ok (.iaload, 1) := by decide +kernel
theorem dL_law_949 : decode cL_law 949 = .ok (.aload_n 3, 1) := by decide +kernel
theorem dL_law_950 : decode cL_law 950 = .ok (.invokestatic 124, 3) := by decide +kernel
theorem dL_law_953 : decode cL_law 953 = .ok (.istore 5, 2) := by decide +kernel
theorem dL_law_955 : decode cL_law 955 = .ok (.aload_n 2, 1) := by decide +kernel
theorem dL_law_956 : decode cL_law 956 = .ok (.aload_n 0, 1) := by decide +kernel
theorem dL_law_957 : decode cL_law 957 = .ok (.iload 4, 2) := by decide +kernel
theorem dL_law_959 : decode cL_law 959 = .ok (.iconst 1, 1) := by decide +kernel
theorem dL_law_960 : decode cL_law 960 = .ok (.iadd, 1) := by decide +kernel
theorem dL_law_961 : decode cL_law 961 = .ok (.iaload, 1) := by decide +kernel
theorem dL_law_962 : decode cL_law 962 = .ok (.aload_n 0, 1) := by decide +kernel
theorem dL_law_963 : decode cL_law 963 = .ok (.iload 4, 2) := by decide +kernel
theorem dL_law_965 : decode cL_law 965 = .ok (.iconst 2, 1) := by decide +kernel
theorem dL_law_966 : decode cL_law 966 = .ok (.iadd, 1) := by decide +kernel
theorem dL_law_967 : decode cL_law 967 = .ok (.iaload, 1) := by decide +kernel
theorem dL_law_968 : decode cL_law 968 = .ok (.aload_n 0, 1) := by decide +kernel
theorem dL_law_969 : decode cL_law 969 = .ok (.iload 4, 2) := by decide +kernel
theorem dL_law_971 : decode cL_law 971 = .ok (.iconst 3, 1) := by decide +kernel
theorem dL_law_972 : decode cL_law 972 = .ok (.iadd, 1) := by decide +kernel
theorem dL_law_973 : decode cL_law 973 = .ok (.iaload, 1) := by decide +kernel
theorem dL_law_974 : decode cL_law 974 = .ok (.aload_n 0, 1) := by decide +kernel
theorem dL_law_975 : decode cL_law 975 = .ok (.iload 4, 2) := by decide +kernel
theorem dL_law_977 : decode cL_law 977 = .ok (.iconst 4, 1) := by decide +kernel
theorem dL_law_978 : decode cL_law 978 = .ok (.iadd, 1) := by decide +kernel
theorem dL_law_979 : decode cL_law 979 = .ok (.iaload, 1) := by decide +kernel
theorem dL_law_980 : decode cL_law 980 = .ok (.invokevirtual 126, 3) := by decide +kernel
theorem dL_law_983 : decode cL_law 983 = .ok (.istore 6, 2) := by decide +kernel
theorem dL_law_985 : decode cL_law 985 = .ok (.aload_n 2, 1) := by decide +kernel
theorem dL_law_986 : decode cL_law 986 = .ok (.invokevirtual 86, 3) := by decide +kernel
theorem dL_law_989 : decode cL_law 989 = .ok (.iload 5, 2) := by decide +kernel
theorem dL_law_991 : decode cL_law 991 = .ok (.if_icmp .eq 5, 3) := by decide +kernel
theorem dL_law_994 : decode cL_law 994 = .ok (.iconst 0, 1) := by decide +kernel
theorem dL_law_995 : decode cL_law 995 = .ok (.ireturn, 1) := by decide +kernel
theorem dL_law_996 : decode cL_law 996 = .ok (.iload 5, 2) := by decide +kernel
theorem dL_law_998 : decode cL_law 998 = .ok (.ifCond .ne 15, 3) := by decide +kernel
theorem dL_law_1001 : decode cL_law 1001 = .ok (.aload_n 3, 1) := by decide +kernel
theorem dL_law_1002 : decode cL_law 1002 = .ok (.iconst 0, 1) := by decide +kernel
theorem dL_law_1003 : decode cL_law 1003 = .ok (.laload, 1) := by decide +kernel
theorem dL_law_1004 : decode cL_law 1004 = .ok (.iload 6, 2) := by decide +kernel
theorem dL_law_1006 : decode cL_law 1006 = .ok (.i2l, 1) := by decide +kernel
theorem dL_law_1007 : decode cL_law 1007 = .ok (.lcmp, 1) := by decide +kernel
theorem dL_law_1008 : decode cL_law 1008 = .ok (.ifCond .eq 5, 3) := by decide +kernel
theorem dL_law_1011 : decode cL_law 1011 = .ok (.iconst 0, 1) := by decide +kernel
theorem dL_law_1012 : decode cL_law 1012 = .ok (.ireturn, 1) := by decide +kernel
theorem dL_law_1013 : decode cL_law 1013 = .ok (.goto 400, 3) := by decide +kernel
theorem dL_law_1016 : decode cL_law 1016 = .ok (.aload_n 1, 1) := by decide +kernel
theorem dL_law_1017 : decode cL_law 1017 = .ok (.aload_n 0, 1) := by decide +kernel
theorem dL_law_1018 : decode cL_law 1018 = .ok (.iload 4, 2) := by decide +kernel
theorem dL_law_1020 : decode cL_law 1020 = .ok (.iconst 1, 1) := by decide +kernel
theorem dL_law_1021 : decode cL_law 1021 = .ok (.iadd, 1) := by decide +kernel
theorem dL_law_1022 : decode cL_law 1022 = .ok (.iaload, 1) := by decide +kernel
theorem dL_law_1023 : decode cL_law 1023 = .ok (.aload_n 0, 1) := by decide +kernel
theorem dL_law_1024 : decode cL_law 1024 = .ok (.iload 4, 2) := by decide +kernel
theorem dL_law_1026 : decode cL_law 1026 = .ok (.iconst 2, 1) := by decide +kernel
theorem dL_law_1027 : decode cL_law 1027 = .ok (.iadd, 1) := by decide +kernel
theorem dL_law_1028 : decode cL_law 1028 = .ok (.iaload, 1) := by decide +kernel
theorem dL_law_1029 : decode cL_law 1029 = .ok (.aload_n 0, 1) := by decide +kernel
theorem dL_law_1030 : decode cL_law 1030 = .ok (.iload 4, 2) := by decide +kernel
theorem dL_law_1032 : decode cL_law 1032 = .ok (.iconst 3, 1) := by decide +kernel
theorem dL_law_1033 : decode cL_law 1033 = .ok (.iadd, 1) := by decide +kernel
theorem dL_law_1034 : decode cL_law 1034 = .ok (.iaload, 1) := by decide +kernel
theorem dL_law_1035 : decode cL_law 1035 = .ok (.aload_n 0, 1) := by decide +kernel
theorem dL_law_1036 : decode cL_law 1036 = .ok (.iload 4, 2) := by decide +kernel
theorem dL_law_1038 : decode cL_law 1038 = .ok (.iconst 4, 1) := by decide +kernel
theorem dL_law_1039 : decode cL_law 1039 = .ok (.iadd, 1) := by decide +kernel
theorem dL_law_1040 : decode cL_law 1040 = .ok (.iaload, 1) := by decide +kernel
theorem dL_law_1041 : decode cL_law 1041 = .ok (.aload_n 3, 1) := by decide +kernel
theorem dL_law_1042 : decode cL_law 1042 = .ok (.invokestatic 127, 3) := by decide +kernel
theorem dL_law_1045 : decode cL_law 1045 = .ok (.istore 5, 2) := by decide +kernel
theorem dL_law_1047 : decode cL_law 1047 = .ok (.aload_n 2, 1) := by decide +kernel
theorem dL_law_1048 : decode cL_law 1048 = .ok (.aload_n 0, 1) := by decide +kernel
theorem dL_law_1049 : decode cL_law 1049 = .ok (.iload 4, 2) := by decide +kernel
theorem dL_law_1051 : decode cL_law 1051 = .ok (.iconst 1, 1) := by decide +kernel
theorem dL_law_1052 : decode cL_law 1052 = .ok (.iadd, 1) := by decide +kernel
theorem dL_law_1053 : decode cL_law 1053 = .ok (.iaload, 1) := by decide +kernel
theorem dL_law_1054 : decode cL_law 1054 = .ok (.aload_n 0, 1) := by decide +kernel
theorem dL_law_1055 : decode cL_law 1055 = .ok (.iload 4, 2) := by decide +kernel
theorem dL_law_1057 : decode cL_law 1057 = .ok (.iconst 2, 1) := by decide +kernel
theorem dL_law_1058 : decode cL_law 1058 = .ok (.iadd, 1) := by decide +kernel
theorem dL_law_1059 : decode cL_law 1059 = .ok (.iaload, 1) := by decide +kernel
theorem dL_law_1060 : decode cL_law 1060 = .ok (.aload_n 0, 1) := by decide +kernel
theorem dL_law_1061 : decode cL_law 1061 = .ok (.iload 4, 2) := by decide +kernel
theorem dL_law_1063 : decode cL_law 1063 = .ok (.iconst 3, 1) := by decide +kernel
theorem dL_law_1064 : decode cL_law 1064 = .ok (.iadd, 1) := by decide +kernel
theorem dL_law_1065 : decode cL_law 1065 = .ok (.iaload, 1) := by decide +kernel
theorem dL_law_1066 : decode cL_law 1066 = .ok (.aload_n 0, 1) := by decide +kernel
theorem dL_law_1067 : decode cL_law 1067 = .ok (.iload 4, 2) := by decide +kernel
theorem dL_law_1069 : decode cL_law 1069 = .ok (.iconst 4, 1) := by decide +kernel
theorem dL_law_1070 : decode cL_law 1070 = .ok (.iadd, 1) := by decide +kernel
theorem dL_law_1071 : decode cL_law 1071 = .ok (.iaload, 1) := by decide +kernel
theorem dL_law_1072 : decode cL_law 1072 = .ok (.invokevirtual 129, 3) := by decide +kernel
theorem dL_law_1075 : decode cL_law 1075 = .ok (.istore 6, 2) := by decide +kernel
theorem dL_law_1077 : decode cL_law 1077 = .ok (.aload_n 2, 1) := by decide +kernel
theorem dL_law_1078 : decode cL_law 1078 = .ok (.invokevirtual 86, 3) := by decide +kernel
theorem dL_law_1081 : decode cL_law 1081 = .ok (.iload 5, 2) := by decide +kernel
theorem dL_law_1083 : decode cL_law 1083 = .ok (.if_icmp .eq 5, 3) := by decide +kernel
theorem dL_law_1086 : decode cL_law 1086 = .ok (.iconst 0, 1) := by decide +kernel
theorem dL_law_1087 : decode cL_law 1087 = .ok (.ireturn, 1) := by decide +kernel
theorem dL_law_1088 : decode cL_law 1088 = .ok (.iload 5, 2) := by decide +kernel
theorem dL_law_1090 : decode cL_law 1090 = .ok (.ifCond .ne 22, 3) := by decide +kernel
theorem dL_law_1093 : decode cL_law 1093 = .ok (.aload_n 3, 1) := by decide +kernel
theorem dL_law_1094 : decode cL_law 1094 = .ok (.iconst 0, 1) := by decide +kernel
theorem dL_law_1095 : decode cL_law 1095 = .ok (.laload, 1) := by decide +kernel
theorem dL_law_1096 : decode cL_law 1096 = .ok (.iload 6, 2) := by decide +kernel
theorem dL_law_1098 : decode cL_law 1098 = .ok (.ifCond .eq 7, 3) := by decide +kernel
theorem dL_law_1101 : decode cL_law 1101 = .ok (.lconst 1, 1) := by decide +kernel
theorem dL_law_1102 : decode cL_law 1102 = .ok (.goto 4, 3) := by decide +kernel
theorem dL_law_1105 : decode cL_law 1105 = .ok (.lconst 0, 1) := by decide +kernel
theorem dL_law_1106 : decode cL_law 1106 = .ok (.lcmp, 1) := by decide +kernel
theorem dL_law_1107 : decode cL_law 1107 = .ok (.ifCond .eq 5, 3) := by decide +kernel
theorem dL_law_1110 : decode cL_law 1110 = .ok (.iconst 0, 1) := by decide +kernel
theorem dL_law_1111 : decode cL_law 1111 = .ok (.ireturn, 1) := by decide +kernel
theorem dL_law_1112 : decode cL_law 1112 = .ok (.goto 301, 3) := by decide +kernel
theorem dL_law_1115 : decode cL_law 1115 = .ok (.aload_n 1, 1) := by decide +kernel
theorem dL_law_1116 : decode cL_law 1116 = .ok (.aload_n 0, 1) := by decide +kernel
theorem dL_law_1117 : decode cL_law 1117 = .ok (.iload 4, 2) := by decide +kernel
theorem dL_law_1119 : decode cL_law 1119 = .ok (.iconst 1, 1) := by decide +kernel
theorem dL_law_1120 : decode cL_law 1120 = .ok (.iadd, 1) := by decide +kernel
theorem dL_law_1121 : decode cL_law 1121 = .ok (.iaload, 1) := by decide +kernel
theorem dL_law_1122 : decode cL_law 1122 = .ok (.aload_n 0, 1) := by decide +kernel
theorem dL_law_1123 : decode cL_law 1123 = .ok (.iload 4, 2) := by decide +kernel
theorem dL_law_1125 : decode cL_law 1125 = .ok (.iconst 2, 1) := by decide +kernel
theorem dL_law_1126 : decode cL_law 1126 = .ok (.iadd, 1) := by decide +kernel
theorem dL_law_1127 : decode cL_law 1127 = .ok (.iaload, 1) := by decide +kernel
theorem dL_law_1128 : decode cL_law 1128 = .ok (.aload_n 0, 1) := by decide +kernel
theorem dL_law_1129 : decode cL_law 1129 = .ok (.iload 4, 2) := by decide +kernel
theorem dL_law_1131 : decode cL_law 1131 = .ok (.iconst 3, 1) := by decide +kernel
theorem dL_law_1132 : decode cL_law 1132 = .ok (.iadd, 1) := by decide +kernel
theorem dL_law_1133 : decode cL_law 1133 = .ok (.iaload, 1) := by decide +kernel
theorem dL_law_1134 : decode cL_law 1134 = .ok (.aload_n 3, 1) := by decide +kernel
theorem dL_law_1135 : decode cL_law 1135 = .ok (.invokestatic 130, 3) := by decide +kernel
theorem dL_law_1138 : decode cL_law 1138 = .ok (.istore 5, 2) := by decide +kernel
theorem dL_law_1140 : decode cL_law 1140 = .ok (.aload_n 2, 1) := by decide +kernel
theorem dL_law_1141 : decode cL_law 1141 = .ok (.aload_n 0, 1) := by decide +kernel
theorem dL_law_1142 : decode cL_law 1142 = .ok (.iload 4, 2) := by decide +kernel
theorem dL_law_1144 : decode cL_law 1144 = .ok (.iconst 1, 1) := by decide +kernel
theorem dL_law_1145 : decode cL_law 1145 = .ok (.iadd, 1) := by decide +kernel
theorem dL_law_1146 : decode cL_law 1146 = .ok (.iaload, 1) := by decide +kernel
theorem dL_law_1147 : decode cL_law 1147 = .ok (.aload_n 0, 1) := by decide +kernel
theorem dL_law_1148 : decode cL_law 1148 = .ok (.iload 4, 2) := by decide +kernel
theorem dL_law_1150 : decode cL_law 1150 = .ok (.iconst 2, 1) := by decide +kernel
theorem dL_law_1151 : decode cL_law 1151 = .ok (.iadd, 1) := by decide +kernel
theorem dL_law_1152 : decode cL_law 1152 = .ok (.iaload, 1) := by decide +kernel
theorem dL_law_1153 : decode cL_law 1153 = .ok (.aload_n 0, 1) := by decide +kernel
theorem dL_law_1154 : decode cL_law 1154 = .ok (.iload 4, 2) := by decide +kernel
theorem dL_law_1156 : decode cL_law 1156 = .ok (.iconst 3, 1) := by decide +kernel
theorem dL_law_1157 : decode cL_law 1157 = .ok (.iadd, 1) := by decide +kernel
theorem dL_law_1158 : decode cL_law 1158 = .ok (.iaload, 1) := by decide +kernel
theorem dL_law_1159 : decode cL_law 1159 = .ok (.invokevirtual 133, 3) := by decide +kernel
theorem dL_law_1162 : decode cL_law 1162 = .ok (.istore 6, 2) := by decide +kernel
theorem dL_law_1164 : decode cL_law 1164 = .ok (.aload_n 2, 1) := by decide +kernel
theorem dL_law_1165 : decode cL_law 1165 = .ok (.invokevirtual 86, 3) := by decide +kernel
theorem dL_law_1168 : decode cL_law 1168 = .ok (.iload 5, 2) := by decide +kernel
theorem dL_law_1170 : decode cL_law 1170 = .ok (.if_icmp .eq 5, 3) := by decide +kernel
theorem dL_law_1173 : decode cL_law 1173 = .ok (.iconst 0, 1) := by decide +kernel
theorem dL_law_1174 : decode cL_law 1174 = .ok (.ireturn, 1) := by decide +kernel
theorem dL_law_1175 : decode cL_law 1175 = .ok (.iload 5, 2) := by decide +kernel
theorem dL_law_1177 : decode cL_law 1177 = .ok (.ifCond .ne 22, 3) := by decide +kernel
theorem dL_law_1180 : decode cL_law 1180 = .ok (.aload_n 3, 1) := by decide +kernel
theorem dL_law_1181 : decode cL_law 1181 = .ok (.iconst 0, 1) := by decide +kernel
theorem dL_law_1182 : decode cL_law 1182 = .ok (.laload, 1) := by decide +kernel
theorem dL_law_1183 : decode cL_law 1183 = .ok (.iload 6, 2) := by decide +kernel
theorem dL_law_1185 : decode cL_law 1185 = .ok (.ifCond .eq 7, 3) := by decide +kernel
theorem dL_law_1188 : decode cL_law 1188 = .ok (.lconst 1, 1) := by decide +kernel
theorem dL_law_1189 : decode cL_law 1189 = .ok (.goto 4, 3) := by decide +kernel
theorem dL_law_1192 : decode cL_law 1192 = .ok (.lconst 0, 1) := by decide +kernel
theorem dL_law_1193 : decode cL_law 1193 = .ok (.lcmp, 1) := by decide +kernel
theorem dL_law_1194 : decode cL_law 1194 = .ok (.ifCond .eq 5, 3) := by decide +kernel
theorem dL_law_1197 : decode cL_law 1197 = .ok (.iconst 0, 1) := by decide +kernel
theorem dL_law_1198 : decode cL_law 1198 = .ok (.ireturn, 1) := by decide +kernel
theorem dL_law_1199 : decode cL_law 1199 = .ok (.goto 214, 3) := by decide +kernel
theorem dL_law_1202 : decode cL_law 1202 = .ok (.aload_n 1, 1) := by decide +kernel
theorem dL_law_1203 : decode cL_law 1203 = .ok (.aload_n 0, 1) := by decide +kernel
theorem dL_law_1204 : decode cL_law 1204 = .ok (.iload 4, 2) := by decide +kernel
theorem dL_law_1206 : decode cL_law 1206 = .ok (.iconst 1, 1) := by decide +kernel
theorem dL_law_1207 : decode cL_law 1207 = .ok (.iadd, 1) := by decide +kernel
theorem dL_law_1208 : decode cL_law 1208 = .ok (.iaload, 1) := by decide +kernel
theorem dL_law_1209 : decode cL_law 1209 = .ok (.aload_n 0, 1) := by decide +kernel
theorem dL_law_1210 : decode cL_law 1210 = .ok (.iload 4, 2) := by decide +kernel
theorem dL_law_1212 : decode cL_law 1212 = .ok (.iconst 2, 1) := by decide +kernel
theorem dL_law_1213 : decode cL_law 1213 = .ok (.iadd, 1) := by decide +kernel
theorem dL_law_1214 : decode cL_law 1214 = .ok (.iaload, 1) := by decide +kernel
theorem dL_law_1215 : decode cL_law 1215 = .ok (.aload_n 0, 1) := by decide +kernel
theorem dL_law_1216 : decode cL_law 1216 = .ok (.iload 4, 2) := by decide +kernel
theorem dL_law_1218 : decode cL_law 1218 = .ok (.iconst 3, 1) := by decide +kernel
theorem dL_law_1219 : decode cL_law 1219 = .ok (.iadd, 1) := by decide +kernel
theorem dL_law_1220 : decode cL_law 1220 = .ok (.iaload, 1) := by decide +kernel
theorem dL_law_1221 : decode cL_law 1221 = .ok (.aload_n 0, 1) := by decide +kernel
theorem dL_law_1222 : decode cL_law 1222 = .ok (.iload 4, 2) := by decide +kernel
theorem dL_law_1224 : decode cL_law 1224 = .ok (.iconst 4, 1) := by decide +kernel
theorem dL_law_1225 : decode cL_law 1225 = .ok (.iadd, 1) := by decide +kernel
theorem dL_law_1226 : decode cL_law 1226 = .ok (.iaload, 1) := by decide +kernel
theorem dL_law_1227 : decode cL_law 1227 = .ok (.aload_n 3, 1) := by decide +kernel
theorem dL_law_1228 : decode cL_law 1228 = .ok (.invokestatic 134, 3) := by decide +kernel
theorem dL_law_1231 : decode cL_law 1231 = .ok (.istore 5, 2) := by decide +kernel
theorem dL_law_1233 : decode cL_law 1233 = .ok (.aload_n 2, 1) := by decide +kernel
theorem dL_law_1234 : decode cL_law 1234 = .ok (.aload_n 0, 1) := by decide +kernel
theorem dL_law_1235 : decode cL_law 1235 = .ok (.iload 4, 2) := by decide +kernel
theorem dL_law_1237 : decode cL_law 1237 = .ok (.iconst 1, 1) := by decide +kernel
theorem dL_law_1238 : decode cL_law 1238 = .ok (.iadd, 1) := by decide +kernel
theorem dL_law_1239 : decode cL_law 1239 = .ok (.iaload, 1) := by decide +kernel
theorem dL_law_1240 : decode cL_law 1240 = .ok (.aload_n 0, 1) := by decide +kernel
theorem dL_law_1241 : decode cL_law 1241 = .ok (.iload 4, 2) := by decide +kernel
theorem dL_law_1243 : decode cL_law 1243 = .ok (.iconst 2, 1) := by decide +kernel
theorem dL_law_1244 : decode cL_law 1244 = .ok (.iadd, 1) := by decide +kernel
theorem dL_law_1245 : decode cL_law 1245 = .ok (.iaload, 1) := by decide +kernel
theorem dL_law_1246 : decode cL_law 1246 = .ok (.aload_n 0, 1) := by decide +kernel
theorem dL_law_1247 : decode cL_law 1247 = .ok (.iload 4, 2) := by decide +kernel
theorem dL_law_1249 : decode cL_law 1249 = .ok (.iconst 3, 1) := by decide +kernel
theorem dL_law_1250 : decode cL_law 1250 = .ok (.iadd, 1) := by decide +kernel
theorem dL_law_1251 : decode cL_law 1251 = .ok (.iaload, 1) := by decide +kernel
theorem dL_law_1252 : decode cL_law 1252 = .ok (.aload_n 0, 1) := by decide +kernel
theorem dL_law_1253 : decode cL_law 1253 = .ok (.iload 4, 2) := by decide +kernel
theorem dL_law_1255 : decode cL_law 1255 = .ok (.iconst 4, 1) := by decide +kernel
theorem dL_law_1256 : decode cL_law 1256 = .ok (.iadd, 1) := by decide +kernel
theorem dL_law_1257 : decode cL_law 1257 = .ok (.iaload, 1) := by decide +kernel
theorem dL_law_1258 : decode cL_law 1258 = .ok (.invokevirtual 136, 3) := by decide +kernel
theorem dL_law_1261 : decode cL_law 1261 = .ok (.istore 6, 2) := by decide +kernel
theorem dL_law_1263 : decode cL_law 1263 = .ok (.aload_n 2, 1) := by decide +kernel
theorem dL_law_1264 : decode cL_law 1264 = .ok (.invokevirtual 86, 3) := by decide +kernel
theorem dL_law_1267 : decode cL_law 1267 = .ok (.iload 5, 2) := by decide +kernel
theorem dL_law_1269 : decode cL_law 1269 = .ok (.if_icmp .eq 5, 3) := by decide +kernel
theorem dL_law_1272 : decode cL_law 1272 = .ok (.iconst 0, 1) := by decide +kernel
theorem dL_law_1273 : decode cL_law 1273 = .ok (.ireturn, 1) := by decide +kernel
theorem dL_law_1274 : decode cL_law 1274 = .ok (.iload 5, 2) := by decide +kernel
theorem dL_law_1276 : decode cL_law 1276 = .ok (.ifCond .ne 22, 3) := by decide +kernel
theorem dL_law_1279 : decode cL_law 1279 = .ok (.aload_n 3, 1) := by decide +kernel
theorem dL_law_1280 : decode cL_law 1280 = .ok (.iconst 0, 1) := by decide +kernel
theorem dL_law_1281 : decode cL_law 1281 = .ok (.laload, 1) := by decide +kernel
theorem dL_law_1282 : decode cL_law 1282 = .ok (.iload 6, 2) := by decide +kernel
theorem dL_law_1284 : decode cL_law 1284 = .ok (.ifCond .eq 7, 3) := by decide +kernel
theorem dL_law_1287 : decode cL_law 1287 = .ok (.lconst 1, 1) := by decide +kernel
theorem dL_law_1288 : decode cL_law 1288 = .ok (.goto 4, 3) := by decide +kernel
theorem dL_law_1291 : decode cL_law 1291 = .ok (.lconst 0, 1) := by decide +kernel
theorem dL_law_1292 : decode cL_law 1292 = .ok (.lcmp, 1) := by decide +kernel
theorem dL_law_1293 : decode cL_law 1293 = .ok (.ifCond .eq 5, 3) := by decide +kernel
theorem dL_law_1296 : decode cL_law 1296 = .ok (.iconst 0, 1) := by decide +kernel
theorem dL_law_1297 : decode cL_law 1297 = .ok (.ireturn, 1) := by decide +kernel
theorem dL_law_1298 : decode cL_law 1298 = .ok (.goto 115, 3) := by decide +kernel
theorem dL_law_1301 : decode cL_law 1301 = .ok (.aload_n 1, 1) := by decide +kernel
theorem dL_law_1302 : decode cL_law 1302 = .ok (.aload_n 0, 1) := by decide +kernel
theorem dL_law_1303 : decode cL_law 1303 = .ok (.iload 4, 2) := by decide +kernel
theorem dL_law_1305 : decode cL_law 1305 = .ok (.iconst 1, 1) := by decide +kernel
theorem dL_law_1306 : decode cL_law 1306 = .ok (.iadd, 1) := by decide +kernel
theorem dL_law_1307 : decode cL_law 1307 = .ok (.iaload, 1) := by decide +kernel
theorem dL_law_1308 : decode cL_law 1308 = .ok (.aload_n 3, 1) := by decide +kernel
theorem dL_law_1309 : decode cL_law 1309 = .ok (.invokestatic 137, 3) := by decide +kernel
theorem dL_law_1312 : decode cL_law 1312 = .ok (.istore 5, 2) := by decide +kernel
theorem dL_law_1314 : decode cL_law 1314 = .ok (.aload_n 2, 1) := by decide +kernel
theorem dL_law_1315 : decode cL_law 1315 = .ok (.aload_n 0, 1) := by decide +kernel
theorem dL_law_1316 : decode cL_law 1316 = .ok (.iload 4, 2) := by decide +kernel
theorem dL_law_1318 : decode cL_law 1318 = .ok (.iconst 1, 1) := by decide +kernel
theorem dL_law_1319 : decode cL_law 1319 = .ok (.iadd, 1) := by decide +kernel
theorem dL_law_1320 : decode cL_law 1320 = .ok (.iaload, 1) := by decide +kernel
theorem dL_law_1321 : decode cL_law 1321 = .ok (.invokevirtual 139, 3) := by decide +kernel
theorem dL_law_1324 : decode cL_law 1324 = .ok (.istore 6, 2) := by decide +kernel
theorem dL_law_1326 : decode cL_law 1326 = .ok (.aload_n 2, 1) := by decide +kernel
theorem dL_law_1327 : decode cL_law 1327 = .ok (.invokevirtual 86, 3) := by decide +kernel
theorem dL_law_1330 : decode cL_law 1330 = .ok (.iload 5, 2) := by decide +kernel
theorem dL_law_1332 : decode cL_law 1332 = .ok (.if_icmp .eq 5, 3) := by decide +kernel
theorem dL_law_1335 : decode cL_law 1335 = .ok (.iconst 0, 1) := by decide +kernel
theorem dL_law_1336 : decode cL_law 1336 = .ok (.ireturn, 1) := by decide +kernel
theorem dL_law_1337 : decode cL_law 1337 = .ok (.iload 5, 2) := by decide +kernel
theorem dL_law_1339 : decode cL_law 1339 = .ok (.ifCond .ne 15, 3) := by decide +kernel
theorem dL_law_1342 : decode cL_law 1342 = .ok (.aload_n 3, 1) := by decide +kernel
theorem dL_law_1343 : decode cL_law 1343 = .ok (.iconst 0, 1) := by decide +kernel
theorem dL_law_1344 : decode cL_law 1344 = .ok (.laload, 1) := by decide +kernel
theorem dL_law_1345 : decode cL_law 1345 = .ok (.iload 6, 2) := by decide +kernel
theorem dL_law_1347 : decode cL_law 1347 = .ok (.i2l, 1) := by decide +kernel
theorem dL_law_1348 : decode cL_law 1348 = .ok (.lcmp, 1) := by decide +kernel
theorem dL_law_1349 : decode cL_law 1349 = .ok (.ifCond .eq 5, 3) := by decide +kernel
theorem dL_law_1352 : decode cL_law 1352 = .ok (.iconst 0, 1) := by decide +kernel
theorem dL_law_1353 : decode cL_law 1353 = .ok (.ireturn, 1) := by decide +kernel
theorem dL_law_1354 : decode cL_law 1354 = .ok (.goto 59, 3) := by decide +kernel
theorem dL_law_1357 : decode cL_law 1357 = .ok (.aload_n 1, 1) := by decide +kernel
theorem dL_law_1358 : decode cL_law 1358 = .ok (.aload_n 0, 1) := by decide +kernel
theorem dL_law_1359 : decode cL_law 1359 = .ok (.iload 4, 2) := by decide +kernel
theorem dL_law_1361 : decode cL_law 1361 = .ok (.iconst 1, 1) := by decide +kernel
theorem dL_law_1362 : decode cL_law 1362 = .ok (.iadd, 1) := by decide +kernel
theorem dL_law_1363 : decode cL_law 1363 = .ok (.iaload, 1) := by decide +kernel
theorem dL_law_1364 : decode cL_law 1364 = .ok (.aload_n 3, 1) := by decide +kernel
theorem dL_law_1365 : decode cL_law 1365 = .ok (.invokestatic 140, 3) := by decide +kernel
theorem dL_law_1368 : decode cL_law 1368 = .ok (.istore 5, 2) := by decide +kernel
theorem dL_law_1370 : decode cL_law 1370 = .ok (.aload_n 2, 1) := by decide +kernel
theorem dL_law_1371 : decode cL_law 1371 = .ok (.aload_n 0, 1) := by decide +kernel
theorem dL_law_1372 : decode cL_law 1372 = .ok (.iload 4, 2) := by decide +kernel
theorem dL_law_1374 : decode cL_law 1374 = .ok (.iconst 1, 1) := by decide +kernel
theorem dL_law_1375 : decode cL_law 1375 = .ok (.iadd, 1) := by decide +kernel
theorem dL_law_1376 : decode cL_law 1376 = .ok (.iaload, 1) := by decide +kernel
theorem dL_law_1377 : decode cL_law 1377 = .ok (.invokevirtual 142, 3) := by decide +kernel
theorem dL_law_1380 : decode cL_law 1380 = .ok (.istore 6, 2) := by decide +kernel
theorem dL_law_1382 : decode cL_law 1382 = .ok (.aload_n 2, 1) := by decide +kernel
theorem dL_law_1383 : decode cL_law 1383 = .ok (.invokevirtual 86, 3) := by decide +kernel
theorem dL_law_1386 : decode cL_law 1386 = .ok (.iload 5, 2) := by decide +kernel
theorem dL_law_1388 : decode cL_law 1388 = .ok (.if_icmp .eq 5, 3) := by decide +kernel
theorem dL_law_1391 : decode cL_law 1391 = .ok (.iconst 0, 1) := by decide +kernel
theorem dL_law_1392 : decode cL_law 1392 = .ok (.ireturn, 1) := by decide +kernel
theorem dL_law_1393 : decode cL_law 1393 = .ok (.iload 5, 2) := by decide +kernel
theorem dL_law_1395 : decode cL_law 1395 = .ok (.ifCond .ne 15, 3) := by decide +kernel
theorem dL_law_1398 : decode cL_law 1398 = .ok (.aload_n 3, 1) := by decide +kernel
theorem dL_law_1399 : decode cL_law 1399 = .ok (.iconst 0, 1) := by decide +kernel
theorem dL_law_1400 : decode cL_law 1400 = .ok (.laload, 1) := by decide +kernel
theorem dL_law_1401 : decode cL_law 1401 = .ok (.iload 6, 2) := by decide +kernel
theorem dL_law_1403 : decode cL_law 1403 = .ok (.i2l, 1) := by decide +kernel
theorem dL_law_1404 : decode cL_law 1404 = .ok (.lcmp, 1) := by decide +kernel
theorem dL_law_1405 : decode cL_law 1405 = .ok (.ifCond .eq 5, 3) := by decide +kernel
theorem dL_law_1408 : decode cL_law 1408 = .ok (.iconst 0, 1) := by decide +kernel
theorem dL_law_1409 : decode cL_law 1409 = .ok (.ireturn, 1) := by decide +kernel
theorem dL_law_1410 : decode cL_law 1410 = .ok (.goto 3, 3) := by decide +kernel
theorem dL_law_1413 : decode cL_law 1413 = .ok (.iinc 4 6, 3) := by decide +kernel
theorem dL_law_1416 : decode cL_law 1416 = .ok (.goto (-1393), 3) := by decide +kernel
theorem dL_law_1419 : decode cL_law 1419 = .ok (.iconst 1, 1) := by decide +kernel
theorem dL_law_1420 : decode cL_law 1420 = .ok (.ireturn, 1) := by decide +kernel
abbrev vwCl : List vw_C := [(RX0, TX0, 5), (RX2, TX2, 1), (RX3, TX3, 2), (RX4, TX4, 11), (RX5, TX5, 17)]
