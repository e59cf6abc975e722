def RX0 : String := "CasebookSteps$Case"
def TX0 : u_T := fun k => match k with
  | 0 => ("CasebookSteps$Case", "plan", "LCasebookSteps$Plan;", false)
  | 1 => ("CasebookSteps$Case", "data", "[I", true)
  | 2 => ("CasebookSteps$Case", "states", "[C", true)
  | 3 => ("CasebookSteps$Case", "statesBefore", "[C", true)
  | 4 => ("CasebookSteps$Case", "clocks", "[I", true)
  | 5 => ("CasebookSteps$Case", "counts", "[I", true)
  | 6 => ("CasebookSteps$Case", "age", "I", false)
  | 7 => ("CasebookSteps$Case", "waiting", "Z", false)
  | 8 => ("CasebookSteps$Case", "present", "I", false)
  | 9 => ("CasebookSteps$Case", "lastRounds", "I", false)
  | _ => ("CasebookSteps$Case", "things", "I", false)
def tyX0 : Nat → FieldType := fun k => match k with
  | 0 => .object "CasebookSteps$Plan"
  | 1 => .array .int
  | 2 => .array .char
  | 3 => .array .char
  | 4 => .array .int
  | 5 => .array .int
  | 6 => .int
  | 7 => .boolean
  | 8 => .int
  | 9 => .int
  | _ => .int
abbrev wsX00 : List Cond := u_ws RX0 TX0 11
theorem nmX0 : ∀ a, a < 11 → ∀ b, b < 11 → a ≠ b → (TX0 a).2.1 ≠ (TX0 b).2.1 := by decide +kernel
theorem tyX0_ok : ∀ k, k < 11 → parseFieldDescriptor (TX0 k).2.2.1 = some (tyX0 k) := by decide +kernel
abbrev cX0_init : ByteArray := prog_2_method_1_code
def yX0_init : MethodName := ⟨RX0, "<init>", "(LCasebookSteps$Plan;)V"⟩
abbrev cX0_beginAnew : ByteArray := prog_2_method_2_code
def yX0_beginAnew : MethodName := ⟨RX0, "beginAnew", "(LCasebookSteps$Plan;)V"⟩
abbrev cX0_goBy : ByteArray := prog_2_method_3_code
def yX0_goBy : MethodName := ⟨RX0, "goBy", "(LCasebookSteps$Plan;)V"⟩
abbrev cX0_putValue : ByteArray := prog_2_method_4_code
def yX0_putValue : MethodName := ⟨RX0, "putValue", "(II)V"⟩
abbrev cX0_growOlder : ByteArray := prog_2_method_5_code
def yX0_growOlder : MethodName := ⟨RX0, "growOlder", "()V"⟩
abbrev cX0_runRounds : ByteArray := prog_2_method_6_code
def yX0_runRounds : MethodName := ⟨RX0, "runRounds", "()V"⟩
abbrev cX0_applyRule : ByteArray := prog_2_method_7_code
def yX0_applyRule : MethodName := ⟨RX0, "applyRule", "(I)Z"⟩
abbrev cX0_isParentActive : ByteArray := prog_2_method_8_code
def yX0_isParentActive : MethodName := ⟨RX0, "isParentActive", "(LCasebookSteps$Step;)Z"⟩
abbrev cX0_enter : ByteArray := prog_2_method_9_code
def yX0_enter : MethodName := ⟨RX0, "enter", "(IC)V"⟩
abbrev cX0_finish : ByteArray := prog_2_method_10_code
def yX0_finish : MethodName := ⟨RX0, "finish", "(IC)V"⟩
abbrev cX0_areChildrenDone : ByteArray := prog_2_method_11_code
def yX0_areChildrenDone : MethodName := ⟨RX0, "areChildrenDone", "(I)Z"⟩
abbrev cX0_anyMet : ByteArray := prog_2_method_12_code
def yX0_anyMet : MethodName := ⟨RX0, "anyMet", "(LCasebookSteps$Conditions;)Z"⟩
abbrev cX0_isMet : ByteArray := prog_2_method_13_code
def yX0_isMet : MethodName := ⟨RX0, "isMet", "(LCasebookSteps$Condition;)Z"⟩
abbrev cX0_valueOf : ByteArray := prog_2_method_14_code
def yX0_valueOf : MethodName := ⟨RX0, "valueOf", "(I)I"⟩
abbrev cX0_stateOf : ByteArray := prog_2_method_15_code
def yX0_stateOf : MethodName := ⟨RX0, "stateOf", "(I)C"⟩
abbrev cX0_putState : ByteArray := prog_2_method_16_code
def yX0_putState : MethodName := ⟨RX0, "putState", "(IC)V"⟩
abbrev cX0_clockOf : ByteArray := prog_2_method_17_code
def yX0_clockOf : MethodName := ⟨RX0, "clockOf", "(I)I"⟩
abbrev cX0_countOf : ByteArray := prog_2_method_18_code
def yX0_countOf : MethodName := ⟨RX0, "countOf", "(I)I"⟩
abbrev cX0_isActiveTask : ByteArray := prog_2_method_19_code
def yX0_isActiveTask : MethodName := ⟨RX0, "isActiveTask", "(I)Z"⟩
abbrev cX0_daysUntilLate : ByteArray := prog_2_method_20_code
def yX0_daysUntilLate : MethodName := ⟨RX0, "daysUntilLate", "(I)I"⟩
abbrev cX0_fewestDaysUntilLate : ByteArray := prog_2_method_21_code
def yX0_fewestDaysUntilLate : MethodName := ⟨RX0, "fewestDaysUntilLate", "()I"⟩
abbrev cX0_lateTasks : ByteArray := prog_2_method_22_code
def yX0_lateTasks : MethodName := ⟨RX0, "lateTasks", "()I"⟩
abbrev cX0_rememberStates : ByteArray := prog_2_method_23_code
def yX0_rememberStates : MethodName := ⟨RX0, "rememberStates", "()V"⟩
abbrev cX0_changedStepsBut : ByteArray := prog_2_method_24_code
def yX0_changedStepsBut : MethodName := ⟨RX0, "changedStepsBut", "(I)I"⟩
abbrev cX0_stepsInState : ByteArray := prog_2_method_25_code
def yX0_stepsInState : MethodName := ⟨RX0, "stepsInState", "(C)I"⟩
abbrev cX0_isAtItsEnd : ByteArray := prog_2_method_26_code
def yX0_isAtItsEnd : MethodName := ⟨RX0, "isAtItsEnd", "()Z"⟩
abbrev cX0_sumOfClocks : ByteArray := prog_2_method_27_code
def yX0_sumOfClocks : MethodName := ⟨RX0, "sumOfClocks", "()J"⟩
def RX1 : String := "CasebookSteps$Condition"
def TX1 : u_T := fun k => match k with
  | 0 => ("CasebookSteps$Condition", "sort", "C", true)
  | 1 => ("CasebookSteps$Condition", "a", "I", true)
  | _ => ("CasebookSteps$Condition", "b", "I", true)
def tyX1 : Nat → FieldType := fun k => match k with
  | 0 => .char
  | 1 => .int
  | _ => .int
abbrev wsX10 : List Cond := u_ws RX1 TX1 3
theorem nmX1 : ∀ a, a < 3 → ∀ b, b < 3 → a ≠ b → (TX1 a).2.1 ≠ (TX1 b).2.1 := by decide +kernel
theorem tyX1_ok : ∀ k, k < 3 → parseFieldDescriptor (TX1 k).2.2.1 = some (tyX1 k) := by decide +kernel
abbrev cX1_init : ByteArray := prog_3_method_1_code
def yX1_init : MethodName := ⟨RX1, "<init>", "(CII)V"⟩
def RX2 : String := "CasebookSteps$Conditions"
def TX2 : u_T := fun k => match k with
  | 0 => ("CasebookSteps$Conditions", "rows", "[LCasebookSteps$Condition;", true)
  | _ => ("CasebookSteps$Conditions", "size", "I", false)
def tyX2 : Nat → FieldType := fun k => match k with
  | 0 => .array (.object "CasebookSteps$Condition")
  | _ => .int
abbrev wsX20 : List Cond := u_ws RX2 TX2 2
theorem nmX2 : ∀ a, a < 2 → ∀ b, b < 2 → a ≠ b → (TX2 a).2.1 ≠ (TX2 b).2.1 := by decide +kernel
theorem tyX2_ok : ∀ k, k < 2 → parseFieldDescriptor (TX2 k).2.2.1 = some (tyX2 k) := by decide +kernel
abbrev cX2_init : ByteArray := prog_4_method_1_code
def yX2_init : MethodName := ⟨RX2, "<init>", "()V"⟩
abbrev cX2_append : ByteArray := prog_4_method_2_code
def yX2_append : MethodName := ⟨RX2, "append", "(LCasebookSteps$Condition;)I"⟩
abbrev cX2_at : ByteArray := prog_4_method_3_code
def yX2_at : MethodName := ⟨RX2, "at", "(I)LCasebookSteps$Condition;"⟩
def RX3 : String := "CasebookSteps$Journal"
def TX3 : u_T := fun k => match k with
  | 0 => ("CasebookSteps$Journal", "who", "[I", true)
  | 1 => ("CasebookSteps$Journal", "what", "[I", true)
  | 2 => ("CasebookSteps$Journal", "x", "[I", true)
  | 3 => ("CasebookSteps$Journal", "y", "[I", true)
  | _ => ("CasebookSteps$Journal", "size", "I", false)
def tyX3 : Nat → FieldType := fun k => match k with
  | 0 => .array .int
  | 1 => .array .int
  | 2 => .array .int
  | 3 => .array .int
  | _ => .int
abbrev wsX30 : List Cond := u_ws RX3 TX3 5
theorem nmX3 : ∀ a, a < 5 → ∀ b, b < 5 → a ≠ b → (TX3 a).2.1 ≠ (TX3 b).2.1 := by decide +kernel
theorem tyX3_ok : ∀ k, k < 5 → parseFieldDescriptor (TX3 k).2.2.1 = some (tyX3 k) := by decide +kernel
abbrev cX3_init : ByteArray := prog_5_method_1_code
def yX3_init : MethodName := ⟨RX3, "<init>", "()V"⟩
abbrev cX3_append : ByteArray := prog_5_method_2_code
def yX3_append : MethodName := ⟨RX3, "append", "(IIII)V"⟩
def RX4 : String := "CasebookSteps$Plan"
def TX4 : u_T := fun k => match k with
  | 0 => ("CasebookSteps$Plan", "number", "I", true)
  | 1 => ("CasebookSteps$Plan", "rows", "[LCasebookSteps$Step;", true)
  | 2 => ("CasebookSteps$Plan", "size", "I", false)
  | _ => ("CasebookSteps$Plan", "used", "Z", false)
def tyX4 : Nat → FieldType := fun k => match k with
  | 0 => .int
  | 1 => .array (.object "CasebookSteps$Step")
  | 2 => .int
  | _ => .boolean
abbrev wsX40 : List Cond := u_ws RX4 TX4 4
theorem nmX4 : ∀ a, a < 4 → ∀ b, b < 4 → a ≠ b → (TX4 a).2.1 ≠ (TX4 b).2.1 := by decide +kernel
theorem tyX4_ok : ∀ k, k < 4 → parseFieldDescriptor (TX4 k).2.2.1 = some (tyX4 k) := by decide +kernel
abbrev cX4_init : ByteArray := prog_6_method_1_code
def yX4_init : MethodName := ⟨RX4, "<init>", "(I)V"⟩
abbrev cX4_append : ByteArray := prog_6_method_2_code
def yX4_append : MethodName := ⟨RX4, "append", "(LCasebookSteps$Step;)I"⟩
abbrev cX4_stepAt : ByteArray := prog_6_method_3_code
def yX4_stepAt : MethodName := ⟨RX4, "stepAt", "(I)LCasebookSteps$Step;"⟩
abbrev cX4_isStage : ByteArray := prog_6_method_4_code
def yX4_isStage : MethodName := ⟨RX4, "isStage", "(I)Z"⟩
def RX5 : String := "CasebookSteps$Step"
def TX5 : u_T := fun k => match k with
  | 0 => ("CasebookSteps$Step", "kind", "C", true)
  | 1 => ("CasebookSteps$Step", "parent", "I", true)
  | 2 => ("CasebookSteps$Step", "entries", "LCasebookSteps$Conditions;", true)
  | 3 => ("CasebookSteps$Step", "exits", "LCasebookSteps$Conditions;", true)
  | 4 => ("CasebookSteps$Step", "required", "Z", false)
  | 5 => ("CasebookSteps$Step", "limit", "I", false)
  | _ => ("CasebookSteps$Step", "again", "Z", false)
def tyX5 : Nat → FieldType := fun k => match k with
  | 0 => .char
  | 1 => .int
  | 2 => .object "CasebookSteps$Conditions"
  | 3 => .object "CasebookSteps$Conditions"
  | 4 => .boolean
  | 5 => .int
  | _ => .boolean
abbrev wsX50 : List Cond := u_ws RX5 TX5 7
theorem nmX5 : ∀ a, a < 7 → ∀ b, b < 7 → a ≠ b → (TX5 a).2.1 ≠ (TX5 b).2.1 := by decide +kernel
theorem tyX5_ok : ∀ k, k < 7 → parseFieldDescriptor (TX5 k).2.2.1 = some (tyX5 k) := by decide +kernel
abbrev cX5_init : ByteArray := prog_7_method_1_code
def yX5_init : MethodName := ⟨RX5, "<init>", "(CI)V"⟩
def RX6 : String := "CasebookSteps"
def TX6 : u_T := fun k => match k with
  | 0 => ("CasebookSteps", "plans", "[LCasebookSteps$Plan;", true)
  | 1 => ("CasebookSteps", "planCount", "I", false)
  | 2 => ("CasebookSteps", "begun", "[LCasebookSteps$Case;", true)
  | 3 => ("CasebookSteps", "caseCount", "I", false)
  | 4 => ("CasebookSteps", "journal", "LCasebookSteps$Journal;", true)
  | _ => ("CasebookSteps", "replayed", "LCasebookSteps$Case;", true)
def tyX6 : Nat → FieldType := fun k => match k with
  | 0 => .array (.object "CasebookSteps$Plan")
  | 1 => .int
  | 2 => .array (.object "CasebookSteps$Case")
  | 3 => .int
  | 4 => .object "CasebookSteps$Journal"
  | _ => .object "CasebookSteps$Case"
abbrev wsX60 : List Cond := u_ws RX6 TX6 6
theorem nmX6 : ∀ a, a < 6 → ∀ b, b < 6 → a ≠ b → (TX6 a).2.1 ≠ (TX6 b).2.1 := by decide +kernel
theorem tyX6_ok : ∀ k, k < 6 → parseFieldDescriptor (TX6 k).2.2.1 = some (tyX6 k) := by decide +kernel
abbrev cX6_init : ByteArray := prog_1_method_1_code
def yX6_init : MethodName := ⟨RX6, "<init>", "()V"⟩
abbrev cX6_addPlan : ByteArray := prog_1_method_2_code
def yX6_addPlan : MethodName := ⟨RX6, "addPlan", "()I"⟩
abbrev cX6_addStep : ByteArray := prog_1_method_3_code
def yX6_addStep : MethodName := ⟨RX6, "addStep", "(ICI)I"⟩
abbrev cX6_addEntry : ByteArray := prog_1_method_4_code
def yX6_addEntry : MethodName := ⟨RX6, "addEntry", "(IICII)I"⟩
abbrev cX6_addExit : ByteArray := prog_1_method_5_code
def yX6_addExit : MethodName := ⟨RX6, "addExit", "(IICII)I"⟩
abbrev cX6_setRequired : ByteArray := prog_1_method_6_code
def yX6_setRequired : MethodName := ⟨RX6, "setRequired", "(IIZ)Z"⟩
abbrev cX6_setLimit : ByteArray := prog_1_method_7_code
def yX6_setLimit : MethodName := ⟨RX6, "setLimit", "(III)I"⟩
abbrev cX6_setAgain : ByteArray := prog_1_method_8_code
def yX6_setAgain : MethodName := ⟨RX6, "setAgain", "(IIZ)Z"⟩
abbrev cX6_steps : ByteArray := prog_1_method_9_code
def yX6_steps : MethodName := ⟨RX6, "steps", "(I)I"⟩
abbrev cX6_isUsed : ByteArray := prog_1_method_10_code
def yX6_isUsed : MethodName := ⟨RX6, "isUsed", "(I)Z"⟩
abbrev cX6_begin : ByteArray := prog_1_method_11_code
def yX6_begin : MethodName := ⟨RX6, "begin", "(I)I"⟩
abbrev cX6_set : ByteArray := prog_1_method_12_code
def yX6_set : MethodName := ⟨RX6, "set", "(III)I"⟩
abbrev cX6_event : ByteArray := prog_1_method_13_code
def yX6_event : MethodName := ⟨RX6, "event", "(II)I"⟩
abbrev cX6_complete : ByteArray := prog_1_method_14_code
def yX6_complete : MethodName := ⟨RX6, "complete", "(II)I"⟩
abbrev cX6_setWaiting : ByteArray := prog_1_method_15_code
def yX6_setWaiting : MethodName := ⟨RX6, "setWaiting", "(IZ)Z"⟩
abbrev cX6_move : ByteArray := prog_1_method_16_code
def yX6_move : MethodName := ⟨RX6, "move", "(II)I"⟩
abbrev cX6_pass : ByteArray := prog_1_method_17_code
def yX6_pass : MethodName := ⟨RX6, "pass", "(I)I"⟩
abbrev cX6_state : ByteArray := prog_1_method_18_code
def yX6_state : MethodName := ⟨RX6, "state", "(II)C"⟩
abbrev cX6_stateByReplay : ByteArray := prog_1_method_19_code
def yX6_stateByReplay : MethodName := ⟨RX6, "stateByReplay", "(II)C"⟩
abbrev cX6_clock : ByteArray := prog_1_method_20_code
def yX6_clock : MethodName := ⟨RX6, "clock", "(II)I"⟩
abbrev cX6_clockByReplay : ByteArray := prog_1_method_21_code
def yX6_clockByReplay : MethodName := ⟨RX6, "clockByReplay", "(II)I"⟩
abbrev cX6_count : ByteArray := prog_1_method_22_code
def yX6_count : MethodName := ⟨RX6, "count", "(II)I"⟩
abbrev cX6_isLate : ByteArray := prog_1_method_23_code
def yX6_isLate : MethodName := ⟨RX6, "isLate", "(II)Z"⟩
abbrev cX6_daysLeft : ByteArray := prog_1_method_24_code
def yX6_daysLeft : MethodName := ⟨RX6, "daysLeft", "(I)I"⟩
abbrev cX6_holds : ByteArray := prog_1_method_25_code
def yX6_holds : MethodName := ⟨RX6, "holds", "(IIZI)Z"⟩
abbrev cX6_active : ByteArray := prog_1_method_26_code
def yX6_active : MethodName := ⟨RX6, "active", "(I)I"⟩
abbrev cX6_isOver : ByteArray := prog_1_method_27_code
def yX6_isOver : MethodName := ⟨RX6, "isOver", "(I)Z"⟩
abbrev cX6_rounds : ByteArray := prog_1_method_28_code
def yX6_rounds : MethodName := ⟨RX6, "rounds", "(I)I"⟩
abbrev cX6_datum : ByteArray := prog_1_method_29_code
def yX6_datum : MethodName := ⟨RX6, "datum", "(II)I"⟩
abbrev cX6_days : ByteArray := prog_1_method_30_code
def yX6_days : MethodName := ⟨RX6, "days", "(I)I"⟩
abbrev cX6_planOf : ByteArray := prog_1_method_31_code
def yX6_planOf : MethodName := ⟨RX6, "planOf", "(I)I"⟩
abbrev cX6_isWaiting : ByteArray := prog_1_method_32_code
def yX6_isWaiting : MethodName := ⟨RX6, "isWaiting", "(I)Z"⟩
abbrev cX6_happened : ByteArray := prog_1_method_33_code
def yX6_happened : MethodName := ⟨RX6, "happened", "(I)I"⟩
abbrev cX6_cases : ByteArray := prog_1_method_34_code
def yX6_cases : MethodName := ⟨RX6, "cases", "()I"⟩
abbrev cX6_daysWorked : ByteArray := prog_1_method_35_code
def yX6_daysWorked : MethodName := ⟨RX6, "daysWorked", "()J"⟩
abbrev cX6_doneShare : ByteArray := prog_1_method_36_code
def yX6_doneShare : MethodName := ⟨RX6, "doneShare", "(I)F"⟩
abbrev cX6_isDatum : ByteArray := prog_1_method_37_code
def yX6_isDatum : MethodName := ⟨RX6, "isDatum", "(I)Z"⟩
abbrev cX6_isEvent : ByteArray := prog_1_method_38_code
def yX6_isEvent : MethodName := ⟨RX6, "isEvent", "(I)Z"⟩
abbrev cX6_isValue : ByteArray := prog_1_method_39_code
def yX6_isValue : MethodName := ⟨RX6, "isValue", "(I)Z"⟩
abbrev cX6_isCondition : ByteArray := prog_1_method_40_code
def yX6_isCondition : MethodName := ⟨RX6, "isCondition", "(LCasebookSteps$Plan;CII)Z"⟩
abbrev cX6_refuseWrongCondition : ByteArray := prog_1_method_41_code
def yX6_refuseWrongCondition : MethodName := ⟨RX6, "refuseWrongCondition", "(LCasebookSteps$Plan;CII)V"⟩
abbrev cX6_refuseFull : ByteArray := prog_1_method_42_code
def yX6_refuseFull : MethodName := ⟨RX6, "refuseFull", "(LCasebookSteps$Conditions;)V"⟩
abbrev cX6_refuseUsed : ByteArray := prog_1_method_43_code
def yX6_refuseUsed : MethodName := ⟨RX6, "refuseUsed", "(LCasebookSteps$Plan;)V"⟩
abbrev cX6_refuseOtherThanTask : ByteArray := prog_1_method_44_code
def yX6_refuseOtherThanTask : MethodName := ⟨RX6, "refuseOtherThanTask", "(LCasebookSteps$Step;)V"⟩
abbrev cX6_planAt : ByteArray := prog_1_method_45_code
def yX6_planAt : MethodName := ⟨RX6, "planAt", "(I)LCasebookSteps$Plan;"⟩
abbrev cX6_caseAt : ByteArray := prog_1_method_46_code
def yX6_caseAt : MethodName := ⟨RX6, "caseAt", "(I)LCasebookSteps$Case;"⟩
abbrev cX6_existingPlan : ByteArray := prog_1_method_47_code
def yX6_existingPlan : MethodName := ⟨RX6, "existingPlan", "(I)LCasebookSteps$Plan;"⟩
abbrev cX6_existingCase : ByteArray := prog_1_method_48_code
def yX6_existingCase : MethodName := ⟨RX6, "existingCase", "(I)LCasebookSteps$Case;"⟩
abbrev cX6_existingStep : ByteArray := prog_1_method_49_code
def yX6_existingStep : MethodName := ⟨RX6, "existingStep", "(LCasebookSteps$Plan;I)LCasebookSteps$Step;"⟩
abbrev cX6_caseWithStep : ByteArray := prog_1_method_50_code
def yX6_caseWithStep : MethodName := ⟨RX6, "caseWithStep", "(II)LCasebookSteps$Case;"⟩
abbrev cX6_noteAndDo : ByteArray := prog_1_method_51_code
def yX6_noteAndDo : MethodName := ⟨RX6, "noteAndDo", "(ILCasebookSteps$Case;III)V"⟩
abbrev cX6_letHappen : ByteArray := prog_1_method_52_code
def yX6_letHappen : MethodName := ⟨RX6, "letHappen", "(LCasebookSteps$Case;III)V"⟩
abbrev cX6_replay : ByteArray := prog_1_method_53_code
def yX6_replay : MethodName := ⟨RX6, "replay", "(I)V"⟩
abbrev cX6_lateTasksOfAll : ByteArray := prog_1_method_54_code
def yX6_lateTasksOfAll : MethodName := ⟨RX6, "lateTasksOfAll", "()I"⟩
def RX7 : String := "CasebookStepsModel"
def TX7 : u_T := fun k => match k with
  | _ => ("", "", "", false)
def tyX7 : Nat → FieldType := fun k => match k with
  | _ => .int
abbrev wsX70 : List Cond := u_ws RX7 TX7 0
theorem nmX7 : ∀ a, a < 0 → ∀ b, b < 0 → a ≠ b → (TX7 a).2.1 ≠ (TX7 b).2.1 := by decide +kernel
theorem tyX7_ok : ∀ k, k < 0 → parseFieldDescriptor (TX7 k).2.2.1 = some (tyX7 k) := by decide +kernel
def RJx145de : String := "java/io/Serializable"
def TJx145de : u_T := fun k => match k with
  | _ => ("", "", "", false)
def tyJx145de : Nat → FieldType := fun k => match k with
  | _ => .int
abbrev wsJx145de0 : List Cond := u_ws RJx145de TJx145de 0
theorem nmJx145de : ∀ a, a < 0 → ∀ b, b < 0 → a ≠ b → (TJx145de a).2.1 ≠ (TJx145de b).2.1 := by decide +kernel
theorem tyJx145de_ok : ∀ k, k < 0 → parseFieldDescriptor (TJx145de k).2.2.1 = some (tyJx145de k) := by decide +kernel
def RJx9f9b0 : String := "java/lang/CharSequence"
def TJx9f9b0 : u_T := fun k => match k with
  | _ => ("", "", "", false)
def tyJx9f9b0 : Nat → FieldType := fun k => match k with
  | _ => .int
abbrev wsJx9f9b00 : List Cond := u_ws RJx9f9b0 TJx9f9b0 0
theorem nmJx9f9b0 : ∀ a, a < 0 → ∀ b, b < 0 → a ≠ b → (TJx9f9b0 a).2.1 ≠ (TJx9f9b0 b).2.1 := by decide +kernel
theorem tyJx9f9b0_ok : ∀ k, k < 0 → parseFieldDescriptor (TJx9f9b0 k).2.2.1 = some (tyJx9f9b0 k) := by decide +kernel
def RJxb160c : String := "java/lang/Comparable"
def TJxb160c : u_T := fun k => match k with
  | _ => ("", "", "", false)
def tyJxb160c : Nat → FieldType := fun k => match k with
  | _ => .int
abbrev wsJxb160c0 : List Cond := u_ws RJxb160c TJxb160c 0
theorem nmJxb160c : ∀ a, a < 0 → ∀ b, b < 0 → a ≠ b → (TJxb160c a).2.1 ≠ (TJxb160c b).2.1 := by decide +kernel
theorem tyJxb160c_ok : ∀ k, k < 0 → parseFieldDescriptor (TJxb160c k).2.2.1 = some (tyJxb160c k) := by decide +kernel
def RJ9 : String := "java/lang/Math"
def TJ9 : u_T := fun k => match k with
  | _ => ("", "", "", false)
def tyJ9 : Nat → FieldType := fun k => match k with
  | _ => .int
abbrev wsJ90 : List Cond := u_ws RJ9 TJ9 0
theorem nmJ9 : ∀ a, a < 0 → ∀ b, b < 0 → a ≠ b → (TJ9 a).2.1 ≠ (TJ9 b).2.1 := by decide +kernel
theorem tyJ9_ok : ∀ k, k < 0 → parseFieldDescriptor (TJ9 k).2.2.1 = some (tyJ9 k) := by decide +kernel
abbrev cJ9_max_7cf53 : ByteArray := prog_17_method_65_code
def yJ9_max_7cf53 : MethodName := ⟨RJ9, "max", "(II)I"⟩
def RJ0 : String := "java/lang/String"
def TJ0 : u_T := fun k => match k with
  | _ => ("", "", "", false)
def tyJ0 : Nat → FieldType := fun k => match k with
  | _ => .int
abbrev wsJ00 : List Cond := u_ws RJ0 TJ0 0
theorem nmJ0 : ∀ a, a < 0 → ∀ b, b < 0 → a ≠ b → (TJ0 a).2.1 ≠ (TJ0 b).2.1 := by decide +kernel
theorem tyJ0_ok : ∀ k, k < 0 → parseFieldDescriptor (TJ0 k).2.2.1 = some (tyJ0 k) := by decide +kernel
abbrev cJ0_charAt_5068e : ByteArray := prog_19_method_56_code
def yJ0_charAt_5068e : MethodName := ⟨RJ0, "charAt", "(I)C"⟩
abbrev cJ0_isLatin1_aae02 : ByteArray := prog_19_method_154_code
def yJ0_isLatin1_aae02 : MethodName := ⟨RJ0, "isLatin1", "()Z"⟩
abbrev cJ0_checkIndex_df160 : ByteArray := prog_19_method_155_code
def yJ0_checkIndex_df160 : MethodName := ⟨RJ0, "checkIndex", "(II)V"⟩
def RJ1 : String := "java/lang/StringLatin1"
def TJ1 : u_T := fun k => match k with
  | _ => ("", "", "", false)
def tyJ1 : Nat → FieldType := fun k => match k with
  | _ => .int
abbrev wsJ10 : List Cond := u_ws RJ1 TJ1 0
theorem nmJ1 : ∀ a, a < 0 → ∀ b, b < 0 → a ≠ b → (TJ1 a).2.1 ≠ (TJ1 b).2.1 := by decide +kernel
theorem tyJ1_ok : ∀ k, k < 0 → parseFieldDescriptor (TJ1 k).2.2.1 = some (tyJ1 k) := by decide +kernel
abbrev cJ1_charAt_3b067 : ByteArray := prog_20_method_2_code
def yJ1_charAt_3b067 : MethodName := ⟨RJ1, "charAt", "([BI)C"⟩
def RJ2 : String := "java/lang/StringUTF16"
def TJ2 : u_T := fun k => match k with
  | _ => ("", "", "", false)
def tyJ2 : Nat → FieldType := fun k => match k with
  | _ => .int
abbrev wsJ20 : List Cond := u_ws RJ2 TJ2 0
theorem nmJ2 : ∀ a, a < 0 → ∀ b, b < 0 → a ≠ b → (TJ2 a).2.1 ≠ (TJ2 b).2.1 := by decide +kernel
theorem tyJ2_ok : ∀ k, k < 0 → parseFieldDescriptor (TJ2 k).2.2.1 = some (tyJ2 k) := by decide +kernel
abbrev cJ2_getChar_3b067 : ByteArray := prog_21_method_5_code
def yJ2_getChar_3b067 : MethodName := ⟨RJ2, "getChar", "([BI)C"⟩
abbrev cJ2_length_9d52b : ByteArray := prog_21_method_6_code
def yJ2_length_9d52b : MethodName := ⟨RJ2, "length", "([B)I"⟩
abbrev cJ2_charAt_3b067 : ByteArray := prog_21_method_83_code
def yJ2_charAt_3b067 : MethodName := ⟨RJ2, "charAt", "([BI)C"⟩
abbrev cJ2_checkIndex_2214a : ByteArray := prog_21_method_91_code
def yJ2_checkIndex_2214a : MethodName := ⟨RJ2, "checkIndex", "(I[B)V"⟩
def RJxfd54e : String := "java/lang/constant/Constable"
def TJxfd54e : u_T := fun k => match k with
  | _ => ("", "", "", false)
def tyJxfd54e : Nat → FieldType := fun k => match k with
  | _ => .int
abbrev wsJxfd54e0 : List Cond := u_ws RJxfd54e TJxfd54e 0
theorem nmJxfd54e : ∀ a, a < 0 → ∀ b, b < 0 → a ≠ b → (TJxfd54e a).2.1 ≠ (TJxfd54e b).2.1 := by decide +kernel
theorem tyJxfd54e_ok : ∀ k, k < 0 → parseFieldDescriptor (TJxfd54e k).2.2.1 = some (tyJxfd54e k) := by decide +kernel
def RJx3cf43 : String := "java/lang/constant/ConstantDesc"
def TJx3cf43 : u_T := fun k => match k with
  | _ => ("", "", "", false)
def tyJx3cf43 : Nat → FieldType := fun k => match k with
  | _ => .int
abbrev wsJx3cf430 : List Cond := u_ws RJx3cf43 TJx3cf43 0
theorem nmJx3cf43 : ∀ a, a < 0 → ∀ b, b < 0 → a ≠ b → (TJx3cf43 a).2.1 ≠ (TJx3cf43 b).2.1 := by decide +kernel
theorem tyJx3cf43_ok : ∀ k, k < 0 → parseFieldDescriptor (TJx3cf43 k).2.2.1 = some (tyJx3cf43 k) := by decide +kernel
def RJ3 : String := "jdk/internal/util/Preconditions"
def TJ3 : u_T := fun k => match k with
  | _ => ("", "", "", false)
def tyJ3 : Nat → FieldType := fun k => match k with
  | _ => .int
abbrev wsJ30 : List Cond := u_ws RJ3 TJ3 0
theorem nmJ3 : ∀ a, a < 0 → ∀ b, b < 0 → a ≠ b → (TJ3 a).2.1 ≠ (TJ3 b).2.1 := by decide +kernel
theorem tyJ3_ok : ∀ k, k < 0 → parseFieldDescriptor (TJ3 k).2.2.1 = some (tyJ3 k) := by decide +kernel
abbrev cJ3_checkIndex_8e157 : ByteArray := prog_27_method_11_code
def yJ3_checkIndex_8e157 : MethodName := ⟨RJ3, "checkIndex", "(IILjava/util/function/BiFunction;)I"⟩
def RL : String := "CasebookStepsLaw"
abbrev cL_cell : ByteArray := method_2_code
def yL_cell : MethodName := ⟨RL, "cell", "([II)I"⟩
abbrev cL_some : ByteArray := method_3_code
def yL_some : MethodName := ⟨RL, "some", "(II)I"⟩
abbrev cL_plan : ByteArray := method_4_code
def yL_plan : MethodName := ⟨RL, "plan", "(LCasebookSteps;)I"⟩
abbrev cL_step : ByteArray := method_5_code
def yL_step : MethodName := ⟨RL, "step", "(LCasebookSteps;ICI)I"⟩
abbrev cL_condition : ByteArray := method_6_code
def yL_condition : MethodName := ⟨RL, "condition", "(LCasebookSteps;IIZC[I)I"⟩
abbrev cL_flag : ByteArray := method_7_code
def yL_flag : MethodName := ⟨RL, "flag", "(LCasebookSteps;IICZ)I"⟩
abbrev cL_limit : ByteArray := method_8_code
def yL_limit : MethodName := ⟨RL, "limit", "(LCasebookSteps;III)I"⟩
abbrev cL_of : ByteArray := method_9_code
def yL_of : MethodName := ⟨RL, "of", "(LCasebookSteps;IZ)I"⟩
abbrev cL_begin : ByteArray := method_10_code
def yL_begin : MethodName := ⟨RL, "begin", "(LCasebookSteps;I)I"⟩
abbrev cL_happens : ByteArray := method_11_code
def yL_happens : MethodName := ⟨RL, "happens", "(LCasebookSteps;ICII)I"⟩
abbrev cL_complete : ByteArray := method_12_code
def yL_complete : MethodName := ⟨RL, "complete", "(LCasebookSteps;II)I"⟩
abbrev cL_waiting : ByteArray := method_13_code
def yL_waiting : MethodName := ⟨RL, "waiting", "(LCasebookSteps;IZ)I"⟩
abbrev cL_pass : ByteArray := method_14_code
def yL_pass : MethodName := ⟨RL, "pass", "(LCasebookSteps;I)I"⟩
abbrev cL_at : ByteArray := method_15_code
def yL_at : MethodName := ⟨RL, "at", "(LCasebookSteps;III)I"⟩
abbrev cL_holds : ByteArray := method_16_code
def yL_holds : MethodName := ⟨RL, "holds", "(LCasebookSteps;IIZI)I"⟩
abbrev cL_case0 : ByteArray := method_17_code
def yL_case0 : MethodName := ⟨RL, "case0", "(LCasebookSteps;II)I"⟩
abbrev cL_datum : ByteArray := method_18_code
def yL_datum : MethodName := ⟨RL, "datum", "(LCasebookSteps;II)I"⟩
abbrev cL_share : ByteArray := method_19_code
def yL_share : MethodName := ⟨RL, "share", "(LCasebookSteps;I)F"⟩
abbrev cL_plans : ByteArray := method_20_code
def yL_plans : MethodName := ⟨RL, "plans", "(LCasebookSteps;)I"⟩
abbrev cL_sum : ByteArray := method_21_code
def yL_sum : MethodName := ⟨RL, "sum", "(LCasebookSteps;)J"⟩
abbrev cL_isSound : ByteArray := method_22_code
def yL_isSound : MethodName := ⟨RL, "isSound", "(LCasebookSteps;)Z"⟩
abbrev cL_law : ByteArray := code
def yL_law : MethodName := ⟨RL, "law", "([I)Z"⟩
theorem dJ9_max_7cf53_0 : decode cJ9_max_7cf53 0 = .ok (.iload_n 0, 1) := by decide +kernel
theorem dJ9_max_7cf53_1 : decode cJ9_max_7cf53 1 = .ok (.iload_n 1, 1) := by decide +kernel
theorem dJ9_max_7cf53_2 : decode cJ9_max_7cf53 2 = .ok (.if_icmp .lt 7, 3) := by decide +kernel
theorem dJ9_max_7cf53_5 : decode cJ9_max_7cf53 5 = .ok (.iload_n 0, 1) := by decide +kernel
theorem dJ9_max_7cf53_6 : decode cJ9_max_7cf53 6 = .ok (.goto 4, 3) := by decide +kernel
theorem dJ9_max_7cf53_9 : decode cJ9_max_7cf53 9 = .ok (.iload_n 1, 1) := by decide +kernel
theorem dJ9_max_7cf53_10 : decode cJ9_max_7cf53 10 = .ok (.ireturn, 1) := by decide +kernel
theorem dJ0_charAt_5068e_0 : decode cJ0_charAt_5068e 0 = .ok (.aload_n 0, 1) := by decide +kernel
theorem dJ0_charAt_5068e_1 : decode cJ0_charAt_5068e 1 = .ok (.invokevirtual 492, 3) := by decide +kernel
theorem dJ0_charAt_5068e_4 : decode cJ0_charAt_5068e 4 = .ok (.ifCond .eq 12, 3) := by decide +kernel
theorem dJ0_charAt_5068e_7 : decode cJ0_charAt_5068e 7 = .ok (.aload_n 0, 1) := by decide +kernel
theorem dJ0_charAt_5068e_8 : decode cJ0_charAt_5068e 8 = .ok (.getfield 9, 3) := by decide +kernel
theorem dJ0_charAt_5068e_11 : decode cJ0_charAt_5068e 11 = .ok (.iload_n 1, 1) := by decide +kernel
theorem dJ0_charAt_5068e_12 : decode cJ0_charAt_5068e 12 = .ok (.invokestatic 495, 3) := by decide +kernel
theorem dJ0_charAt_5068e_15 : decode cJ0_charAt_5068e 15 = .ok (.ireturn, 1) := by decide +kernel
theorem dJ0_charAt_5068e_16 : decode cJ0_charAt_5068e 16 = .ok (.aload_n 0, 1) := by decide +kernel
theorem dJ0_charAt_5068e_17 : decode cJ0_charAt_5068e 17 = .ok (.getfield 9, 3) := by decide +kernel
theorem dJ0_charAt_5068e_20 : decode cJ0_charAt_5068e 20 = .ok (.iload_n 1, 1) := by decide +kernel
theorem dJ0_charAt_5068e_21 : decode cJ0_charAt_5068e 21 = .ok (.invokestatic 498, 3) := by decide +kernel
theorem dJ0_charAt_5068e_24 : decode cJ0_charAt_5068e 24 = .ok (.ireturn, 1) := by decide +kernel
theorem dJ0_isLatin1_aae02_0 : decode cJ0_isLatin1_aae02 0 = .ok (.getstatic 38, 3) := by decide +kernel
theorem dJ0_isLatin1_aae02_3 : decode cJ0_isLatin1_aae02 3 = .ok (.ifCond .eq 14, 3) := by decide +kernel
theorem dJ0_isLatin1_aae02_6 : decode cJ0_isLatin1_aae02 6 = .ok (.aload_n 0, 1) := by decide +kernel
theorem dJ0_isLatin1_aae02_7 : decode cJ0_isLatin1_aae02 7 = .ok (.getfield 15, 3) := by decide +kernel
theorem dJ0_isLatin1_aae02_10 : decode cJ0_isLatin1_aae02 10 = .ok (.ifCond .ne 7, 3) := by decide +kernel
theorem dJ0_isLatin1_aae02_13 : decode cJ0_isLatin1_aae02 13 = .ok (.iconst 1, 1) := by decide +kernel
theorem dJ0_isLatin1_aae02_14 : decode cJ0_isLatin1_aae02 14 = .ok (.goto 4, 3) := by decide +kernel
theorem dJ0_isLatin1_aae02_17 : decode cJ0_isLatin1_aae02 17 = .ok (.iconst 0, 1) := by decide +kernel
theorem dJ0_isLatin1_aae02_18 : decode cJ0_isLatin1_aae02 18 = .ok (.ireturn, 1) := by decide +kernel
theorem dJ0_checkIndex_df160_0 : decode cJ0_checkIndex_df160 0 = .ok (.iload_n 0, 1) := by decide +kernel
theorem dJ0_checkIndex_df160_1 : decode cJ0_checkIndex_df160 1 = .ok (.iload_n 1, 1) := by decide +kernel
theorem dJ0_checkIndex_df160_2 : decode cJ0_checkIndex_df160 2 = .ok (.getstatic 1053, 3) := by decide +kernel
theorem dJ0_checkIndex_df160_5 : decode cJ0_checkIndex_df160 5 = .ok (.invokestatic 1059, 3) := by decide +kernel
theorem dJ0_checkIndex_df160_8 : decode cJ0_checkIndex_df160 8 = .ok (.pop, 1) := by decide +kernel
theorem dJ0_checkIndex_df160_9 : decode cJ0_checkIndex_df160 9 = .ok (.return_, 1) := by decide +kernel
theorem dJ1_charAt_3b067_0 : decode cJ1_charAt_3b067 0 = .ok (.iload_n 1, 1) := by decide +kernel
theorem dJ1_charAt_3b067_1 : decode cJ1_charAt_3b067 1 = .ok (.aload_n 0, 1) := by decide +kernel
theorem dJ1_charAt_3b067_2 : decode cJ1_charAt_3b067 2 = .ok (.arraylength, 1) := by decide +kernel
theorem dJ1_charAt_3b067_3 : decode cJ1_charAt_3b067 3 = .ok (.invokestatic 9, 3) := by decide +kernel
theorem dJ1_charAt_3b067_6 : decode cJ1_charAt_3b067 6 = .ok (.aload_n 0, 1) := by decide +kernel
theorem dJ1_charAt_3b067_7 : decode cJ1_charAt_3b067 7 = .ok (.iload_n 1, 1) := by decide +kernel
theorem dJ1_charAt_3b067_8 : decode cJ1_charAt_3b067 8 = .ok (.baload, 1) := by decide +kernel
theorem dJ1_charAt_3b067_9 : decode cJ1_charAt_3b067 9 = .ok (.sipush 255, 3) := by decide +kernel
theorem dJ1_charAt_3b067_12 : decode cJ1_charAt_3b067 12 = .ok (.iand, 1) := by decide +kernel
theorem dJ1_charAt_3b067_13 : decode cJ1_charAt_3b067 13 = .ok (.i2c, 1) := by decide +kernel
theorem dJ1_charAt_3b067_14 : decode cJ1_charAt_3b067 14 = .ok (.ireturn, 1) := by decide +kernel
theorem dJ2_getChar_3b067_0 : decode cJ2_getChar_3b067 0 = .ok (.getstatic 44, 3) := by decide +kernel
theorem dJ2_getChar_3b067_3 : decode cJ2_getChar_3b067 3 = .ok (.ifCond .ne 25, 3) := by decide +kernel
theorem dJ2_getChar_3b067_6 : decode cJ2_getChar_3b067 6 = .ok (.iload_n 1, 1) := by decide +kernel
theorem dJ2_getChar_3b067_7 : decode cJ2_getChar_3b067 7 = .ok (.ifCond .lt 11, 3) := by decide +kernel
theorem dJ2_getChar_3b067_10 : decode cJ2_getChar_3b067 10 = .ok (.iload_n 1, 1) := by decide +kernel
theorem dJ2_getChar_3b067_11 : decode cJ2_getChar_3b067 11 = .ok (.aload_n 0, 1) := by decide +kernel
theorem dJ2_getChar_3b067_12 : decode cJ2_getChar_3b067 12 = .ok (.invokestatic 48, 3) := by decide +kernel
theorem dJ2_getChar_3b067_15 : decode cJ2_getChar_3b067 15 = .ok (.if_icmp .lt 13, 3) := by decide +kernel
theorem dJ2_getChar_3b067_18 : decode cJ2_getChar_3b067 18 = .ok (.new 52, 3) := by decide +kernel
theorem dJ2_getChar_3b067_21 : decode cJ2_getChar_3b067 21 = .ok (.dup, 1) := by decide +kernel
theorem dJ2_getChar_3b067_22 : decode cJ2_getChar_3b067 22 = .ok (.ldc 54, 2) := by decide +kernel
theorem dJ2_getChar_3b067_24 : decode cJ2_getChar_3b067 24 = .ok (.invokespecial 56, 3) := by decide +kernel
theorem dJ2_getChar_3b067_27 : decode cJ2_getChar_3b067 27 = .ok (.athrow, 1) := by decide +kernel
theorem dJ2_getChar_3b067_28 : decode cJ2_getChar_3b067 28 = .ok (.iload_n 1, 1) := by decide +kernel
theorem dJ2_getChar_3b067_29 : decode cJ2_getChar_3b067 29 = .ok (.iconst 1, 1) := by decide +kernel
theorem dJ2_getChar_3b067_30 : decode cJ2_getChar_3b067 30 = .ok (.ishl, 1) := by decide +kernel
theorem dJ2_getChar_3b067_31 : decode cJ2_getChar_3b067 31 = .ok (.istore_n 1, 1) := by decide +kernel
theorem dJ2_getChar_3b067_32 : decode cJ2_getChar_3b067 32 = .ok (.aload_n 0, 1) := by decide +kernel
theorem dJ2_getChar_3b067_33 : decode cJ2_getChar_3b067 33 = .ok (.iload_n 1, 1) := by decide +kernel
theorem dJ2_getChar_3b067_34 : decode cJ2_getChar_3b067 34 = .ok (.iinc 1 1, 3) := by decide +kernel
theorem dJ2_getChar_3b067_37 : decode cJ2_getChar_3b067 37 = .ok (.baload, 1) := by decide +kernel
theorem dJ2_getChar_3b067_38 : decode cJ2_getChar_3b067 38 = .ok (.sipush 255, 3) := by decide +kernel
theorem dJ2_getChar_3b067_41 : decode cJ2_getChar_3b067 41 = .ok (.iand, 1) := by decide +kernel
theorem dJ2_getChar_3b067_42 : decode cJ2_getChar_3b067 42 = .ok (.getstatic 59, 3) := by decide +kernel
theorem dJ2_getChar_3b067_45 : decode cJ2_getChar_3b067 45 = .ok (.ishl, 1) := by decide +kernel
theorem dJ2_getChar_3b067_46 : decode cJ2_getChar_3b067 46 = .ok (.aload_n 0, 1) := by decide +kernel
theorem dJ2_getChar_3b067_47 : decode cJ2_getChar_3b067 47 = .ok (.iload_n 1, 1) := by decide +kernel
theorem dJ2_getChar_3b067_48 : decode cJ2_getChar_3b067 48 = .ok (.baload, 1) := by decide +kernel
theorem dJ2_getChar_3b067_49 : decode cJ2_getChar_3b067 49 = .ok (.sipush 255, 3) := by decide +kernel
theorem dJ2_getChar_3b067_52 : decode cJ2_getChar_3b067 52 = .ok (.iand, 1) := by decide +kernel
theorem dJ2_getChar_3b067_53 : decode cJ2_getChar_3b067 53 = .ok (.getstatic 63, 3) := by decide +kernel
theorem dJ2_getChar_3b067_56 : decode cJ2_getChar_3b067 56 = .ok (.ishl, 1) := by decide +kernel
theorem dJ2_getChar_3b067_57 : decode cJ2_getChar_3b067 57 = .ok (.ior, 1) := by decide +kernel
theorem dJ2_getChar_3b067_58 : decode cJ2_getChar_3b067 58 = .ok (.i2c, 1) := by decide +kernel
theorem dJ2_getChar_3b067_59 : decode cJ2_getChar_3b067 59 = .ok (.ireturn, 1) := by decide +kernel
theorem dJ2_length_9d52b_0 : decode cJ2_length_9d52b 0 = .ok (.aload_n 0, 1) := by decide +kernel
theorem dJ2_length_9d52b_1 : decode cJ2_length_9d52b 1 = .ok (.arraylength, 1) := by decide +kernel
theorem dJ2_length_9d52b_2 : decode cJ2_length_9d52b 2 = .ok (.iconst 1, 1) := by decide +kernel
theorem dJ2_length_9d52b_3 : decode cJ2_length_9d52b 3 = .ok (.ishr, 1) := by decide +kernel
theorem dJ2_length_9d52b_4 : decode cJ2_length_9d52b 4 = .ok (.ireturn, 1) := by decide +kernel
theorem dJ2_charAt_3b067_0 : decode cJ2_charAt_3b067 0 = .ok (.iload_n 1, 1) := by decide +kernel
theorem dJ2_charAt_3b067_1 : decode cJ2_charAt_3b067 1 = .ok (.aload_n 0, 1) := by decide +kernel
theorem dJ2_charAt_3b067_2 : decode cJ2_charAt_3b067 2 = .ok (.invokestatic 67, 3) := by decide +kernel
theorem dJ2_charAt_3b067_5 : decode cJ2_charAt_3b067 5 = .ok (.aload_n 0, 1) := by decide +kernel
theorem dJ2_charAt_3b067_6 : decode cJ2_charAt_3b067 6 = .ok (.iload_n 1, 1) := by decide +kernel
theorem dJ2_charAt_3b067_7 : decode cJ2_charAt_3b067 7 = .ok (.invokestatic 71, 3) := by decide +kernel
theorem dJ2_charAt_3b067_10 : decode cJ2_charAt_3b067 10 = .ok (.ireturn, 1) := by decide +kernel
theorem dJ2_checkIndex_2214a_0 : decode cJ2_checkIndex_2214a 0 = .ok (.iload_n 0, 1) := by decide +kernel
theorem dJ2_checkIndex_2214a_1 : decode cJ2_checkIndex_2214a 1 = .ok (.aload_n 1, 1) := by decide +kernel
theorem dJ2_checkIndex_2214a_2 : decode cJ2_checkIndex_2214a 2 = .ok (.invokestatic 48, 3) := by decide +kernel
theorem dJ2_checkIndex_2214a_5 : decode cJ2_checkIndex_2214a 5 = .ok (.invokestatic 414, 3) := by decide +kernel
theorem dJ2_checkIndex_2214a_8 : decode cJ2_checkIndex_2214a 8 = .ok (.return_, 1) := by decide +kernel
theorem dJ3_checkIndex_8e157_0 : decode cJ3_checkIndex_8e157 0 = .ok (.iload_n 0, 1) := by decide +kernel
theorem dJ3_checkIndex_8e157_1 : decode cJ3_checkIndex_8e157 1 = .ok (.ifCond .lt 8, 3) := by decide +kernel
theorem dJ3_checkIndex_8e157_4 : decode cJ3_checkIndex_8e157 4 = .ok (.iload_n 0, 1) := by decide +kernel
theorem dJ3_checkIndex_8e157_5 : decode cJ3_checkIndex_8e157 5 = .ok (.iload_n 1, 1) := by decide +kernel
theorem dJ3_checkIndex_8e157_6 : decode cJ3_checkIndex_8e157 6 = .ok (.if_icmp .lt 10, 3) := by decide +kernel
theorem dJ3_checkIndex_8e157_9 : decode cJ3_checkIndex_8e157 9 = .ok (.aload_n 2, 1) := by decide +kernel
theorem dJ3_checkIndex_8e157_10 : decode cJ3_checkIndex_8e157 10 = .ok (.iload_n 0, 1) := by decide +kernel
theorem dJ3_checkIndex_8e157_11 : decode cJ3_checkIndex_8e157 11 = .ok (.iload_n 1, 1) := by decide +kernel
theorem dJ3_checkIndex_8e157_12 : decode cJ3_checkIndex_8e157 12 = .ok (.invokestatic 95, 3) := by decide +kernel
theorem dJ3_checkIndex_8e157_15 : decode cJ3_checkIndex_8e157 15 = .ok (.athrow, 1) := by decide +kernel
theorem dJ3_checkIndex_8e157_16 : decode cJ3_checkIndex_8e157 16 = .ok (.iload_n 0, 1) := by decide +kernel
theorem dJ3_checkIndex_8e157_17 : decode cJ3_checkIndex_8e157 17 = .ok (.ireturn, 1) := by decide +kernel
abbrev vwCl : List vw_C := [(RX0, TX0, 11), (RX1, TX1, 3), (RX2, TX2, 2), (RX3, TX3, 5), (RX4, TX4, 4), (RX5, TX5, 7), (RX6, TX6, 6)]
