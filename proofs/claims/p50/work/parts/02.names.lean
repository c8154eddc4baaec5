def RX0 : String := "QuillRelay$1"
def TX0 : u_T := fun k => match k with
  | _ => ("", "", "", false)
def tyX0 : Nat → FieldType := fun k => match k with
  | _ => .int
theorem nmX0 : ∀ a, a < 0 → ∀ b, b < 0 → a ≠ b → (TX0 a).2.1 ≠ (TX0 b).2.1 := by decide +kernel
theorem tyX0_ok : ∀ k, k < 0 → parseFieldDescriptor (TX0 k).2.2.1 = some (tyX0 k) := by decide +kernel
def RX1 : String := "QuillRelay$Fault"
def TX1 : u_T := fun k => match k with
  | _ => ("", "", "", false)
def tyX1 : Nat → FieldType := fun k => match k with
  | _ => .int
theorem nmX1 : ∀ a, a < 0 → ∀ b, b < 0 → a ≠ b → (TX1 a).2.1 ≠ (TX1 b).2.1 := by decide +kernel
theorem tyX1_ok : ∀ k, k < 0 → parseFieldDescriptor (TX1 k).2.2.1 = some (tyX1 k) := by decide +kernel
def RX2 : String := "QuillRelay$History"
def TX2 : u_T := fun k => match k with
  | 0 => ("QuillRelay$History", "rows", "[LQuillRelay$Race;", true)
  | 1 => ("QuillRelay$History", "newest", "I", false)
  | _ => ("QuillRelay$History", "size", "I", false)
def tyX2 : Nat → FieldType := fun k => match k with
  | 0 => .array (.object "QuillRelay$Race")
  | 1 => .int
  | _ => .int
theorem nmX2 : ∀ a, a < 3 → ∀ b, b < 3 → a ≠ b → (TX2 a).2.1 ≠ (TX2 b).2.1 := by decide +kernel
theorem tyX2_ok : ∀ k, k < 3 → parseFieldDescriptor (TX2 k).2.2.1 = some (tyX2 k) := by decide +kernel
abbrev cX2_init : ByteArray := prog_4_method_1_code
def yX2_init : MethodName := ⟨RX2, "<init>", "()V"⟩
abbrev cX2_push : ByteArray := prog_4_method_2_code
def yX2_push : MethodName := ⟨RX2, "push", "(LQuillRelay$Race;)V"⟩
abbrev cX2_popInto : ByteArray := prog_4_method_3_code
def yX2_popInto : MethodName := ⟨RX2, "popInto", "(LQuillRelay$Race;)V"⟩
def RX3 : String := "QuillRelay$Program"
def TX3 : u_T := fun k => match k with
  | 0 => ("QuillRelay$Program", "text", "Ljava/lang/StringBuilder;", true)
  | 1 => ("QuillRelay$Program", "arguments", "[I", true)
  | 2 => ("QuillRelay$Program", "argumentCount", "I", false)
  | 3 => ("QuillRelay$Program", "end", "I", false)
  | 4 => ("QuillRelay$Program", "commands", "I", false)
  | _ => ("QuillRelay$Program", "verb", "LQuillRelay$Verb;", false)
def tyX3 : Nat → FieldType := fun k => match k with
  | 0 => .object "java/lang/StringBuilder"
  | 1 => .array .int
  | 2 => .int
  | 3 => .int
  | 4 => .int
  | _ => .object "QuillRelay$Verb"
theorem nmX3 : ∀ a, a < 6 → ∀ b, b < 6 → a ≠ b → (TX3 a).2.1 ≠ (TX3 b).2.1 := by decide +kernel
theorem tyX3_ok : ∀ k, k < 6 → parseFieldDescriptor (TX3 k).2.2.1 = some (tyX3 k) := by decide +kernel
abbrev cX3_init : ByteArray := prog_5_method_1_code
def yX3_init : MethodName := ⟨RX3, "<init>", "()V"⟩
abbrev cX3_findError : ByteArray := prog_5_method_2_code
def yX3_findError : MethodName := ⟨RX3, "findError", "()I"⟩
abbrev cX3_rewind : ByteArray := prog_5_method_3_code
def yX3_rewind : MethodName := ⟨RX3, "rewind", "()V"⟩
abbrev cX3_readNext : ByteArray := prog_5_method_4_code
def yX3_readNext : MethodName := ⟨RX3, "readNext", "()Z"⟩
abbrev cX3_readPattern : ByteArray := prog_5_method_5_code
def yX3_readPattern : MethodName := ⟨RX3, "readPattern", "(Ljava/lang/String;I)Z"⟩
abbrev cX3_readSign : ByteArray := prog_5_method_6_code
def yX3_readSign : MethodName := ⟨RX3, "readSign", "(C)Z"⟩
abbrev cX3_readCharacter : ByteArray := prog_5_method_7_code
def yX3_readCharacter : MethodName := ⟨RX3, "readCharacter", "(C)Z"⟩
abbrev cX3_readDigits : ByteArray := prog_5_method_8_code
def yX3_readDigits : MethodName := ⟨RX3, "readDigits", "(I)Z"⟩
abbrev cX3_isDigit : ByteArray := prog_5_method_9_code
def yX3_isDigit : MethodName := ⟨RX3, "isDigit", "(C)Z"⟩
abbrev cX3_readKind : ByteArray := prog_5_method_10_code
def yX3_readKind : MethodName := ⟨RX3, "readKind", "()Z"⟩
abbrev cX3_addArgument : ByteArray := prog_5_method_11_code
def yX3_addArgument : MethodName := ⟨RX3, "addArgument", "(I)V"⟩
def RX4 : String := "QuillRelay$Race"
def TX4 : u_T := fun k => match k with
  | 0 => ("QuillRelay$Race", "teams", "[LQuillRelay$Team;", true)
  | 1 => ("QuillRelay$Race", "begun", "Z", false)
  | 2 => ("QuillRelay$Race", "secondsPassed", "I", false)
  | _ => ("QuillRelay$Race", "legLength", "I", false)
def tyX4 : Nat → FieldType := fun k => match k with
  | 0 => .array (.object "QuillRelay$Team")
  | 1 => .boolean
  | 2 => .int
  | _ => .int
theorem nmX4 : ∀ a, a < 4 → ∀ b, b < 4 → a ≠ b → (TX4 a).2.1 ≠ (TX4 b).2.1 := by decide +kernel
theorem tyX4_ok : ∀ k, k < 4 → parseFieldDescriptor (TX4 k).2.2.1 = some (tyX4 k) := by decide +kernel
abbrev cX4_init : ByteArray := prog_6_method_1_code
def yX4_init : MethodName := ⟨RX4, "<init>", "()V"⟩
abbrev cX4_copyFrom : ByteArray := prog_6_method_2_code
def yX4_copyFrom : MethodName := ⟨RX4, "copyFrom", "(LQuillRelay$Race;)V"⟩
abbrev cX4_find : ByteArray := prog_6_method_3_code
def yX4_find : MethodName := ⟨RX4, "find", "(I)LQuillRelay$Team;"⟩
abbrev cX4_countEntered : ByteArray := prog_6_method_4_code
def yX4_countEntered : MethodName := ⟨RX4, "countEntered", "()I"⟩
abbrev cX4_countRunning : ByteArray := prog_6_method_5_code
def yX4_countRunning : MethodName := ⟨RX4, "countRunning", "()I"⟩
abbrev cX4_countFinished : ByteArray := prog_6_method_6_code
def yX4_countFinished : MethodName := ⟨RX4, "countFinished", "()I"⟩
abbrev cX4_countIn : ByteArray := prog_6_method_7_code
def yX4_countIn : MethodName := ⟨RX4, "countIn", "(LQuillRelay$Stage;)I"⟩
abbrev cX4_sumOfTimes : ByteArray := prog_6_method_8_code
def yX4_sumOfTimes : MethodName := ⟨RX4, "sumOfTimes", "()I"⟩
abbrev cX4_numberInLane : ByteArray := prog_6_method_9_code
def yX4_numberInLane : MethodName := ⟨RX4, "numberInLane", "(I)I"⟩
abbrev cX4_numberAtRank : ByteArray := prog_6_method_10_code
def yX4_numberAtRank : MethodName := ⟨RX4, "numberAtRank", "(I)I"⟩
abbrev cX4_countAhead : ByteArray := prog_6_method_11_code
def yX4_countAhead : MethodName := ⟨RX4, "countAhead", "(LQuillRelay$Team;)I"⟩
abbrev cX4_faultOfEntering : ByteArray := prog_6_method_12_code
def yX4_faultOfEntering : MethodName := ⟨RX4, "faultOfEntering", "()LQuillRelay$Fault;"⟩
abbrev cX4_faultOfSpeed : ByteArray := prog_6_method_13_code
def yX4_faultOfSpeed : MethodName := ⟨RX4, "faultOfSpeed", "(III)LQuillRelay$Fault;"⟩
abbrev cX4_faultOfLength : ByteArray := prog_6_method_14_code
def yX4_faultOfLength : MethodName := ⟨RX4, "faultOfLength", "(I)LQuillRelay$Fault;"⟩
abbrev cX4_faultOfDrawing : ByteArray := prog_6_method_15_code
def yX4_faultOfDrawing : MethodName := ⟨RX4, "faultOfDrawing", "(I)LQuillRelay$Fault;"⟩
abbrev cX4_faultOfStarting : ByteArray := prog_6_method_16_code
def yX4_faultOfStarting : MethodName := ⟨RX4, "faultOfStarting", "()LQuillRelay$Fault;"⟩
abbrev cX4_faultOfRunning : ByteArray := prog_6_method_17_code
def yX4_faultOfRunning : MethodName := ⟨RX4, "faultOfRunning", "(I)LQuillRelay$Fault;"⟩
abbrev cX4_faultOfDropping : ByteArray := prog_6_method_18_code
def yX4_faultOfDropping : MethodName := ⟨RX4, "faultOfDropping", "(II)LQuillRelay$Fault;"⟩
abbrev cX4_faultOfWithdrawing : ByteArray := prog_6_method_19_code
def yX4_faultOfWithdrawing : MethodName := ⟨RX4, "faultOfWithdrawing", "(I)LQuillRelay$Fault;"⟩
abbrev cX4_faultOfProtesting : ByteArray := prog_6_method_20_code
def yX4_faultOfProtesting : MethodName := ⟨RX4, "faultOfProtesting", "(III)LQuillRelay$Fault;"⟩
abbrev cX4_enterTeam : ByteArray := prog_6_method_21_code
def yX4_enterTeam : MethodName := ⟨RX4, "enterTeam", "()I"⟩
abbrev cX4_shuffleLanes : ByteArray := prog_6_method_22_code
def yX4_shuffleLanes : MethodName := ⟨RX4, "shuffleLanes", "(I)V"⟩
abbrev cX4_freeLane : ByteArray := prog_6_method_23_code
def yX4_freeLane : MethodName := ⟨RX4, "freeLane", "(III)I"⟩
abbrev cX4_isTaken : ByteArray := prog_6_method_24_code
def yX4_isTaken : MethodName := ⟨RX4, "isTaken", "(II)Z"⟩
abbrev cX4_begin : ByteArray := prog_6_method_25_code
def yX4_begin : MethodName := ⟨RX4, "begin", "()V"⟩
abbrev cX4_letSecondsPass : ByteArray := prog_6_method_26_code
def yX4_letSecondsPass : MethodName := ⟨RX4, "letSecondsPass", "(I)I"⟩
abbrev cX4_handOver : ByteArray := prog_6_method_27_code
def yX4_handOver : MethodName := ⟨RX4, "handOver", "(LQuillRelay$Team;)I"⟩
abbrev cX4_dropQuill : ByteArray := prog_6_method_28_code
def yX4_dropQuill : MethodName := ⟨RX4, "dropQuill", "(LQuillRelay$Team;I)I"⟩
abbrev cX4_judge : ByteArray := prog_6_method_29_code
def yX4_judge : MethodName := ⟨RX4, "judge", "(LQuillRelay$Team;LQuillRelay$Team;I)Z"⟩
def RX5 : String := "QuillRelay$Stage"
def TX5 : u_T := fun k => match k with
  | _ => ("", "", "", false)
def tyX5 : Nat → FieldType := fun k => match k with
  | _ => .int
theorem nmX5 : ∀ a, a < 0 → ∀ b, b < 0 → a ≠ b → (TX5 a).2.1 ≠ (TX5 b).2.1 := by decide +kernel
theorem tyX5_ok : ∀ k, k < 0 → parseFieldDescriptor (TX5 k).2.2.1 = some (tyX5 k) := by decide +kernel
def RX6 : String := "QuillRelay$Team"
def TX6 : u_T := fun k => match k with
  | 0 => ("QuillRelay$Team", "number", "I", true)
  | 1 => ("QuillRelay$Team", "speeds", "[I", true)
  | 2 => ("QuillRelay$Team", "splits", "[I", true)
  | 3 => ("QuillRelay$Team", "stage", "LQuillRelay$Stage;", false)
  | 4 => ("QuillRelay$Team", "lane", "I", false)
  | 5 => ("QuillRelay$Team", "position", "I", false)
  | 6 => ("QuillRelay$Team", "leg", "I", false)
  | 7 => ("QuillRelay$Team", "secondsRun", "I", false)
  | 8 => ("QuillRelay$Team", "standing", "I", false)
  | 9 => ("QuillRelay$Team", "penalty", "I", false)
  | 10 => ("QuillRelay$Team", "lastPass", "I", false)
  | 11 => ("QuillRelay$Team", "time", "I", false)
  | 12 => ("QuillRelay$Team", "lateFoul", "Z", false)
  | _ => ("QuillRelay$Team", "dropFoul", "Z", false)
def tyX6 : Nat → FieldType := fun k => match k with
  | 0 => .int
  | 1 => .array .int
  | 2 => .array .int
  | 3 => .object "QuillRelay$Stage"
  | 4 => .int
  | 5 => .int
  | 6 => .int
  | 7 => .int
  | 8 => .int
  | 9 => .int
  | 10 => .int
  | 11 => .int
  | 12 => .boolean
  | _ => .boolean
theorem nmX6 : ∀ a, a < 14 → ∀ b, b < 14 → a ≠ b → (TX6 a).2.1 ≠ (TX6 b).2.1 := by decide +kernel
theorem tyX6_ok : ∀ k, k < 14 → parseFieldDescriptor (TX6 k).2.2.1 = some (tyX6 k) := by decide +kernel
abbrev cX6_init : ByteArray := prog_8_method_1_code
def yX6_init : MethodName := ⟨RX6, "<init>", "(I)V"⟩
abbrev cX6_copyFrom : ByteArray := prog_8_method_2_code
def yX6_copyFrom : MethodName := ⟨RX6, "copyFrom", "(LQuillRelay$Team;)V"⟩
abbrev cX6_speedOn : ByteArray := prog_8_method_3_code
def yX6_speedOn : MethodName := ⟨RX6, "speedOn", "(I)I"⟩
abbrev cX6_changeSpeed : ByteArray := prog_8_method_4_code
def yX6_changeSpeed : MethodName := ⟨RX6, "changeSpeed", "(II)I"⟩
abbrev cX6_legEnd : ByteArray := prog_8_method_5_code
def yX6_legEnd : MethodName := ⟨RX6, "legEnd", "(I)I"⟩
abbrev cX6_inZone : ByteArray := prog_8_method_6_code
def yX6_inZone : MethodName := ⟨RX6, "inZone", "(I)Z"⟩
abbrev cX6_reasonToRefuse : ByteArray := prog_8_method_7_code
def yX6_reasonToRefuse : MethodName := ⟨RX6, "reasonToRefuse", "(I)I"⟩
abbrev cX6_moveOneSecond : ByteArray := prog_8_method_8_code
def yX6_moveOneSecond : MethodName := ⟨RX6, "moveOneSecond", "(II)Z"⟩
abbrev cX6_runOneSecond : ByteArray := prog_8_method_9_code
def yX6_runOneSecond : MethodName := ⟨RX6, "runOneSecond", "(I)V"⟩
abbrev cX6_endLeg : ByteArray := prog_8_method_10_code
def yX6_endLeg : MethodName := ⟨RX6, "endLeg", "(I)I"⟩
abbrev cX6_hasEnded : ByteArray := prog_8_method_11_code
def yX6_hasEnded : MethodName := ⟨RX6, "hasEnded", "(I)Z"⟩
abbrev cX6_secondsUntilZone : ByteArray := prog_8_method_12_code
def yX6_secondsUntilZone : MethodName := ⟨RX6, "secondsUntilZone", "(I)I"⟩
abbrev cX6_committed : ByteArray := prog_8_method_13_code
def yX6_committed : MethodName := ⟨RX6, "committed", "(I)Z"⟩
abbrev cX6_removeFoul : ByteArray := prog_8_method_14_code
def yX6_removeFoul : MethodName := ⟨RX6, "removeFoul", "(I)V"⟩
abbrev cX6_result : ByteArray := prog_8_method_15_code
def yX6_result : MethodName := ⟨RX6, "result", "()I"⟩
abbrev cX6_isAheadOf : ByteArray := prog_8_method_16_code
def yX6_isAheadOf : MethodName := ⟨RX6, "isAheadOf", "(LQuillRelay$Team;)Z"⟩
def RX7 : String := "QuillRelay$Verb"
def TX7 : u_T := fun k => match k with
  | _ => ("", "", "", false)
def tyX7 : Nat → FieldType := fun k => match k with
  | _ => .int
theorem nmX7 : ∀ a, a < 0 → ∀ b, b < 0 → a ≠ b → (TX7 a).2.1 ≠ (TX7 b).2.1 := by decide +kernel
theorem tyX7_ok : ∀ k, k < 0 → parseFieldDescriptor (TX7 k).2.2.1 = some (tyX7 k) := by decide +kernel
def RX8 : String := "QuillRelay"
def TX8 : u_T := fun k => match k with
  | 0 => ("QuillRelay", "race", "LQuillRelay$Race;", true)
  | 1 => ("QuillRelay", "before", "LQuillRelay$Race;", true)
  | 2 => ("QuillRelay", "snapshot", "LQuillRelay$Race;", true)
  | 3 => ("QuillRelay", "history", "LQuillRelay$History;", true)
  | 4 => ("QuillRelay", "program", "LQuillRelay$Program;", true)
  | 5 => ("QuillRelay", "banner", "Ljava/lang/StringBuilder;", true)
  | 6 => ("QuillRelay", "snapshotTaken", "Z", false)
  | 7 => ("QuillRelay", "lastReason", "I", false)
  | 8 => ("QuillRelay", "lastRefusedTeam", "I", false)
  | 9 => ("QuillRelay", "lastError", "I", false)
  | _ => ("QuillRelay", "lastFailure", "I", false)
def tyX8 : Nat → FieldType := fun k => match k with
  | 0 => .object "QuillRelay$Race"
  | 1 => .object "QuillRelay$Race"
  | 2 => .object "QuillRelay$Race"
  | 3 => .object "QuillRelay$History"
  | 4 => .object "QuillRelay$Program"
  | 5 => .object "java/lang/StringBuilder"
  | 6 => .boolean
  | 7 => .int
  | 8 => .int
  | 9 => .int
  | _ => .int
theorem nmX8 : ∀ a, a < 11 → ∀ b, b < 11 → a ≠ b → (TX8 a).2.1 ≠ (TX8 b).2.1 := by decide +kernel
theorem tyX8_ok : ∀ k, k < 11 → parseFieldDescriptor (TX8 k).2.2.1 = some (tyX8 k) := by decide +kernel
abbrev cX8_init : ByteArray := prog_1_method_1_code
def yX8_init : MethodName := ⟨RX8, "<init>", "()V"⟩
abbrev cX8_addTeam : ByteArray := prog_1_method_2_code
def yX8_addTeam : MethodName := ⟨RX8, "addTeam", "()I"⟩
abbrev cX8_setSpeed : ByteArray := prog_1_method_3_code
def yX8_setSpeed : MethodName := ⟨RX8, "setSpeed", "(III)I"⟩
abbrev cX8_setLength : ByteArray := prog_1_method_4_code
def yX8_setLength : MethodName := ⟨RX8, "setLength", "(I)I"⟩
abbrev cX8_drawLanes : ByteArray := prog_1_method_5_code
def yX8_drawLanes : MethodName := ⟨RX8, "drawLanes", "(I)I"⟩
abbrev cX8_start : ByteArray := prog_1_method_6_code
def yX8_start : MethodName := ⟨RX8, "start", "()I"⟩
abbrev cX8_run : ByteArray := prog_1_method_7_code
def yX8_run : MethodName := ⟨RX8, "run", "(I)I"⟩
abbrev cX8_pass : ByteArray := prog_1_method_8_code
def yX8_pass : MethodName := ⟨RX8, "pass", "(I)I"⟩
abbrev cX8_drop : ByteArray := prog_1_method_9_code
def yX8_drop : MethodName := ⟨RX8, "drop", "(II)I"⟩
abbrev cX8_withdraw : ByteArray := prog_1_method_10_code
def yX8_withdraw : MethodName := ⟨RX8, "withdraw", "(I)I"⟩
abbrev cX8_protest : ByteArray := prog_1_method_11_code
def yX8_protest : MethodName := ⟨RX8, "protest", "(III)Z"⟩
abbrev cX8_teamCount : ByteArray := prog_1_method_12_code
def yX8_teamCount : MethodName := ⟨RX8, "teamCount", "()I"⟩
abbrev cX8_runningCount : ByteArray := prog_1_method_13_code
def yX8_runningCount : MethodName := ⟨RX8, "runningCount", "()I"⟩
abbrev cX8_isStarted : ByteArray := prog_1_method_14_code
def yX8_isStarted : MethodName := ⟨RX8, "isStarted", "()Z"⟩
abbrev cX8_isFinished : ByteArray := prog_1_method_15_code
def yX8_isFinished : MethodName := ⟨RX8, "isFinished", "()Z"⟩
abbrev cX8_clock : ByteArray := prog_1_method_16_code
def yX8_clock : MethodName := ⟨RX8, "clock", "()I"⟩
abbrev cX8_length : ByteArray := prog_1_method_17_code
def yX8_length : MethodName := ⟨RX8, "length", "()I"⟩
abbrev cX8_laneOf : ByteArray := prog_1_method_18_code
def yX8_laneOf : MethodName := ⟨RX8, "laneOf", "(I)I"⟩
abbrev cX8_teamInLane : ByteArray := prog_1_method_19_code
def yX8_teamInLane : MethodName := ⟨RX8, "teamInLane", "(I)I"⟩
abbrev cX8_speedOf : ByteArray := prog_1_method_20_code
def yX8_speedOf : MethodName := ⟨RX8, "speedOf", "(II)I"⟩
abbrev cX8_positionOf : ByteArray := prog_1_method_21_code
def yX8_positionOf : MethodName := ⟨RX8, "positionOf", "(I)I"⟩
abbrev cX8_legOf : ByteArray := prog_1_method_22_code
def yX8_legOf : MethodName := ⟨RX8, "legOf", "(I)I"⟩
abbrev cX8_isRunning : ByteArray := prog_1_method_23_code
def yX8_isRunning : MethodName := ⟨RX8, "isRunning", "(I)Z"⟩
abbrev cX8_isInZone : ByteArray := prog_1_method_24_code
def yX8_isInZone : MethodName := ⟨RX8, "isInZone", "(I)Z"⟩
abbrev cX8_standingOf : ByteArray := prog_1_method_25_code
def yX8_standingOf : MethodName := ⟨RX8, "standingOf", "(I)I"⟩
abbrev cX8_penaltyOf : ByteArray := prog_1_method_26_code
def yX8_penaltyOf : MethodName := ⟨RX8, "penaltyOf", "(I)I"⟩
abbrev cX8_hasFoul : ByteArray := prog_1_method_27_code
def yX8_hasFoul : MethodName := ⟨RX8, "hasFoul", "(II)Z"⟩
abbrev cX8_splitOf : ByteArray := prog_1_method_28_code
def yX8_splitOf : MethodName := ⟨RX8, "splitOf", "(II)I"⟩
abbrev cX8_splitSum : ByteArray := prog_1_method_29_code
def yX8_splitSum : MethodName := ⟨RX8, "splitSum", "(I)I"⟩
abbrev cX8_timeOf : ByteArray := prog_1_method_30_code
def yX8_timeOf : MethodName := ⟨RX8, "timeOf", "(I)I"⟩
abbrev cX8_resultOf : ByteArray := prog_1_method_31_code
def yX8_resultOf : MethodName := ⟨RX8, "resultOf", "(I)I"⟩
abbrev cX8_teamAtRank : ByteArray := prog_1_method_32_code
def yX8_teamAtRank : MethodName := ⟨RX8, "teamAtRank", "(I)I"⟩
abbrev cX8_rankOf : ByteArray := prog_1_method_33_code
def yX8_rankOf : MethodName := ⟨RX8, "rankOf", "(I)I"⟩
abbrev cX8_meanTime : ByteArray := prog_1_method_34_code
def yX8_meanTime : MethodName := ⟨RX8, "meanTime", "()D"⟩
abbrev cX8_reach : ByteArray := prog_1_method_35_code
def yX8_reach : MethodName := ⟨RX8, "reach", "(III)I"⟩
abbrev cX8_secondsToZone : ByteArray := prog_1_method_37_code
def yX8_secondsToZone : MethodName := ⟨RX8, "secondsToZone", "(I)I"⟩
abbrev cX8_writeBanner : ByteArray := prog_1_method_40_code
def yX8_writeBanner : MethodName := ⟨RX8, "writeBanner", "(I)I"⟩
abbrev cX8_type : ByteArray := prog_1_method_42_code
def yX8_type : MethodName := ⟨RX8, "type", "(C)I"⟩
abbrev cX8_execute : ByteArray := prog_1_method_43_code
def yX8_execute : MethodName := ⟨RX8, "execute", "()I"⟩
abbrev cX8_undo : ByteArray := prog_1_method_46_code
def yX8_undo : MethodName := ⟨RX8, "undo", "()I"⟩
abbrev cX8_save : ByteArray := prog_1_method_47_code
def yX8_save : MethodName := ⟨RX8, "save", "()I"⟩
abbrev cX8_restore : ByteArray := prog_1_method_48_code
def yX8_restore : MethodName := ⟨RX8, "restore", "()I"⟩
abbrev cX8_raise : ByteArray := prog_1_method_49_code
def yX8_raise : MethodName := ⟨RX8, "raise", "(LQuillRelay$Fault;)V"⟩
abbrev cX8_teamWith : ByteArray := prog_1_method_50_code
def yX8_teamWith : MethodName := ⟨RX8, "teamWith", "(I)LQuillRelay$Team;"⟩
abbrev cX8_teamWithLeg : ByteArray := prog_1_method_51_code
def yX8_teamWithLeg : MethodName := ⟨RX8, "teamWithLeg", "(II)LQuillRelay$Team;"⟩
abbrev cX8_finishedTeamWith : ByteArray := prog_1_method_52_code
def yX8_finishedTeamWith : MethodName := ⟨RX8, "finishedTeamWith", "(I)LQuillRelay$Team;"⟩
abbrev cX8_speedForReach : ByteArray := prog_1_method_53_code
def yX8_speedForReach : MethodName := ⟨RX8, "speedForReach", "(III)I"⟩
abbrev cX8_faultOfPassing : ByteArray := prog_1_method_54_code
def yX8_faultOfPassing : MethodName := ⟨RX8, "faultOfPassing", "(I)LQuillRelay$Fault;"⟩
abbrev cX8_appendStage : ByteArray := prog_1_method_55_code
def yX8_appendStage : MethodName := ⟨RX8, "appendStage", "(LQuillRelay$Team;)V"⟩
abbrev cX8_performAll : ByteArray := prog_1_method_56_code
def yX8_performAll : MethodName := ⟨RX8, "performAll", "()I"⟩
abbrev cX8_faultOf : ByteArray := prog_1_method_57_code
def yX8_faultOf : MethodName := ⟨RX8, "faultOf", "(LQuillRelay$Verb;III)LQuillRelay$Fault;"⟩
abbrev cX8_apply : ByteArray := prog_1_method_58_code
def yX8_apply : MethodName := ⟨RX8, "apply", "(LQuillRelay$Verb;III)V"⟩
abbrev cX8_isLeg : ByteArray := prog_1_method_59_code
def yX8_isLeg : MethodName := ⟨RX8, "isLeg", "(I)Z"⟩
abbrev cX8_isKind : ByteArray := prog_1_method_60_code
def yX8_isKind : MethodName := ⟨RX8, "isKind", "(I)Z"⟩
abbrev cX8_pace : ByteArray := prog_1_method_61_code
def yX8_pace : MethodName := ⟨RX8, "pace", "(II)I"⟩
abbrev cX8_at : ByteArray := prog_1_method_62_code
def yX8_at : MethodName := ⟨RX8, "at", "([II)I"⟩
abbrev cX8_put : ByteArray := prog_1_method_63_code
def yX8_put : MethodName := ⟨RX8, "put", "([III)V"⟩
abbrev cX8_copyRow : ByteArray := prog_1_method_64_code
def yX8_copyRow : MethodName := ⟨RX8, "copyRow", "([I[I)V"⟩
def RX9 : String := "QuillRelayModel"
def TX9 : u_T := fun k => match k with
  | _ => ("", "", "", false)
def tyX9 : Nat → FieldType := fun k => match k with
  | _ => .int
theorem nmX9 : ∀ a, a < 0 → ∀ b, b < 0 → a ≠ b → (TX9 a).2.1 ≠ (TX9 b).2.1 := by decide +kernel
theorem tyX9_ok : ∀ k, k < 0 → parseFieldDescriptor (TX9 k).2.2.1 = some (tyX9 k) := by decide +kernel
def RJx145de : String := "java/io/Serializable"
def TJx145de : u_T := fun k => match k with
  | _ => ("", "", "", false)
def tyJx145de : Nat → FieldType := fun k => match k with
  | _ => .int
theorem nmJx145de : ∀ a, a < 0 → ∀ b, b < 0 → a ≠ b → (TJx145de a).2.1 ≠ (TJx145de b).2.1 := by decide +kernel
theorem tyJx145de_ok : ∀ k, k < 0 → parseFieldDescriptor (TJx145de k).2.2.1 = some (tyJx145de k) := by decide +kernel
def RJ5 : String := "java/lang/AbstractStringBuilder"
def TJ5 : u_T := fun k => match k with
  | _ => ("", "", "", false)
def tyJ5 : Nat → FieldType := fun k => match k with
  | _ => .int
theorem nmJ5 : ∀ a, a < 0 → ∀ b, b < 0 → a ≠ b → (TJ5 a).2.1 ≠ (TJ5 b).2.1 := by decide +kernel
theorem tyJ5_ok : ∀ k, k < 0 → parseFieldDescriptor (TJ5 k).2.2.1 = some (tyJ5 k) := by decide +kernel
abbrev cJ5_init_d00df : ByteArray := prog_13_method_2_code
def yJ5_init_d00df : MethodName := ⟨RJ5, "<init>", "(I)V"⟩
abbrev cJ5_length_8abf5 : ByteArray := prog_13_method_6_code
def yJ5_length_8abf5 : MethodName := ⟨RJ5, "length", "()I"⟩
abbrev cJ5_ensureCapacityInternal_d00df : ByteArray := prog_13_method_9_code
def yJ5_ensureCapacityInternal_d00df : MethodName := ⟨RJ5, "ensureCapacityInternal", "(I)V"⟩
abbrev cJ5_newCapacity_0f7a4 : ByteArray := prog_13_method_10_code
def yJ5_newCapacity_0f7a4 : MethodName := ⟨RJ5, "newCapacity", "(I)I"⟩
abbrev cJ5_inflate_da8c8 : ByteArray := prog_13_method_11_code
def yJ5_inflate_da8c8 : MethodName := ⟨RJ5, "inflate", "()V"⟩
abbrev cJ5_setLength_d00df : ByteArray := prog_13_method_13_code
def yJ5_setLength_d00df : MethodName := ⟨RJ5, "setLength", "(I)V"⟩
abbrev cJ5_charAt_5068e : ByteArray := prog_13_method_14_code
def yJ5_charAt_5068e : MethodName := ⟨RJ5, "charAt", "(I)C"⟩
abbrev cJ5_append_cf1ce : ByteArray := prog_13_method_22_code
def yJ5_append_cf1ce : MethodName := ⟨RJ5, "append", "(Ljava/lang/String;)Ljava/lang/AbstractStringBuilder;"⟩
abbrev cJ5_appendNull_278bc : ByteArray := prog_13_method_26_code
def yJ5_appendNull_278bc : MethodName := ⟨RJ5, "appendNull", "()Ljava/lang/AbstractStringBuilder;"⟩
abbrev cJ5_append_3fe6f : ByteArray := prog_13_method_31_code
def yJ5_append_3fe6f : MethodName := ⟨RJ5, "append", "(C)Ljava/lang/AbstractStringBuilder;"⟩
abbrev cJ5_append_c97b9 : ByteArray := prog_13_method_32_code
def yJ5_append_c97b9 : MethodName := ⟨RJ5, "append", "(I)Ljava/lang/AbstractStringBuilder;"⟩
abbrev cJ5_getValue_6d5f1 : ByteArray := prog_13_method_64_code
def yJ5_getValue_6d5f1 : MethodName := ⟨RJ5, "getValue", "()[B"⟩
abbrev cJ5_isLatin1_aae02 : ByteArray := prog_13_method_68_code
def yJ5_isLatin1_aae02 : MethodName := ⟨RJ5, "isLatin1", "()Z"⟩
abbrev cJ5_inflateIfNeededFor_a7421 : ByteArray := prog_13_method_71_code
def yJ5_inflateIfNeededFor_a7421 : MethodName := ⟨RJ5, "inflateIfNeededFor", "(Ljava/lang/String;)V"⟩
abbrev cJ5_putStringAt_47b60 : ByteArray := prog_13_method_73_code
def yJ5_putStringAt_47b60 : MethodName := ⟨RJ5, "putStringAt", "(ILjava/lang/String;)V"⟩
def RJx2cfe8 : String := "java/lang/Appendable"
def TJx2cfe8 : u_T := fun k => match k with
  | _ => ("", "", "", false)
def tyJx2cfe8 : Nat → FieldType := fun k => match k with
  | _ => .int
theorem nmJx2cfe8 : ∀ a, a < 0 → ∀ b, b < 0 → a ≠ b → (TJx2cfe8 a).2.1 ≠ (TJx2cfe8 b).2.1 := by decide +kernel
theorem tyJx2cfe8_ok : ∀ k, k < 0 → parseFieldDescriptor (TJx2cfe8 k).2.2.1 = some (tyJx2cfe8 k) := by decide +kernel
def RJx00060 : String := "java/lang/ArrayIndexOutOfBoundsException"
def TJx00060 : u_T := fun k => match k with
  | 0 => ("java/lang/Throwable", "cause", "Ljava/lang/Throwable;", false)
  | 1 => ("java/lang/Throwable", "stackTrace", "[Ljava/lang/StackTraceElement;", false)
  | 2 => ("java/lang/Throwable", "suppressedExceptions", "Ljava/util/List;", false)
  | 3 => ("java/lang/Throwable", "detailMessage", "Ljava/lang/String;", false)
  | 4 => ("java/lang/Throwable", "backtrace", "Ljava/lang/Object;", false)
  | _ => ("java/lang/Throwable", "depth", "I", false)
def tyJx00060 : Nat → FieldType := fun k => match k with
  | 0 => .object "java/lang/Throwable"
  | 1 => .array (.object "java/lang/StackTraceElement")
  | 2 => .object "java/util/List"
  | 3 => .object "java/lang/String"
  | 4 => .object "java/lang/Object"
  | _ => .int
theorem nmJx00060 : ∀ a, a < 6 → ∀ b, b < 6 → a ≠ b → (TJx00060 a).2.1 ≠ (TJx00060 b).2.1 := by decide +kernel
theorem tyJx00060_ok : ∀ k, k < 6 → parseFieldDescriptor (TJx00060 k).2.2.1 = some (tyJx00060 k) := by decide +kernel
abbrev cJx00060_init_a7421 : ByteArray := prog_16_method_2_code
def yJx00060_init_a7421 : MethodName := ⟨RJx00060, "<init>", "(Ljava/lang/String;)V"⟩
abbrev cJx00060_init_d00df : ByteArray := prog_16_method_3_code
def yJx00060_init_d00df : MethodName := ⟨RJx00060, "<init>", "(I)V"⟩
def RJx9f9b0 : String := "java/lang/CharSequence"
def TJx9f9b0 : u_T := fun k => match k with
  | _ => ("", "", "", false)
def tyJx9f9b0 : Nat → FieldType := fun k => match k with
  | _ => .int
theorem nmJx9f9b0 : ∀ a, a < 0 → ∀ b, b < 0 → a ≠ b → (TJx9f9b0 a).2.1 ≠ (TJx9f9b0 b).2.1 := by decide +kernel
theorem tyJx9f9b0_ok : ∀ k, k < 0 → parseFieldDescriptor (TJx9f9b0 k).2.2.1 = some (tyJx9f9b0 k) := by decide +kernel
def RJx8e188 : String := "java/lang/Cloneable"
def TJx8e188 : u_T := fun k => match k with
  | _ => ("", "", "", false)
def tyJx8e188 : Nat → FieldType := fun k => match k with
  | _ => .int
theorem nmJx8e188 : ∀ a, a < 0 → ∀ b, b < 0 → a ≠ b → (TJx8e188 a).2.1 ≠ (TJx8e188 b).2.1 := by decide +kernel
theorem tyJx8e188_ok : ∀ k, k < 0 → parseFieldDescriptor (TJx8e188 k).2.2.1 = some (tyJx8e188 k) := by decide +kernel
def RJxb160c : String := "java/lang/Comparable"
def TJxb160c : u_T := fun k => match k with
  | _ => ("", "", "", false)
def tyJxb160c : Nat → FieldType := fun k => match k with
  | _ => .int
theorem nmJxb160c : ∀ a, a < 0 → ∀ b, b < 0 → a ≠ b → (TJxb160c a).2.1 ≠ (TJxb160c b).2.1 := by decide +kernel
theorem tyJxb160c_ok : ∀ k, k < 0 → parseFieldDescriptor (TJxb160c k).2.2.1 = some (tyJxb160c k) := by decide +kernel
def RJx29ce0 : String := "java/lang/Enum"
def TJx29ce0 : u_T := fun k => match k with
  | _ => ("", "", "", false)
def tyJx29ce0 : Nat → FieldType := fun k => match k with
  | _ => .int
theorem nmJx29ce0 : ∀ a, a < 0 → ∀ b, b < 0 → a ≠ b → (TJx29ce0 a).2.1 ≠ (TJx29ce0 b).2.1 := by decide +kernel
theorem tyJx29ce0_ok : ∀ k, k < 0 → parseFieldDescriptor (TJx29ce0 k).2.2.1 = some (tyJx29ce0 k) := by decide +kernel
abbrev cJx29ce0_ordinal_8abf5 : ByteArray := prog_20_method_2_code
def yJx29ce0_ordinal_8abf5 : MethodName := ⟨RJx29ce0, "ordinal", "()I"⟩
def RJ6 : String := "java/lang/Integer"
def TJ6 : u_T := fun k => match k with
  | _ => ("", "", "", false)
def tyJ6 : Nat → FieldType := fun k => match k with
  | _ => .int
theorem nmJ6 : ∀ a, a < 0 → ∀ b, b < 0 → a ≠ b → (TJ6 a).2.1 ≠ (TJ6 b).2.1 := by decide +kernel
theorem tyJ6_ok : ∀ k, k < 0 → parseFieldDescriptor (TJ6 k).2.2.1 = some (tyJ6 k) := by decide +kernel
abbrev cJ6_getChars_ba4f3 : ByteArray := prog_25_method_12_code
def yJ6_getChars_ba4f3 : MethodName := ⟨RJ6, "getChars", "(II[B)I"⟩
abbrev cJ6_stringSize_0f7a4 : ByteArray := prog_25_method_13_code
def yJ6_stringSize_0f7a4 : MethodName := ⟨RJ6, "stringSize", "(I)I"⟩
def RJ9 : String := "java/lang/Math"
def TJ9 : u_T := fun k => match k with
  | _ => ("", "", "", false)
def tyJ9 : Nat → FieldType := fun k => match k with
  | _ => .int
theorem nmJ9 : ∀ a, a < 0 → ∀ b, b < 0 → a ≠ b → (TJ9 a).2.1 ≠ (TJ9 b).2.1 := by decide +kernel
theorem tyJ9_ok : ∀ k, k < 0 → parseFieldDescriptor (TJ9 k).2.2.1 = some (tyJ9 k) := by decide +kernel
abbrev cJ9_max_7cf53 : ByteArray := prog_26_method_65_code
def yJ9_max_7cf53 : MethodName := ⟨RJ9, "max", "(II)I"⟩
abbrev cJ9_min_7cf53 : ByteArray := prog_26_method_69_code
def yJ9_min_7cf53 : MethodName := ⟨RJ9, "min", "(II)I"⟩
def RJxd2413 : String := "java/lang/Number"
def TJxd2413 : u_T := fun k => match k with
  | _ => ("", "", "", false)
def tyJxd2413 : Nat → FieldType := fun k => match k with
  | _ => .int
theorem nmJxd2413 : ∀ a, a < 0 → ∀ b, b < 0 → a ≠ b → (TJxd2413 a).2.1 ≠ (TJxd2413 b).2.1 := by decide +kernel
theorem tyJxd2413_ok : ∀ k, k < 0 → parseFieldDescriptor (TJxd2413 k).2.2.1 = some (tyJxd2413 k) := by decide +kernel
def RJ0 : String := "java/lang/String"
def TJ0 : u_T := fun k => match k with
  | 0 => ("java/lang/String", "value", "[B", true)
  | 1 => ("java/lang/String", "coder", "B", true)
  | 2 => ("java/lang/String", "hash", "I", false)
  | _ => ("java/lang/String", "hashIsZero", "Z", false)
def tyJ0 : Nat → FieldType := fun k => match k with
  | 0 => .array .byte
  | 1 => .byte
  | 2 => .int
  | _ => .boolean
theorem nmJ0 : ∀ a, a < 4 → ∀ b, b < 4 → a ≠ b → (TJ0 a).2.1 ≠ (TJ0 b).2.1 := by decide +kernel
theorem tyJ0_ok : ∀ k, k < 4 → parseFieldDescriptor (TJ0 k).2.2.1 = some (tyJ0 k) := by decide +kernel
abbrev cJ0_init_81219 : ByteArray := prog_29_method_53_code
def yJ0_init_81219 : MethodName := ⟨RJ0, "<init>", "(Ljava/lang/StringBuilder;)V"⟩
abbrev cJ0_length_8abf5 : ByteArray := prog_29_method_54_code
def yJ0_length_8abf5 : MethodName := ⟨RJ0, "length", "()I"⟩
abbrev cJ0_charAt_5068e : ByteArray := prog_29_method_56_code
def yJ0_charAt_5068e : MethodName := ⟨RJ0, "charAt", "(I)C"⟩
abbrev cJ0_getBytes_840e7 : ByteArray := prog_29_method_147_code
def yJ0_getBytes_840e7 : MethodName := ⟨RJ0, "getBytes", "([BIB)V"⟩
abbrev cJ0_init_db425 : ByteArray := prog_29_method_150_code
def yJ0_init_db425 : MethodName := ⟨RJ0, "<init>", "(Ljava/lang/AbstractStringBuilder;Ljava/lang/Void;)V"⟩
abbrev cJ0_coder_7d493 : ByteArray := prog_29_method_152_code
def yJ0_coder_7d493 : MethodName := ⟨RJ0, "coder", "()B"⟩
abbrev cJ0_isLatin1_aae02 : ByteArray := prog_29_method_154_code
def yJ0_isLatin1_aae02 : MethodName := ⟨RJ0, "isLatin1", "()Z"⟩
abbrev cJ0_checkIndex_df160 : ByteArray := prog_29_method_155_code
def yJ0_checkIndex_df160 : MethodName := ⟨RJ0, "checkIndex", "(II)V"⟩
abbrev cJ0_checkBoundsOffCount_cabcc : ByteArray := prog_29_method_157_code
def yJ0_checkBoundsOffCount_cabcc : MethodName := ⟨RJ0, "checkBoundsOffCount", "(III)I"⟩
abbrev cJ0_checkBoundsBeginEnd_23922 : ByteArray := prog_29_method_158_code
def yJ0_checkBoundsBeginEnd_23922 : MethodName := ⟨RJ0, "checkBoundsBeginEnd", "(III)V"⟩
def RJ4 : String := "java/lang/StringBuilder"
def TJ4 : u_T := fun k => match k with
  | 0 => ("java/lang/AbstractStringBuilder", "value", "[B", false)
  | 1 => ("java/lang/AbstractStringBuilder", "coder", "B", false)
  | 2 => ("java/lang/AbstractStringBuilder", "maybeLatin1", "Z", false)
  | _ => ("java/lang/AbstractStringBuilder", "count", "I", false)
def tyJ4 : Nat → FieldType := fun k => match k with
  | 0 => .array .byte
  | 1 => .byte
  | 2 => .boolean
  | _ => .int
theorem nmJ4 : ∀ a, a < 4 → ∀ b, b < 4 → a ≠ b → (TJ4 a).2.1 ≠ (TJ4 b).2.1 := by decide +kernel
theorem tyJ4_ok : ∀ k, k < 4 → parseFieldDescriptor (TJ4 k).2.2.1 = some (tyJ4 k) := by decide +kernel
abbrev cJ4_init_da8c8 : ByteArray := prog_30_method_1_code
def yJ4_init_da8c8 : MethodName := ⟨RJ4, "<init>", "()V"⟩
abbrev cJ4_append_15ec4 : ByteArray := prog_30_method_7_code
def yJ4_append_15ec4 : MethodName := ⟨RJ4, "append", "(Ljava/lang/String;)Ljava/lang/StringBuilder;"⟩
abbrev cJ4_append_cf468 : ByteArray := prog_30_method_14_code
def yJ4_append_cf468 : MethodName := ⟨RJ4, "append", "(C)Ljava/lang/StringBuilder;"⟩
abbrev cJ4_append_bf812 : ByteArray := prog_30_method_15_code
def yJ4_append_bf812 : MethodName := ⟨RJ4, "append", "(I)Ljava/lang/StringBuilder;"⟩
abbrev cJ4_toString_0e30d : ByteArray := prog_30_method_42_code
def yJ4_toString_0e30d : MethodName := ⟨RJ4, "toString", "()Ljava/lang/String;"⟩
abbrev cJ4_charAt_5068e : ByteArray := prog_30_method_88_code
def yJ4_charAt_5068e : MethodName := ⟨RJ4, "charAt", "(I)C"⟩
abbrev cJ4_setLength_d00df : ByteArray := prog_30_method_89_code
def yJ4_setLength_d00df : MethodName := ⟨RJ4, "setLength", "(I)V"⟩
abbrev cJ4_length_8abf5 : ByteArray := prog_30_method_93_code
def yJ4_length_8abf5 : MethodName := ⟨RJ4, "length", "()I"⟩
def RJx7c733 : String := "java/lang/StringIndexOutOfBoundsException"
def TJx7c733 : u_T := fun k => match k with
  | 0 => ("java/lang/Throwable", "backtrace", "Ljava/lang/Object;", false)
  | 1 => ("java/lang/Throwable", "detailMessage", "Ljava/lang/String;", false)
  | 2 => ("java/lang/Throwable", "cause", "Ljava/lang/Throwable;", false)
  | 3 => ("java/lang/Throwable", "stackTrace", "[Ljava/lang/StackTraceElement;", false)
  | 4 => ("java/lang/Throwable", "depth", "I", false)
  | _ => ("java/lang/Throwable", "suppressedExceptions", "Ljava/util/List;", false)
def tyJx7c733 : Nat → FieldType := fun k => match k with
  | 0 => .object "java/lang/Object"
  | 1 => .object "java/lang/String"
  | 2 => .object "java/lang/Throwable"
  | 3 => .array (.object "java/lang/StackTraceElement")
  | 4 => .int
  | _ => .object "java/util/List"
theorem nmJx7c733 : ∀ a, a < 6 → ∀ b, b < 6 → a ≠ b → (TJx7c733 a).2.1 ≠ (TJx7c733 b).2.1 := by decide +kernel
theorem tyJx7c733_ok : ∀ k, k < 6 → parseFieldDescriptor (TJx7c733 k).2.2.1 = some (tyJx7c733 k) := by decide +kernel
abbrev cJx7c733_init_d00df : ByteArray := prog_31_method_3_code
def yJx7c733_init_d00df : MethodName := ⟨RJx7c733, "<init>", "(I)V"⟩
def RJ1 : String := "java/lang/StringLatin1"
def TJ1 : u_T := fun k => match k with
  | _ => ("", "", "", false)
def tyJ1 : Nat → FieldType := fun k => match k with
  | _ => .int
theorem nmJ1 : ∀ a, a < 0 → ∀ b, b < 0 → a ≠ b → (TJ1 a).2.1 ≠ (TJ1 b).2.1 := by decide +kernel
theorem tyJ1_ok : ∀ k, k < 0 → parseFieldDescriptor (TJ1 k).2.2.1 = some (tyJ1 k) := by decide +kernel
abbrev cJ1_charAt_3b067 : ByteArray := prog_32_method_2_code
def yJ1_charAt_3b067 : MethodName := ⟨RJ1, "charAt", "([BI)C"⟩
abbrev cJ1_canEncode_fc78d : ByteArray := prog_32_method_3_code
def yJ1_canEncode_fc78d : MethodName := ⟨RJ1, "canEncode", "(C)Z"⟩
abbrev cJ1_fillNull_b72d1 : ByteArray := prog_32_method_48_code
def yJ1_fillNull_b72d1 : MethodName := ⟨RJ1, "fillNull", "([BII)V"⟩
abbrev cJ1_inflate_0e8fd : ByteArray := prog_32_method_50_code
def yJ1_inflate_0e8fd : MethodName := ⟨RJ1, "inflate", "([BI[BII)V"⟩
def RJ2 : String := "java/lang/StringUTF16"
def TJ2 : u_T := fun k => match k with
  | _ => ("", "", "", false)
def tyJ2 : Nat → FieldType := fun k => match k with
  | _ => .int
theorem nmJ2 : ∀ a, a < 0 → ∀ b, b < 0 → a ≠ b → (TJ2 a).2.1 ≠ (TJ2 b).2.1 := by decide +kernel
theorem tyJ2_ok : ∀ k, k < 0 → parseFieldDescriptor (TJ2 k).2.2.1 = some (tyJ2 k) := by decide +kernel
abbrev cJ2_newBytesFor_77867 : ByteArray := prog_33_method_2_code
def yJ2_newBytesFor_77867 : MethodName := ⟨RJ2, "newBytesFor", "(I)[B"⟩
abbrev cJ2_newBytesLength_0f7a4 : ByteArray := prog_33_method_3_code
def yJ2_newBytesLength_0f7a4 : MethodName := ⟨RJ2, "newBytesLength", "(I)I"⟩
abbrev cJ2_putChar_b72d1 : ByteArray := prog_33_method_4_code
def yJ2_putChar_b72d1 : MethodName := ⟨RJ2, "putChar", "([BII)V"⟩
abbrev cJ2_getChar_3b067 : ByteArray := prog_33_method_5_code
def yJ2_getChar_3b067 : MethodName := ⟨RJ2, "getChar", "([BI)C"⟩
abbrev cJ2_length_9d52b : ByteArray := prog_33_method_6_code
def yJ2_length_9d52b : MethodName := ⟨RJ2, "length", "([B)I"⟩
abbrev cJ2_coderFromArrayLen_85cad : ByteArray := prog_33_method_15_code
def yJ2_coderFromArrayLen_85cad : MethodName := ⟨RJ2, "coderFromArrayLen", "([BI)B"⟩
abbrev cJ2_compress_39247 : ByteArray := prog_33_method_17_code
def yJ2_compress_39247 : MethodName := ⟨RJ2, "compress", "([BII)[B"⟩
abbrev cJ2_compress_5af95 : ByteArray := prog_33_method_22_code
def yJ2_compress_5af95 : MethodName := ⟨RJ2, "compress", "([BI[BII)I"⟩
abbrev cJ2_fillNull_b72d1 : ByteArray := prog_33_method_70_code
def yJ2_fillNull_b72d1 : MethodName := ⟨RJ2, "fillNull", "([BII)V"⟩
abbrev cJ2_putCharSB_b72d1 : ByteArray := prog_33_method_71_code
def yJ2_putCharSB_b72d1 : MethodName := ⟨RJ2, "putCharSB", "([BII)V"⟩
abbrev cJ2_getChars_46870 : ByteArray := prog_33_method_77_code
def yJ2_getChars_46870 : MethodName := ⟨RJ2, "getChars", "(III[B)I"⟩
abbrev cJ2_putCharsAt_cd4e5 : ByteArray := prog_33_method_81_code
def yJ2_putCharsAt_cd4e5 : MethodName := ⟨RJ2, "putCharsAt", "([BICCCC)I"⟩
abbrev cJ2_charAt_3b067 : ByteArray := prog_33_method_83_code
def yJ2_charAt_3b067 : MethodName := ⟨RJ2, "charAt", "([BI)C"⟩
abbrev cJ2_inflate_0e8fd : ByteArray := prog_33_method_86_code
def yJ2_inflate_0e8fd : MethodName := ⟨RJ2, "inflate", "([BI[BII)V"⟩
abbrev cJ2_getChars_ba4f3 : ByteArray := prog_33_method_89_code
def yJ2_getChars_ba4f3 : MethodName := ⟨RJ2, "getChars", "(II[B)I"⟩
abbrev cJ2_checkIndex_2214a : ByteArray := prog_33_method_91_code
def yJ2_checkIndex_2214a : MethodName := ⟨RJ2, "checkIndex", "(I[B)V"⟩
abbrev cJ2_checkBoundsBeginEnd_d044e : ByteArray := prog_33_method_93_code
def yJ2_checkBoundsBeginEnd_d044e : MethodName := ⟨RJ2, "checkBoundsBeginEnd", "(II[B)V"⟩
abbrev cJ2_checkBoundsOffCount_d044e : ByteArray := prog_33_method_94_code
def yJ2_checkBoundsOffCount_d044e : MethodName := ⟨RJ2, "checkBoundsOffCount", "(II[B)V"⟩
def RJ10 : String := "java/lang/System"
def TJ10 : u_T := fun k => match k with
  | _ => ("", "", "", false)
def tyJ10 : Nat → FieldType := fun k => match k with
  | _ => .int
theorem nmJ10 : ∀ a, a < 0 → ∀ b, b < 0 → a ≠ b → (TJ10 a).2.1 ≠ (TJ10 b).2.1 := by decide +kernel
theorem tyJ10_ok : ∀ k, k < 0 → parseFieldDescriptor (TJ10 k).2.2.1 = some (tyJ10 k) := by decide +kernel
def RJxfd54e : String := "java/lang/constant/Constable"
def TJxfd54e : u_T := fun k => match k with
  | _ => ("", "", "", false)
def tyJxfd54e : Nat → FieldType := fun k => match k with
  | _ => .int
theorem nmJxfd54e : ∀ a, a < 0 → ∀ b, b < 0 → a ≠ b → (TJxfd54e a).2.1 ≠ (TJxfd54e b).2.1 := by decide +kernel
theorem tyJxfd54e_ok : ∀ k, k < 0 → parseFieldDescriptor (TJxfd54e k).2.2.1 = some (tyJxfd54e k) := by decide +kernel
def RJx3cf43 : String := "java/lang/constant/ConstantDesc"
def TJx3cf43 : u_T := fun k => match k with
  | _ => ("", "", "", false)
def tyJx3cf43 : Nat → FieldType := fun k => match k with
  | _ => .int
theorem nmJx3cf43 : ∀ a, a < 0 → ∀ b, b < 0 → a ≠ b → (TJx3cf43 a).2.1 ≠ (TJx3cf43 b).2.1 := by decide +kernel
theorem tyJx3cf43_ok : ∀ k, k < 0 → parseFieldDescriptor (TJx3cf43 k).2.2.1 = some (tyJx3cf43 k) := by decide +kernel
def RJ7 : String := "java/util/Arrays"
def TJ7 : u_T := fun k => match k with
  | _ => ("", "", "", false)
def tyJ7 : Nat → FieldType := fun k => match k with
  | _ => .int
theorem nmJ7 : ∀ a, a < 0 → ∀ b, b < 0 → a ≠ b → (TJ7 a).2.1 ≠ (TJ7 b).2.1 := by decide +kernel
theorem tyJ7_ok : ∀ k, k < 0 → parseFieldDescriptor (TJ7 k).2.2.1 = some (tyJ7 k) := by decide +kernel
abbrev cJ7_rangeCheck_23922 : ByteArray := prog_39_method_30_code
def yJ7_rangeCheck_23922 : MethodName := ⟨RJ7, "rangeCheck", "(III)V"⟩
abbrev cJ7_fill_eb02e : ByteArray := prog_39_method_110_code
def yJ7_fill_eb02e : MethodName := ⟨RJ7, "fill", "([BIIB)V"⟩
abbrev cJ7_copyOf_9075b : ByteArray := prog_39_method_121_code
def yJ7_copyOf_9075b : MethodName := ⟨RJ7, "copyOf", "([BI)[B"⟩
abbrev cJ7_checkLength_df160 : ByteArray := prog_39_method_131_code
def yJ7_checkLength_df160 : MethodName := ⟨RJ7, "checkLength", "(II)V"⟩
abbrev cJ7_copyOfRange_39247 : ByteArray := prog_39_method_132_code
def yJ7_copyOfRange_39247 : MethodName := ⟨RJ7, "copyOfRange", "([BII)[B"⟩
abbrev cJ7_copyOfRangeByte_39247 : ByteArray := prog_39_method_133_code
def yJ7_copyOfRangeByte_39247 : MethodName := ⟨RJ7, "copyOfRangeByte", "([BII)[B"⟩
def RJ8 : String := "jdk/internal/util/ArraysSupport"
def TJ8 : u_T := fun k => match k with
  | _ => ("", "", "", false)
def tyJ8 : Nat → FieldType := fun k => match k with
  | _ => .int
theorem nmJ8 : ∀ a, a < 0 → ∀ b, b < 0 → a ≠ b → (TJ8 a).2.1 ≠ (TJ8 b).2.1 := by decide +kernel
theorem tyJ8_ok : ∀ k, k < 0 → parseFieldDescriptor (TJ8 k).2.2.1 = some (tyJ8 k) := by decide +kernel
abbrev cJ8_newLength_cabcc : ByteArray := prog_41_method_27_code
def yJ8_newLength_cabcc : MethodName := ⟨RJ8, "newLength", "(III)I"⟩
abbrev cJ8_hugeLength_7cf53 : ByteArray := prog_41_method_28_code
def yJ8_hugeLength_7cf53 : MethodName := ⟨RJ8, "hugeLength", "(II)I"⟩
def RJ3 : String := "jdk/internal/util/Preconditions"
def TJ3 : u_T := fun k => match k with
  | _ => ("", "", "", false)
def tyJ3 : Nat → FieldType := fun k => match k with
  | _ => .int
theorem nmJ3 : ∀ a, a < 0 → ∀ b, b < 0 → a ≠ b → (TJ3 a).2.1 ≠ (TJ3 b).2.1 := by decide +kernel
theorem tyJ3_ok : ∀ k, k < 0 → parseFieldDescriptor (TJ3 k).2.2.1 = some (tyJ3 k) := by decide +kernel
abbrev cJ3_checkIndex_8e157 : ByteArray := prog_42_method_11_code
def yJ3_checkIndex_8e157 : MethodName := ⟨RJ3, "checkIndex", "(IILjava/util/function/BiFunction;)I"⟩
abbrev cJ3_checkFromToIndex_8c36e : ByteArray := prog_42_method_12_code
def yJ3_checkFromToIndex_8c36e : MethodName := ⟨RJ3, "checkFromToIndex", "(IIILjava/util/function/BiFunction;)I"⟩
abbrev cJ3_checkFromIndexSize_8c36e : ByteArray := prog_42_method_13_code
def yJ3_checkFromIndexSize_8c36e : MethodName := ⟨RJ3, "checkFromIndexSize", "(IIILjava/util/function/BiFunction;)I"⟩
def RL : String := "QuillRelayLaw"
abbrev cL_cell : ByteArray := method_2_code
def yL_cell : MethodName := ⟨RL, "cell", "([II)I"⟩
abbrev cL_addTeam : ByteArray := method_3_code
def yL_addTeam : MethodName := ⟨RL, "addTeam", "(LQuillRelay;)I"⟩
abbrev cL_setSpeed : ByteArray := method_4_code
def yL_setSpeed : MethodName := ⟨RL, "setSpeed", "(LQuillRelay;III)I"⟩
abbrev cL_setLength : ByteArray := method_5_code
def yL_setLength : MethodName := ⟨RL, "setLength", "(LQuillRelay;I)I"⟩
abbrev cL_drawLanes : ByteArray := method_6_code
def yL_drawLanes : MethodName := ⟨RL, "drawLanes", "(LQuillRelay;I)I"⟩
abbrev cL_start : ByteArray := method_7_code
def yL_start : MethodName := ⟨RL, "start", "(LQuillRelay;)I"⟩
abbrev cL_run : ByteArray := method_8_code
def yL_run : MethodName := ⟨RL, "run", "(LQuillRelay;I)I"⟩
abbrev cL_pass : ByteArray := method_9_code
def yL_pass : MethodName := ⟨RL, "pass", "(LQuillRelay;I)I"⟩
abbrev cL_drop : ByteArray := method_10_code
def yL_drop : MethodName := ⟨RL, "drop", "(LQuillRelay;II)I"⟩
abbrev cL_withdraw : ByteArray := method_11_code
def yL_withdraw : MethodName := ⟨RL, "withdraw", "(LQuillRelay;I)I"⟩
abbrev cL_teamInLane : ByteArray := method_12_code
def yL_teamInLane : MethodName := ⟨RL, "teamInLane", "(LQuillRelay;I)I"⟩
abbrev cL_splitOf : ByteArray := method_13_code
def yL_splitOf : MethodName := ⟨RL, "splitOf", "(LQuillRelay;II)I"⟩
abbrev cL_timeOf : ByteArray := method_14_code
def yL_timeOf : MethodName := ⟨RL, "timeOf", "(LQuillRelay;I)I"⟩
abbrev cL_resultOf : ByteArray := method_15_code
def yL_resultOf : MethodName := ⟨RL, "resultOf", "(LQuillRelay;I)I"⟩
abbrev cL_teamAtRank : ByteArray := method_16_code
def yL_teamAtRank : MethodName := ⟨RL, "teamAtRank", "(LQuillRelay;I)I"⟩
abbrev cL_reach : ByteArray := method_17_code
def yL_reach : MethodName := ⟨RL, "reach", "(LQuillRelay;III)I"⟩
abbrev cL_secondsToZone : ByteArray := method_18_code
def yL_secondsToZone : MethodName := ⟨RL, "secondsToZone", "(LQuillRelay;I)I"⟩
abbrev cL_execute : ByteArray := method_19_code
def yL_execute : MethodName := ⟨RL, "execute", "(LQuillRelay;)I"⟩
abbrev cL_undo : ByteArray := method_20_code
def yL_undo : MethodName := ⟨RL, "undo", "(LQuillRelay;)I"⟩
abbrev cL_restore : ByteArray := method_21_code
def yL_restore : MethodName := ⟨RL, "restore", "(LQuillRelay;)I"⟩
abbrev cL_protest : ByteArray := method_22_code
def yL_protest : MethodName := ⟨RL, "protest", "(LQuillRelay;III)I"⟩
abbrev cL_in : ByteArray := method_23_code
def yL_in : MethodName := ⟨RL, "in", "([III)I"⟩
abbrev cL_does : ByteArray := method_24_code
def yL_does : MethodName := ⟨RL, "does", "(LQuillRelay;Ljava/lang/String;)I"⟩
abbrev cL_begun : ByteArray := method_25_code
def yL_begun : MethodName := ⟨RL, "begun", "([I)LQuillRelay;"⟩
abbrev cL_acts : ByteArray := method_26_code
def yL_acts : MethodName := ⟨RL, "acts", "(LQuillRelay;[II)I"⟩
abbrev cL_seen : ByteArray := method_27_code
def yL_seen : MethodName := ⟨RL, "seen", "(LQuillRelay;)[I"⟩
abbrev cL_areAlike : ByteArray := method_28_code
def yL_areAlike : MethodName := ⟨RL, "areAlike", "([I[I)Z"⟩
abbrev cL_group : ByteArray := method_29_code
def yL_group : MethodName := ⟨RL, "group", "(LQuillRelay;I)I"⟩
abbrev cL_isAhead : ByteArray := method_30_code
def yL_isAhead : MethodName := ⟨RL, "isAhead", "(LQuillRelay;II)Z"⟩
abbrev cL_isWell : ByteArray := method_31_code
def yL_isWell : MethodName := ⟨RL, "isWell", "(LQuillRelay;)Z"⟩
abbrev cL_law : ByteArray := code
def yL_law : MethodName := ⟨RL, "law", "([I)Z"⟩
abbrev vwCl : List vw_C := [(RJ0, TJ0, 4), (RJ4, TJ4, 4), (RJx00060, TJx00060, 6), (RJx7c733, TJx7c733, 6), (RX2, TX2, 3), (RX3, TX3, 6), (RX4, TX4, 4), (RX6, TX6, 14), (RX8, TX8, 11)]
