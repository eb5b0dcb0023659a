def RX0 : String := "PostVotes$Envelope"
def TX0 : u_T := fun k => match k with
  | 0 => ("PostVotes$Envelope", "number", "I", true)
  | 1 => ("PostVotes$Envelope", "voter", "LPostVotes$Voter;", true)
  | 2 => ("PostVotes$Envelope", "sent", "I", true)
  | 3 => ("PostVotes$Envelope", "choice", "I", true)
  | 4 => ("PostVotes$Envelope", "told", "I", true)
  | 5 => ("PostVotes$Envelope", "log", "Ljava/util/ArrayList;", true)
  | 6 => ("PostVotes$Envelope", "heapShire", "I", false)
  | 7 => ("PostVotes$Envelope", "days", "[I", true)
  | 8 => ("PostVotes$Envelope", "values", "[I", true)
  | 9 => ("PostVotes$Envelope", "comes", "I", false)
  | 10 => ("PostVotes$Envelope", "emptying", "I", false)
  | 11 => ("PostVotes$Envelope", "goodAhead", "I", false)
  | 12 => ("PostVotes$Envelope", "state", "I", false)
  | 13 => ("PostVotes$Envelope", "reason", "I", false)
  | _ => ("PostVotes$Envelope", "rule", "I", false)
def tyX0 : Nat → FieldType := fun k => match k with
  | 0 => .int
  | 1 => .object "PostVotes$Voter"
  | 2 => .int
  | 3 => .int
  | 4 => .int
  | 5 => .object "java/util/ArrayList"
  | 6 => .int
  | 7 => .array .int
  | 8 => .array .int
  | 9 => .int
  | 10 => .int
  | 11 => .int
  | 12 => .int
  | 13 => .int
  | _ => .int
abbrev wsX00 : List Cond := u_ws RX0 TX0 15
theorem nmX0 : ∀ a, a < 15 → ∀ b, b < 15 → a ≠ b → (TX0 a).2.1 ≠ (TX0 b).2.1 := by decide +kernel
theorem tyX0_ok : ∀ k, k < 15 → parseFieldDescriptor (TX0 k).2.2.1 = some (tyX0 k) := by decide +kernel
abbrev cX0_init : ByteArray := prog_2_method_1_code
def yX0_init : MethodName := ⟨RX0, "<init>", "(ILPostVotes$Voter;III)V"⟩
abbrev cX0_forget : ByteArray := prog_2_method_2_code
def yX0_forget : MethodName := ⟨RX0, "forget", "()V"⟩
abbrev cX0_learn : ByteArray := prog_2_method_3_code
def yX0_learn : MethodName := ⟨RX0, "learn", "(I)V"⟩
abbrev cX0_isCounted : ByteArray := prog_2_method_4_code
def yX0_isCounted : MethodName := ⟨RX0, "isCounted", "()Z"⟩
abbrev cX0_shireOf : ByteArray := prog_2_method_5_code
def yX0_shireOf : MethodName := ⟨RX0, "shireOf", "(I)I"⟩
abbrev cX0_unlikeFigures : ByteArray := prog_2_method_6_code
def yX0_unlikeFigures : MethodName := ⟨RX0, "unlikeFigures", "()I"⟩
abbrev cX0_handsThatTold : ByteArray := prog_2_method_7_code
def yX0_handsThatTold : MethodName := ⟨RX0, "handsThatTold", "(I)I"⟩
abbrev cX0_doublesOf : ByteArray := prog_2_method_8_code
def yX0_doublesOf : MethodName := ⟨RX0, "doublesOf", "(II)I"⟩
abbrev cX0_numberOf : ByteArray := prog_2_method_9_code
def yX0_numberOf : MethodName := ⟨RX0, "numberOf", "(II)I"⟩
def RX1 : String := "PostVotes$Heap"
def TX1 : u_T := fun k => match k with
  | 0 => ("PostVotes$Heap", "shire", "I", true)
  | 1 => ("PostVotes$Heap", "day", "I", true)
  | 2 => ("PostVotes$Heap", "choices", "[I", true)
  | _ => ("PostVotes$Heap", "all", "I", false)
def tyX1 : Nat → FieldType := fun k => match k with
  | 0 => .int
  | 1 => .int
  | 2 => .array .int
  | _ => .int
abbrev wsX10 : List Cond := u_ws RX1 TX1 4
theorem nmX1 : ∀ a, a < 4 → ∀ b, b < 4 → a ≠ b → (TX1 a).2.1 ≠ (TX1 b).2.1 := by decide +kernel
theorem tyX1_ok : ∀ k, k < 4 → parseFieldDescriptor (TX1 k).2.2.1 = some (tyX1 k) := by decide +kernel
abbrev cX1_init : ByteArray := prog_3_method_1_code
def yX1_init : MethodName := ⟨RX1, "<init>", "(II)V"⟩
abbrev cX1_lay : ByteArray := prog_3_method_2_code
def yX1_lay : MethodName := ⟨RX1, "lay", "(LPostVotes$Envelope;)V"⟩
def RX2 : String := "PostVotes$Judge"
def TX2 : u_T := fun k => match k with
  | 0 => ("PostVotes$Judge", "laws", "Ljava/util/ArrayList;", true)
  | 1 => ("PostVotes$Judge", "stack", "[I", true)
  | _ => ("PostVotes$Judge", "top", "I", false)
def tyX2 : Nat → FieldType := fun k => match k with
  | 0 => .object "java/util/ArrayList"
  | 1 => .array .int
  | _ => .int
abbrev wsX20 : List Cond := u_ws RX2 TX2 3
theorem nmX2 : ∀ a, a < 3 → ∀ b, b < 3 → a ≠ b → (TX2 a).2.1 ≠ (TX2 b).2.1 := by decide +kernel
theorem tyX2_ok : ∀ k, k < 3 → parseFieldDescriptor (TX2 k).2.2.1 = some (tyX2 k) := by decide +kernel
abbrev cX2_init : ByteArray := prog_4_method_1_code
def yX2_init : MethodName := ⟨RX2, "<init>", "()V"⟩
abbrev cX2_inForce : ByteArray := prog_4_method_2_code
def yX2_inForce : MethodName := ⟨RX2, "inForce", "(III)I"⟩
abbrev cX2_decide : ByteArray := prog_4_method_3_code
def yX2_decide : MethodName := ⟨RX2, "decide", "(LPostVotes$Envelope;I)V"⟩
abbrev cX2_pass : ByteArray := prog_4_method_4_code
def yX2_pass : MethodName := ⟨RX2, "pass", "(LPostVotes$Envelope;III)V"⟩
abbrev cX2_awaitCure : ByteArray := prog_4_method_5_code
def yX2_awaitCure : MethodName := ⟨RX2, "awaitCure", "(LPostVotes$Envelope;II)V"⟩
abbrev cX2_valueOf : ByteArray := prog_4_method_6_code
def yX2_valueOf : MethodName := ⟨RX2, "valueOf", "(LPostVotes$Law;ILPostVotes$Envelope;I)I"⟩
abbrev cX2_joined : ByteArray := prog_4_method_7_code
def yX2_joined : MethodName := ⟨RX2, "joined", "(III)I"⟩
abbrev cX2_bounded : ByteArray := prog_4_method_8_code
def yX2_bounded : MethodName := ⟨RX2, "bounded", "(J)I"⟩
abbrev cX2_push : ByteArray := prog_4_method_9_code
def yX2_push : MethodName := ⟨RX2, "push", "(I)V"⟩
abbrev cX2_pop : ByteArray := prog_4_method_10_code
def yX2_pop : MethodName := ⟨RX2, "pop", "()I"⟩
def RX3 : String := "PostVotes$Law"
def TX3 : u_T := fun k => match k with
  | 0 => ("PostVotes$Law", "shire", "I", true)
  | 1 => ("PostVotes$Law", "day", "I", true)
  | 2 => ("PostVotes$Law", "told", "I", true)
  | 3 => ("PostVotes$Law", "rules", "I", true)
  | 4 => ("PostVotes$Law", "words", "[I", true)
  | 5 => ("PostVotes$Law", "bounds", "[I", true)
  | _ => ("PostVotes$Law", "verdicts", "[I", true)
def tyX3 : Nat → FieldType := fun k => match k with
  | 0 => .int
  | 1 => .int
  | 2 => .int
  | 3 => .int
  | 4 => .array .int
  | 5 => .array .int
  | _ => .array .int
abbrev wsX30 : List Cond := u_ws RX3 TX3 7
theorem nmX3 : ∀ a, a < 7 → ∀ b, b < 7 → a ≠ b → (TX3 a).2.1 ≠ (TX3 b).2.1 := by decide +kernel
theorem tyX3_ok : ∀ k, k < 7 → parseFieldDescriptor (TX3 k).2.2.1 = some (tyX3 k) := by decide +kernel
abbrev cX3_init : ByteArray := prog_5_method_1_code
def yX3_init : MethodName := ⟨RX3, "<init>", "(IIILPostVotes$Tape;)V"⟩
def RX4 : String := "PostVotes$Post"
def TX4 : u_T := fun k => match k with
  | 0 => ("PostVotes$Post", "voters", "Ljava/util/ArrayList;", true)
  | 1 => ("PostVotes$Post", "envelopes", "Ljava/util/ArrayList;", true)
  | 2 => ("PostVotes$Post", "emptyings", "Ljava/util/ArrayList;", true)
  | 3 => ("PostVotes$Post", "judge", "LPostVotes$Judge;", true)
  | 4 => ("PostVotes$Post", "coming", "Ljava/util/ArrayList;", true)
  | 5 => ("PostVotes$Post", "moves", "I", false)
  | 6 => ("PostVotes$Post", "events", "I", false)
  | 7 => ("PostVotes$Post", "signsRead", "I", false)
  | 8 => ("PostVotes$Post", "handed", "I", false)
  | _ => ("PostVotes$Post", "booths", "I", false)
def tyX4 : Nat → FieldType := fun k => match k with
  | 0 => .object "java/util/ArrayList"
  | 1 => .object "java/util/ArrayList"
  | 2 => .object "java/util/ArrayList"
  | 3 => .object "PostVotes$Judge"
  | 4 => .object "java/util/ArrayList"
  | 5 => .int
  | 6 => .int
  | 7 => .int
  | 8 => .int
  | _ => .int
abbrev wsX40 : List Cond := u_ws RX4 TX4 10
theorem nmX4 : ∀ a, a < 10 → ∀ b, b < 10 → a ≠ b → (TX4 a).2.1 ≠ (TX4 b).2.1 := by decide +kernel
theorem tyX4_ok : ∀ k, k < 10 → parseFieldDescriptor (TX4 k).2.2.1 = some (tyX4 k) := by decide +kernel
abbrev cX4_init : ByteArray := prog_6_method_1_code
def yX4_init : MethodName := ⟨RX4, "<init>", "()V"⟩
abbrev cX4_voterAt : ByteArray := prog_6_method_2_code
def yX4_voterAt : MethodName := ⟨RX4, "voterAt", "(I)LPostVotes$Voter;"⟩
abbrev cX4_envelopeAt : ByteArray := prog_6_method_3_code
def yX4_envelopeAt : MethodName := ⟨RX4, "envelopeAt", "(I)LPostVotes$Envelope;"⟩
abbrev cX4_settle : ByteArray := prog_6_method_4_code
def yX4_settle : MethodName := ⟨RX4, "settle", "(LPostVotes$Envelope;I)V"⟩
abbrev cX4_firstEmptying : ByteArray := prog_6_method_5_code
def yX4_firstEmptying : MethodName := ⟨RX4, "firstEmptying", "(III)I"⟩
abbrev cX4_manyBy : ByteArray := prog_6_method_6_code
def yX4_manyBy : MethodName := ⟨RX4, "manyBy", "(II)I"⟩
abbrev cX4_judgeAll : ByteArray := prog_6_method_7_code
def yX4_judgeAll : MethodName := ⟨RX4, "judgeAll", "(I)V"⟩
abbrev cX4_judgeOf : ByteArray := prog_6_method_8_code
def yX4_judgeOf : MethodName := ⟨RX4, "judgeOf", "(LPostVotes$Voter;I)V"⟩
abbrev cX4_putInOrder : ByteArray := prog_6_method_9_code
def yX4_putInOrder : MethodName := ⟨RX4, "putInOrder", "(LPostVotes$Envelope;)V"⟩
abbrev cX4_doublesOf : ByteArray := prog_6_method_10_code
def yX4_doublesOf : MethodName := ⟨RX4, "doublesOf", "(IIII)I"⟩
def RX5 : String := "PostVotes$Press"
def TX5 : u_T := fun k => match k with
  | 0 => ("PostVotes$Press", "many", "[I", true)
  | 1 => ("PostVotes$Press", "ready", "[I", true)
  | 2 => ("PostVotes$Press", "due", "[I", true)
  | 3 => ("PostVotes$Press", "left", "[I", true)
  | 4 => ("PostVotes$Press", "end", "[I", true)
  | 5 => ("PostVotes$Press", "waves", "I", false)
  | _ => ("PostVotes$Press", "aDay", "I", false)
def tyX5 : Nat → FieldType := fun k => match k with
  | 0 => .array .int
  | 1 => .array .int
  | 2 => .array .int
  | 3 => .array .int
  | 4 => .array .int
  | 5 => .int
  | _ => .int
abbrev wsX50 : List Cond := u_ws RX5 TX5 7
theorem nmX5 : ∀ a, a < 7 → ∀ b, b < 7 → a ≠ b → (TX5 a).2.1 ≠ (TX5 b).2.1 := by decide +kernel
theorem tyX5_ok : ∀ k, k < 7 → parseFieldDescriptor (TX5 k).2.2.1 = some (tyX5 k) := by decide +kernel
abbrev cX5_init : ByteArray := prog_7_method_1_code
def yX5_init : MethodName := ⟨RX5, "<init>", "()V"⟩
abbrev cX5_order : ByteArray := prog_7_method_2_code
def yX5_order : MethodName := ⟨RX5, "order", "(III)I"⟩
abbrev cX5_plan : ByteArray := prog_7_method_3_code
def yX5_plan : MethodName := ⟨RX5, "plan", "()V"⟩
abbrev cX5_wholeDays : ByteArray := prog_7_method_4_code
def yX5_wholeDays : MethodName := ⟨RX5, "wholeDays", "(III)I"⟩
abbrev cX5_mostUrgent : ByteArray := prog_7_method_5_code
def yX5_mostUrgent : MethodName := ⟨RX5, "mostUrgent", "(I)I"⟩
abbrev cX5_nextReady : ByteArray := prog_7_method_6_code
def yX5_nextReady : MethodName := ⟨RX5, "nextReady", "(I)I"⟩
def RX6 : String := "PostVotes$Tape"
def TX6 : u_T := fun k => match k with
  | 0 => ("PostVotes$Tape", "text", "[I", true)
  | 1 => ("PostVotes$Tape", "length", "I", false)
  | 2 => ("PostVotes$Tape", "words", "[I", true)
  | 3 => ("PostVotes$Tape", "manyWords", "I", false)
  | 4 => ("PostVotes$Tape", "bounds", "[I", true)
  | 5 => ("PostVotes$Tape", "verdicts", "[I", true)
  | 6 => ("PostVotes$Tape", "rules", "I", false)
  | _ => ("PostVotes$Tape", "at", "I", false)
def tyX6 : Nat → FieldType := fun k => match k with
  | 0 => .array .int
  | 1 => .int
  | 2 => .array .int
  | 3 => .int
  | 4 => .array .int
  | 5 => .array .int
  | 6 => .int
  | _ => .int
abbrev wsX60 : List Cond := u_ws RX6 TX6 8
theorem nmX6 : ∀ a, a < 8 → ∀ b, b < 8 → a ≠ b → (TX6 a).2.1 ≠ (TX6 b).2.1 := by decide +kernel
theorem tyX6_ok : ∀ k, k < 8 → parseFieldDescriptor (TX6 k).2.2.1 = some (tyX6 k) := by decide +kernel
abbrev cX6_init : ByteArray := prog_8_method_1_code
def yX6_init : MethodName := ⟨RX6, "<init>", "()V"⟩
abbrev cX6_take4 : ByteArray := prog_8_method_2_code
def yX6_take4 : MethodName := ⟨RX6, "take4", "(I)V"⟩
abbrev cX6_firstFault : ByteArray := prog_8_method_3_code
def yX6_firstFault : MethodName := ⟨RX6, "firstFault", "()I"⟩
abbrev cX6_readRule : ByteArray := prog_8_method_4_code
def yX6_readRule : MethodName := ⟨RX6, "readRule", "()Z"⟩
abbrev cX6_readVerdict : ByteArray := prog_8_method_5_code
def yX6_readVerdict : MethodName := ⟨RX6, "readVerdict", "()Z"⟩
abbrev cX6_readCondition : ByteArray := prog_8_method_6_code
def yX6_readCondition : MethodName := ⟨RX6, "readCondition", "(I)Z"⟩
abbrev cX6_readPart : ByteArray := prog_8_method_7_code
def yX6_readPart : MethodName := ⟨RX6, "readPart", "(I)Z"⟩
abbrev cX6_readUnit : ByteArray := prog_8_method_8_code
def yX6_readUnit : MethodName := ⟨RX6, "readUnit", "(I)Z"⟩
abbrev cX6_readComparison : ByteArray := prog_8_method_9_code
def yX6_readComparison : MethodName := ⟨RX6, "readComparison", "(I)Z"⟩
abbrev cX6_readSum : ByteArray := prog_8_method_10_code
def yX6_readSum : MethodName := ⟨RX6, "readSum", "(I)Z"⟩
abbrev cX6_readTerm : ByteArray := prog_8_method_11_code
def yX6_readTerm : MethodName := ⟨RX6, "readTerm", "(I)Z"⟩
abbrev cX6_readAtom : ByteArray := prog_8_method_12_code
def yX6_readAtom : MethodName := ⟨RX6, "readAtom", "(I)Z"⟩
abbrev cX6_readNumber : ByteArray := prog_8_method_13_code
def yX6_readNumber : MethodName := ⟨RX6, "readNumber", "()Z"⟩
abbrev cX6_nextSign : ByteArray := prog_8_method_14_code
def yX6_nextSign : MethodName := ⟨RX6, "nextSign", "()I"⟩
abbrev cX6_takes : ByteArray := prog_8_method_15_code
def yX6_takes : MethodName := ⟨RX6, "takes", "(I)Z"⟩
abbrev cX6_write : ByteArray := prog_8_method_16_code
def yX6_write : MethodName := ⟨RX6, "write", "(I)V"⟩
def RX7 : String := "PostVotes$Told"
def TX7 : u_T := fun k => match k with
  | 0 => ("PostVotes$Told", "kind", "I", true)
  | 1 => ("PostVotes$Told", "day", "I", true)
  | 2 => ("PostVotes$Told", "value", "I", true)
  | _ => ("PostVotes$Told", "told", "I", true)
def tyX7 : Nat → FieldType := fun k => match k with
  | 0 => .int
  | 1 => .int
  | 2 => .int
  | _ => .int
abbrev wsX70 : List Cond := u_ws RX7 TX7 4
theorem nmX7 : ∀ a, a < 4 → ∀ b, b < 4 → a ≠ b → (TX7 a).2.1 ≠ (TX7 b).2.1 := by decide +kernel
theorem tyX7_ok : ∀ k, k < 4 → parseFieldDescriptor (TX7 k).2.2.1 = some (tyX7 k) := by decide +kernel
abbrev cX7_init : ByteArray := prog_9_method_1_code
def yX7_init : MethodName := ⟨RX7, "<init>", "(IIII)V"⟩
def RX8 : String := "PostVotes$Van"
def TX8 : u_T := fun k => match k with
  | 0 => ("PostVotes$Van", "from", "[I", true)
  | 1 => ("PostVotes$Van", "to", "[I", true)
  | 2 => ("PostVotes$Van", "roads", "[I", true)
  | 3 => ("PostVotes$Van", "soonest", "[I", true)
  | 4 => ("PostVotes$Van", "path", "[I", true)
  | 5 => ("PostVotes$Van", "best", "[I", true)
  | 6 => ("PostVotes$Van", "stop", "I", false)
  | 7 => ("PostVotes$Van", "all", "I", false)
  | 8 => ("PostVotes$Van", "standing", "I", false)
  | 9 => ("PostVotes$Van", "home", "I", false)
  | _ => ("PostVotes$Van", "planned", "I", false)
def tyX8 : Nat → FieldType := fun k => match k with
  | 0 => .array .int
  | 1 => .array .int
  | 2 => .array .int
  | 3 => .array .int
  | 4 => .array .int
  | 5 => .array .int
  | 6 => .int
  | 7 => .int
  | 8 => .int
  | 9 => .int
  | _ => .int
abbrev wsX80 : List Cond := u_ws RX8 TX8 11
theorem nmX8 : ∀ a, a < 11 → ∀ b, b < 11 → a ≠ b → (TX8 a).2.1 ≠ (TX8 b).2.1 := by decide +kernel
theorem tyX8_ok : ∀ k, k < 11 → parseFieldDescriptor (TX8 k).2.2.1 = some (tyX8 k) := by decide +kernel
abbrev cX8_init : ByteArray := prog_10_method_1_code
def yX8_init : MethodName := ⟨RX8, "<init>", "()V"⟩
abbrev cX8_setBox : ByteArray := prog_10_method_2_code
def yX8_setBox : MethodName := ⟨RX8, "setBox", "(III)V"⟩
abbrev cX8_setRoad : ByteArray := prog_10_method_3_code
def yX8_setRoad : MethodName := ⟨RX8, "setRoad", "(III)V"⟩
abbrev cX8_setStop : ByteArray := prog_10_method_4_code
def yX8_setStop : MethodName := ⟨RX8, "setStop", "(I)V"⟩
abbrev cX8_plan : ByteArray := prog_10_method_5_code
def yX8_plan : MethodName := ⟨RX8, "plan", "(I)V"⟩
abbrev cX8_goOn : ByteArray := prog_10_method_6_code
def yX8_goOn : MethodName := ⟨RX8, "goOn", "(LPostVotes$Van;IIII)V"⟩
abbrev cX8_boxAt : ByteArray := prog_10_method_7_code
def yX8_boxAt : MethodName := ⟨RX8, "boxAt", "(I)I"⟩
abbrev cX8_comeHome : ByteArray := prog_10_method_8_code
def yX8_comeHome : MethodName := ⟨RX8, "comeHome", "(I)V"⟩
def RX9 : String := "PostVotes$Voter"
def TX9 : u_T := fun k => match k with
  | 0 => ("PostVotes$Voter", "shire", "I", true)
  | 1 => ("PostVotes$Voter", "street", "I", true)
  | 2 => ("PostVotes$Voter", "sign", "I", true)
  | 3 => ("PostVotes$Voter", "log", "Ljava/util/ArrayList;", true)
  | 4 => ("PostVotes$Voter", "envelopes", "Ljava/util/ArrayList;", true)
  | 5 => ("PostVotes$Voter", "manySent", "I", false)
  | 6 => ("PostVotes$Voter", "manyGood", "I", false)
  | 7 => ("PostVotes$Voter", "firstGood", "I", false)
  | _ => ("PostVotes$Voter", "boothDay", "I", false)
def tyX9 : Nat → FieldType := fun k => match k with
  | 0 => .int
  | 1 => .int
  | 2 => .int
  | 3 => .object "java/util/ArrayList"
  | 4 => .object "java/util/ArrayList"
  | 5 => .int
  | 6 => .int
  | 7 => .int
  | _ => .int
abbrev wsX90 : List Cond := u_ws RX9 TX9 9
theorem nmX9 : ∀ a, a < 9 → ∀ b, b < 9 → a ≠ b → (TX9 a).2.1 ≠ (TX9 b).2.1 := by decide +kernel
theorem tyX9_ok : ∀ k, k < 9 → parseFieldDescriptor (TX9 k).2.2.1 = some (tyX9 k) := by decide +kernel
abbrev cX9_init : ByteArray := prog_11_method_1_code
def yX9_init : MethodName := ⟨RX9, "<init>", "(III)V"⟩
abbrev cX9_shireOn : ByteArray := prog_11_method_2_code
def yX9_shireOn : MethodName := ⟨RX9, "shireOn", "(II)I"⟩
abbrev cX9_learn : ByteArray := prog_11_method_3_code
def yX9_learn : MethodName := ⟨RX9, "learn", "(I)V"⟩
def RX10 : String := "PostVotes"
def TX10 : u_T := fun k => match k with
  | 0 => ("PostVotes", "now", "I", false)
  | 1 => ("PostVotes", "size", "I", false)
  | 2 => ("PostVotes", "post", "LPostVotes$Post;", true)
  | 3 => ("PostVotes", "tape", "LPostVotes$Tape;", true)
  | 4 => ("PostVotes", "printer", "LPostVotes$Press;", true)
  | 5 => ("PostVotes", "van", "LPostVotes$Van;", true)
  | 6 => ("PostVotes", "heaps", "Ljava/util/ArrayList;", true)
  | 7 => ("PostVotes", "ends", "[I", true)
  | 8 => ("PostVotes", "took", "[I", true)
  | _ => ("PostVotes", "row", "[I", true)
def tyX10 : Nat → FieldType := fun k => match k with
  | 0 => .int
  | 1 => .int
  | 2 => .object "PostVotes$Post"
  | 3 => .object "PostVotes$Tape"
  | 4 => .object "PostVotes$Press"
  | 5 => .object "PostVotes$Van"
  | 6 => .object "java/util/ArrayList"
  | 7 => .array .int
  | 8 => .array .int
  | _ => .array .int
abbrev wsX100 : List Cond := u_ws RX10 TX10 10
theorem nmX10 : ∀ a, a < 10 → ∀ b, b < 10 → a ≠ b → (TX10 a).2.1 ≠ (TX10 b).2.1 := by decide +kernel
theorem tyX10_ok : ∀ k, k < 10 → parseFieldDescriptor (TX10 k).2.2.1 = some (tyX10 k) := by decide +kernel
abbrev cX10_init : ByteArray := prog_1_method_1_code
def yX10_init : MethodName := ⟨RX10, "<init>", "()V"⟩
abbrev cX10_days : ByteArray := prog_1_method_2_code
def yX10_days : MethodName := ⟨RX10, "days", "(I)I"⟩
abbrev cX10_voter : ByteArray := prog_1_method_3_code
def yX10_voter : MethodName := ⟨RX10, "voter", "(III)I"⟩
abbrev cX10_move : ByteArray := prog_1_method_4_code
def yX10_move : MethodName := ⟨RX10, "move", "(III)Z"⟩
abbrev cX10_shire : ByteArray := prog_1_method_5_code
def yX10_shire : MethodName := ⟨RX10, "shire", "(III)I"⟩
abbrev cX10_send : ByteArray := prog_1_method_6_code
def yX10_send : MethodName := ⟨RX10, "send", "(III)I"⟩
abbrev cX10_event : ByteArray := prog_1_method_7_code
def yX10_event : MethodName := ⟨RX10, "event", "(IIII)Z"⟩
abbrev cX10_empty : ByteArray := prog_1_method_8_code
def yX10_empty : MethodName := ⟨RX10, "empty", "(III)I"⟩
abbrev cX10_sealed : ByteArray := prog_1_method_9_code
def yX10_sealed : MethodName := ⟨RX10, "sealed", "(II)I"⟩
abbrev cX10_read : ByteArray := prog_1_method_10_code
def yX10_read : MethodName := ⟨RX10, "read", "(II)Z"⟩
abbrev cX10_hand : ByteArray := prog_1_method_11_code
def yX10_hand : MethodName := ⟨RX10, "hand", "(IIZ)Z"⟩
abbrev cX10_booth : ByteArray := prog_1_method_12_code
def yX10_booth : MethodName := ⟨RX10, "booth", "(II)Z"⟩
abbrev cX10_feed : ByteArray := prog_1_method_13_code
def yX10_feed : MethodName := ⟨RX10, "feed", "(IIIII)I"⟩
abbrev cX10_end : ByteArray := prog_1_method_14_code
def yX10_end : MethodName := ⟨RX10, "end", "(I)Z"⟩
abbrev cX10_fault : ByteArray := prog_1_method_15_code
def yX10_fault : MethodName := ⟨RX10, "fault", "()I"⟩
abbrev cX10_law : ByteArray := prog_1_method_16_code
def yX10_law : MethodName := ⟨RX10, "law", "(II)I"⟩
abbrev cX10_lawful : ByteArray := prog_1_method_17_code
def yX10_lawful : MethodName := ⟨RX10, "lawful", "(III)I"⟩
abbrev cX10_letter : ByteArray := prog_1_method_18_code
def yX10_letter : MethodName := ⟨RX10, "letter", "(III)I"⟩
abbrev cX10_state : ByteArray := prog_1_method_19_code
def yX10_state : MethodName := ⟨RX10, "state", "(II)I"⟩
abbrev cX10_reason : ByteArray := prog_1_method_20_code
def yX10_reason : MethodName := ⟨RX10, "reason", "(II)I"⟩
abbrev cX10_ruled : ByteArray := prog_1_method_21_code
def yX10_ruled : MethodName := ⟨RX10, "ruled", "(II)I"⟩
abbrev cX10_first : ByteArray := prog_1_method_22_code
def yX10_first : MethodName := ⟨RX10, "first", "(II)I"⟩
abbrev cX10_doubles : ByteArray := prog_1_method_23_code
def yX10_doubles : MethodName := ⟨RX10, "doubles", "(I)I"⟩
abbrev cX10_many : ByteArray := prog_1_method_24_code
def yX10_many : MethodName := ⟨RX10, "many", "(III)I"⟩
abbrev cX10_habit : ByteArray := prog_1_method_25_code
def yX10_habit : MethodName := ⟨RX10, "habit", "(III)I"⟩
abbrev cX10_harshest : ByteArray := prog_1_method_26_code
def yX10_harshest : MethodName := ⟨RX10, "harshest", "()I"⟩
abbrev cX10_size : ByteArray := prog_1_method_27_code
def yX10_size : MethodName := ⟨RX10, "size", "(I)Z"⟩
abbrev cX10_recheck : ByteArray := prog_1_method_28_code
def yX10_recheck : MethodName := ⟨RX10, "recheck", "(IIJ)I"⟩
abbrev cX10_wave : ByteArray := prog_1_method_29_code
def yX10_wave : MethodName := ⟨RX10, "wave", "(III)I"⟩
abbrev cX10_press : ByteArray := prog_1_method_30_code
def yX10_press : MethodName := ⟨RX10, "press", "(I)Z"⟩
abbrev cX10_printed : ByteArray := prog_1_method_31_code
def yX10_printed : MethodName := ⟨RX10, "printed", "(I)I"⟩
abbrev cX10_latest : ByteArray := prog_1_method_32_code
def yX10_latest : MethodName := ⟨RX10, "latest", "()I"⟩
abbrev cX10_stand : ByteArray := prog_1_method_33_code
def yX10_stand : MethodName := ⟨RX10, "stand", "(III)Z"⟩
abbrev cX10_road : ByteArray := prog_1_method_34_code
def yX10_road : MethodName := ⟨RX10, "road", "(III)Z"⟩
abbrev cX10_stops : ByteArray := prog_1_method_35_code
def yX10_stops : MethodName := ⟨RX10, "stops", "(I)Z"⟩
abbrev cX10_round : ByteArray := prog_1_method_36_code
def yX10_round : MethodName := ⟨RX10, "round", "(I)I"⟩
abbrev cX10_route : ByteArray := prog_1_method_37_code
def yX10_route : MethodName := ⟨RX10, "route", "(II)I"⟩
abbrev cX10_usual : ByteArray := prog_1_method_38_code
def yX10_usual : MethodName := ⟨RX10, "usual", "(II)I"⟩
abbrev cX10_ends : ByteArray := prog_1_method_39_code
def yX10_ends : MethodName := ⟨RX10, "ends", "(II)Z"⟩
abbrev cX10_late : ByteArray := prog_1_method_40_code
def yX10_late : MethodName := ⟨RX10, "late", "(I)I"⟩
abbrev cX10_open : ByteArray := prog_1_method_41_code
def yX10_open : MethodName := ⟨RX10, "open", "(I)I"⟩
abbrev cX10_heap : ByteArray := prog_1_method_42_code
def yX10_heap : MethodName := ⟨RX10, "heap", "(II)I"⟩
abbrev cX10_street : ByteArray := prog_1_method_43_code
def yX10_street : MethodName := ⟨RX10, "street", "(III)I"⟩
abbrev cX10_count : ByteArray := prog_1_method_44_code
def yX10_count : MethodName := ⟨RX10, "count", "(I)I"⟩
abbrev cX10_isWithin : ByteArray := prog_1_method_45_code
def yX10_isWithin : MethodName := ⟨RX10, "isWithin", "(III)Z"⟩
abbrev cX10_isShire : ByteArray := prog_1_method_46_code
def yX10_isShire : MethodName := ⟨RX10, "isShire", "(I)Z"⟩
abbrev cX10_isStreet : ByteArray := prog_1_method_47_code
def yX10_isStreet : MethodName := ⟨RX10, "isStreet", "(I)Z"⟩
abbrev cX10_isChoice : ByteArray := prog_1_method_48_code
def yX10_isChoice : MethodName := ⟨RX10, "isChoice", "(I)Z"⟩
abbrev cX10_isBox : ByteArray := prog_1_method_49_code
def yX10_isBox : MethodName := ⟨RX10, "isBox", "(I)Z"⟩
abbrev cX10_isHand : ByteArray := prog_1_method_50_code
def yX10_isHand : MethodName := ⟨RX10, "isHand", "(I)Z"⟩
abbrev cX10_isSign : ByteArray := prog_1_method_51_code
def yX10_isSign : MethodName := ⟨RX10, "isSign", "(I)Z"⟩
abbrev cX10_isDay : ByteArray := prog_1_method_52_code
def yX10_isDay : MethodName := ⟨RX10, "isDay", "(I)Z"⟩
abbrev cX10_isMinute : ByteArray := prog_1_method_53_code
def yX10_isMinute : MethodName := ⟨RX10, "isMinute", "(I)Z"⟩
abbrev cX10_isLetter : ByteArray := prog_1_method_54_code
def yX10_isLetter : MethodName := ⟨RX10, "isLetter", "(I)Z"⟩
abbrev cX10_isUpToNow : ByteArray := prog_1_method_55_code
def yX10_isUpToNow : MethodName := ⟨RX10, "isUpToNow", "(I)Z"⟩
abbrev cX10_signsIn : ByteArray := prog_1_method_56_code
def yX10_signsIn : MethodName := ⟨RX10, "signsIn", "(I)I"⟩
abbrev cX10_judged : ByteArray := prog_1_method_57_code
def yX10_judged : MethodName := ⟨RX10, "judged", "(II)LPostVotes$Envelope;"⟩
abbrev cX10_layCounted : ByteArray := prog_1_method_58_code
def yX10_layCounted : MethodName := ⟨RX10, "layCounted", "()I"⟩
abbrev cX10_usualOf : ByteArray := prog_1_method_59_code
def yX10_usualOf : MethodName := ⟨RX10, "usualOf", "(II)I"⟩
abbrev cX10_fitsHeap : ByteArray := prog_1_method_60_code
def yX10_fitsHeap : MethodName := ⟨RX10, "fitsHeap", "(LPostVotes$Envelope;I)Z"⟩
abbrev cX10_manyInHeaps : ByteArray := prog_1_method_61_code
def yX10_manyInHeaps : MethodName := ⟨RX10, "manyInHeaps", "()I"⟩
abbrev cX10_manyWrong : ByteArray := prog_1_method_62_code
def yX10_manyWrong : MethodName := ⟨RX10, "manyWrong", "()I"⟩
def RX11 : String := "PostVotesModel"
def TX11 : u_T := fun k => match k with
  | 0 => ("PostVotesModel", "now", "I", false)
  | 1 => ("PostVotesModel", "voters", "I", false)
  | 2 => ("PostVotesModel", "moves", "I", false)
  | 3 => ("PostVotesModel", "envelopes", "I", false)
  | 4 => ("PostVotesModel", "events", "I", false)
  | 5 => ("PostVotesModel", "emptyings", "I", false)
  | 6 => ("PostVotesModel", "reads", "I", false)
  | 7 => ("PostVotesModel", "tells", "I", false)
  | 8 => ("PostVotesModel", "booths", "I", false)
  | 9 => ("PostVotesModel", "laws", "I", false)
  | 10 => ("PostVotesModel", "waves", "I", false)
  | 11 => ("PostVotesModel", "heaps", "I", false)
  | 12 => ("PostVotesModel", "size", "I", false)
  | 13 => ("PostVotesModel", "shireOf", "[I", true)
  | 14 => ("PostVotesModel", "streetOf", "[I", true)
  | 15 => ("PostVotesModel", "signOf", "[I", true)
  | 16 => ("PostVotesModel", "moveOf", "[I", true)
  | 17 => ("PostVotesModel", "moveTo", "[I", true)
  | 18 => ("PostVotesModel", "moveDay", "[I", true)
  | 19 => ("PostVotesModel", "moveTold", "[I", true)
  | 20 => ("PostVotesModel", "voterOf", "[I", true)
  | 21 => ("PostVotesModel", "sentOn", "[I", true)
  | 22 => ("PostVotesModel", "sentTold", "[I", true)
  | 23 => ("PostVotesModel", "choiceOf", "[I", true)
  | 24 => ("PostVotesModel", "eventOf", "[I", true)
  | 25 => ("PostVotesModel", "eventKind", "[I", true)
  | 26 => ("PostVotesModel", "eventDay", "[I", true)
  | 27 => ("PostVotesModel", "eventBox", "[I", true)
  | 28 => ("PostVotesModel", "eventTold", "[I", true)
  | 29 => ("PostVotesModel", "emptyBox", "[I", true)
  | 30 => ("PostVotesModel", "emptyDay", "[I", true)
  | 31 => ("PostVotesModel", "emptyMany", "[I", true)
  | 32 => ("PostVotesModel", "emptyTold", "[I", true)
  | 33 => ("PostVotesModel", "comes", "I", false)
  | 34 => ("PostVotesModel", "byEmptying", "I", false)
  | 35 => ("PostVotesModel", "readOf", "[I", true)
  | 36 => ("PostVotesModel", "readSign", "[I", true)
  | 37 => ("PostVotesModel", "readTold", "[I", true)
  | 38 => ("PostVotesModel", "tellOf", "[I", true)
  | 39 => ("PostVotesModel", "tellHand", "[I", true)
  | 40 => ("PostVotesModel", "tellTold", "[I", true)
  | 41 => ("PostVotesModel", "tellYes", "[Z", true)
  | 42 => ("PostVotesModel", "boothOf", "[I", true)
  | 43 => ("PostVotesModel", "boothDay", "[I", true)
  | 44 => ("PostVotesModel", "boothTold", "[I", true)
  | 45 => ("PostVotesModel", "tape", "[I", true)
  | 46 => ("PostVotesModel", "codes", "[I", true)
  | 47 => ("PostVotesModel", "saying", "[I", true)
  | 48 => ("PostVotesModel", "lawShire", "[I", true)
  | 49 => ("PostVotesModel", "lawDay", "[I", true)
  | 50 => ("PostVotesModel", "lawTold", "[I", true)
  | 51 => ("PostVotesModel", "lawRules", "[I", true)
  | 52 => ("PostVotesModel", "tapeSize", "I", false)
  | 53 => ("PostVotesModel", "at", "I", false)
  | 54 => ("PostVotesModel", "wrong", "I", false)
  | 55 => ("PostVotesModel", "deep", "I", false)
  | 56 => ("PostVotesModel", "said", "I", false)
  | 57 => ("PostVotesModel", "ruleMany", "I", false)
  | 58 => ("PostVotesModel", "pile", "[I", true)
  | 59 => ("PostVotesModel", "place", "I", false)
  | 60 => ("PostVotesModel", "states", "[I", true)
  | 61 => ("PostVotesModel", "reasons", "[I", true)
  | 62 => ("PostVotesModel", "rules", "[I", true)
  | 63 => ("PostVotesModel", "goodAhead", "[I", true)
  | 64 => ("PostVotesModel", "dayFor", "[I", true)
  | 65 => ("PostVotesModel", "row", "[I", true)
  | 66 => ("PostVotesModel", "rowMany", "I", false)
  | 67 => ("PostVotesModel", "thrown", "I", false)
  | 68 => ("PostVotesModel", "pairs", "I", false)
  | 69 => ("PostVotesModel", "harsh", "I", false)
  | 70 => ("PostVotesModel", "soft", "I", false)
  | 71 => ("PostVotesModel", "counted", "[Z", true)
  | 72 => ("PostVotesModel", "countedShire", "[I", true)
  | 73 => ("PostVotesModel", "lots", "[I", true)
  | 74 => ("PostVotesModel", "waveMany", "[I", true)
  | 75 => ("PostVotesModel", "waveReady", "[I", true)
  | 76 => ("PostVotesModel", "waveDue", "[I", true)
  | 77 => ("PostVotesModel", "waveLeft", "[I", true)
  | 78 => ("PostVotesModel", "waveEnd", "[I", true)
  | 79 => ("PostVotesModel", "press", "I", false)
  | 80 => ("PostVotesModel", "roads", "[I", true)
  | 81 => ("PostVotesModel", "stands", "[Z", true)
  | 82 => ("PostVotesModel", "openFrom", "[I", true)
  | 83 => ("PostVotesModel", "openTo", "[I", true)
  | 84 => ("PostVotesModel", "been", "[Z", true)
  | 85 => ("PostVotesModel", "trip", "[I", true)
  | 86 => ("PostVotesModel", "bestTrip", "[I", true)
  | 87 => ("PostVotesModel", "stop", "I", false)
  | 88 => ("PostVotesModel", "bestHome", "I", false)
  | 89 => ("PostVotesModel", "tripMany", "I", false)
  | 90 => ("PostVotesModel", "lastDay", "[I", true)
  | 91 => ("PostVotesModel", "took", "[I", true)
  | 92 => ("PostVotesModel", "heapOf", "[I", true)
  | 93 => ("PostVotesModel", "heapShire", "[I", true)
  | _ => ("PostVotesModel", "heapDay", "[I", true)
def tyX11 : Nat → FieldType := fun k => match k with
  | 0 => .int
  | 1 => .int
  | 2 => .int
  | 3 => .int
  | 4 => .int
  | 5 => .int
  | 6 => .int
  | 7 => .int
  | 8 => .int
  | 9 => .int
  | 10 => .int
  | 11 => .int
  | 12 => .int
  | 13 => .array .int
  | 14 => .array .int
  | 15 => .array .int
  | 16 => .array .int
  | 17 => .array .int
  | 18 => .array .int
  | 19 => .array .int
  | 20 => .array .int
  | 21 => .array .int
  | 22 => .array .int
  | 23 => .array .int
  | 24 => .array .int
  | 25 => .array .int
  | 26 => .array .int
  | 27 => .array .int
  | 28 => .array .int
  | 29 => .array .int
  | 30 => .array .int
  | 31 => .array .int
  | 32 => .array .int
  | 33 => .int
  | 34 => .int
  | 35 => .array .int
  | 36 => .array .int
  | 37 => .array .int
  | 38 => .array .int
  | 39 => .array .int
  | 40 => .array .int
  | 41 => .array .boolean
  | 42 => .array .int
  | 43 => .array .int
  | 44 => .array .int
  | 45 => .array .int
  | 46 => .array .int
  | 47 => .array .int
  | 48 => .array .int
  | 49 => .array .int
  | 50 => .array .int
  | 51 => .array .int
  | 52 => .int
  | 53 => .int
  | 54 => .int
  | 55 => .int
  | 56 => .int
  | 57 => .int
  | 58 => .array .int
  | 59 => .int
  | 60 => .array .int
  | 61 => .array .int
  | 62 => .array .int
  | 63 => .array .int
  | 64 => .array .int
  | 65 => .array .int
  | 66 => .int
  | 67 => .int
  | 68 => .int
  | 69 => .int
  | 70 => .int
  | 71 => .array .boolean
  | 72 => .array .int
  | 73 => .array .int
  | 74 => .array .int
  | 75 => .array .int
  | 76 => .array .int
  | 77 => .array .int
  | 78 => .array .int
  | 79 => .int
  | 80 => .array .int
  | 81 => .array .boolean
  | 82 => .array .int
  | 83 => .array .int
  | 84 => .array .boolean
  | 85 => .array .int
  | 86 => .array .int
  | 87 => .int
  | 88 => .int
  | 89 => .int
  | 90 => .array .int
  | 91 => .array .int
  | 92 => .array .int
  | 93 => .array .int
  | _ => .array .int
abbrev wsX110 : List Cond := u_ws RX11 TX11 95
theorem nmX11 : ∀ a, a < 95 → ∀ b, b < 95 → a ≠ b → (TX11 a).2.1 ≠ (TX11 b).2.1 := by decide +kernel
theorem tyX11_ok : ∀ k, k < 95 → parseFieldDescriptor (TX11 k).2.2.1 = some (tyX11 k) := by decide +kernel
abbrev cX11_in : ByteArray := prog_13_method_1_code
def yX11_in : MethodName := ⟨RX11, "in", "(III)Z"⟩
abbrev cX11_init : ByteArray := prog_13_method_2_code
def yX11_init : MethodName := ⟨RX11, "<init>", "()V"⟩
abbrev cX11_days : ByteArray := prog_13_method_3_code
def yX11_days : MethodName := ⟨RX11, "days", "(I)I"⟩
abbrev cX11_isVoter : ByteArray := prog_13_method_4_code
def yX11_isVoter : MethodName := ⟨RX11, "isVoter", "(I)Z"⟩
abbrev cX11_isShire : ByteArray := prog_13_method_5_code
def yX11_isShire : MethodName := ⟨RX11, "isShire", "(I)Z"⟩
abbrev cX11_voter : ByteArray := prog_13_method_6_code
def yX11_voter : MethodName := ⟨RX11, "voter", "(III)I"⟩
abbrev cX11_move : ByteArray := prog_13_method_7_code
def yX11_move : MethodName := ⟨RX11, "move", "(III)Z"⟩
abbrev cX11_shireOn : ByteArray := prog_13_method_8_code
def yX11_shireOn : MethodName := ⟨RX11, "shireOn", "(III)I"⟩
abbrev cX11_isKnowing : ByteArray := prog_13_method_9_code
def yX11_isKnowing : MethodName := ⟨RX11, "isKnowing", "(I)Z"⟩
abbrev cX11_shire : ByteArray := prog_13_method_10_code
def yX11_shire : MethodName := ⟨RX11, "shire", "(III)I"⟩
abbrev cX11_isEnvelope : ByteArray := prog_13_method_11_code
def yX11_isEnvelope : MethodName := ⟨RX11, "isEnvelope", "(I)Z"⟩
abbrev cX11_isSent : ByteArray := prog_13_method_12_code
def yX11_isSent : MethodName := ⟨RX11, "isSent", "(II)Z"⟩
abbrev cX11_send : ByteArray := prog_13_method_13_code
def yX11_send : MethodName := ⟨RX11, "send", "(III)I"⟩
abbrev cX11_event : ByteArray := prog_13_method_14_code
def yX11_event : MethodName := ⟨RX11, "event", "(IIII)Z"⟩
abbrev cX11_empty : ByteArray := prog_13_method_15_code
def yX11_empty : MethodName := ⟨RX11, "empty", "(III)I"⟩
abbrev cX11_eventFor : ByteArray := prog_13_method_16_code
def yX11_eventFor : MethodName := ⟨RX11, "eventFor", "(III)I"⟩
abbrev cX11_dayOf : ByteArray := prog_13_method_17_code
def yX11_dayOf : MethodName := ⟨RX11, "dayOf", "(III)I"⟩
abbrev cX11_emptyingFor : ByteArray := prog_13_method_18_code
def yX11_emptyingFor : MethodName := ⟨RX11, "emptyingFor", "(II)I"⟩
abbrev cX11_ask : ByteArray := prog_13_method_19_code
def yX11_ask : MethodName := ⟨RX11, "ask", "(II)V"⟩
abbrev cX11_comesOn : ByteArray := prog_13_method_20_code
def yX11_comesOn : MethodName := ⟨RX11, "comesOn", "(II)I"⟩
abbrev cX11_sealed : ByteArray := prog_13_method_21_code
def yX11_sealed : MethodName := ⟨RX11, "sealed", "(II)I"⟩
abbrev cX11_read : ByteArray := prog_13_method_22_code
def yX11_read : MethodName := ⟨RX11, "read", "(II)Z"⟩
abbrev cX11_hand : ByteArray := prog_13_method_23_code
def yX11_hand : MethodName := ⟨RX11, "hand", "(IIZ)Z"⟩
abbrev cX11_booth : ByteArray := prog_13_method_24_code
def yX11_booth : MethodName := ⟨RX11, "booth", "(II)Z"⟩
abbrev cX11_wordOf : ByteArray := prog_13_method_25_code
def yX11_wordOf : MethodName := ⟨RX11, "wordOf", "(III)I"⟩
abbrev cX11_wordsOf : ByteArray := prog_13_method_26_code
def yX11_wordsOf : MethodName := ⟨RX11, "wordsOf", "(III)I"⟩
abbrev cX11_unlike : ByteArray := prog_13_method_27_code
def yX11_unlike : MethodName := ⟨RX11, "unlike", "(II)I"⟩
abbrev cX11_boothFor : ByteArray := prog_13_method_28_code
def yX11_boothFor : MethodName := ⟨RX11, "boothFor", "(II)I"⟩
abbrev cX11_sentTo : ByteArray := prog_13_method_29_code
def yX11_sentTo : MethodName := ⟨RX11, "sentTo", "(II)I"⟩
abbrev cX11_byteOf : ByteArray := prog_13_method_30_code
def yX11_byteOf : MethodName := ⟨RX11, "byteOf", "(IIIIII)I"⟩
abbrev cX11_feed : ByteArray := prog_13_method_31_code
def yX11_feed : MethodName := ⟨RX11, "feed", "(IIIII)I"⟩
abbrev cX11_end : ByteArray := prog_13_method_32_code
def yX11_end : MethodName := ⟨RX11, "end", "(I)Z"⟩
abbrev cX11_look : ByteArray := prog_13_method_33_code
def yX11_look : MethodName := ⟨RX11, "look", "()I"⟩
abbrev cX11_bad : ByteArray := prog_13_method_34_code
def yX11_bad : MethodName := ⟨RX11, "bad", "()V"⟩
abbrev cX11_say : ByteArray := prog_13_method_35_code
def yX11_say : MethodName := ⟨RX11, "say", "(I)V"⟩
abbrev cX11_isDigit : ByteArray := prog_13_method_36_code
def yX11_isDigit : MethodName := ⟨RX11, "isDigit", "(I)Z"⟩
abbrev cX11_isLetter : ByteArray := prog_13_method_37_code
def yX11_isLetter : MethodName := ⟨RX11, "isLetter", "(I)Z"⟩
abbrev cX11_opens : ByteArray := prog_13_method_38_code
def yX11_opens : MethodName := ⟨RX11, "opens", "()Z"⟩
abbrev cX11_closes : ByteArray := prog_13_method_39_code
def yX11_closes : MethodName := ⟨RX11, "closes", "(I)V"⟩
abbrev cX11_number : ByteArray := prog_13_method_40_code
def yX11_number : MethodName := ⟨RX11, "number", "()V"⟩
abbrev cX11_atom : ByteArray := prog_13_method_41_code
def yX11_atom : MethodName := ⟨RX11, "atom", "()V"⟩
abbrev cX11_term : ByteArray := prog_13_method_42_code
def yX11_term : MethodName := ⟨RX11, "term", "()V"⟩
abbrev cX11_sum : ByteArray := prog_13_method_43_code
def yX11_sum : MethodName := ⟨RX11, "sum", "()V"⟩
abbrev cX11_unit : ByteArray := prog_13_method_44_code
def yX11_unit : MethodName := ⟨RX11, "unit", "()V"⟩
abbrev cX11_part : ByteArray := prog_13_method_45_code
def yX11_part : MethodName := ⟨RX11, "part", "()V"⟩
abbrev cX11_condition : ByteArray := prog_13_method_46_code
def yX11_condition : MethodName := ⟨RX11, "condition", "()V"⟩
abbrev cX11_rule : ByteArray := prog_13_method_47_code
def yX11_rule : MethodName := ⟨RX11, "rule", "()V"⟩
abbrev cX11_fault : ByteArray := prog_13_method_48_code
def yX11_fault : MethodName := ⟨RX11, "fault", "()I"⟩
abbrev cX11_law : ByteArray := prog_13_method_49_code
def yX11_law : MethodName := ⟨RX11, "law", "(II)I"⟩
abbrev cX11_lawOn : ByteArray := prog_13_method_50_code
def yX11_lawOn : MethodName := ⟨RX11, "lawOn", "(III)I"⟩
abbrev cX11_lawful : ByteArray := prog_13_method_51_code
def yX11_lawful : MethodName := ⟨RX11, "lawful", "(III)I"⟩
abbrev cX11_letterOf : ByteArray := prog_13_method_52_code
def yX11_letterOf : MethodName := ⟨RX11, "letterOf", "(IIII)I"⟩
abbrev cX11_bounded : ByteArray := prog_13_method_53_code
def yX11_bounded : MethodName := ⟨RX11, "bounded", "(J)I"⟩
abbrev cX11_work : ByteArray := prog_13_method_54_code
def yX11_work : MethodName := ⟨RX11, "work", "(IIII)I"⟩
abbrev cX11_both : ByteArray := prog_13_method_55_code
def yX11_both : MethodName := ⟨RX11, "both", "(III)I"⟩
abbrev cX11_line : ByteArray := prog_13_method_56_code
def yX11_line : MethodName := ⟨RX11, "line", "(II)V"⟩
abbrev cX11_judgeOne : ByteArray := prog_13_method_57_code
def yX11_judgeOne : MethodName := ⟨RX11, "judgeOne", "(III)V"⟩
abbrev cX11_judge : ByteArray := prog_13_method_58_code
def yX11_judge : MethodName := ⟨RX11, "judge", "(II)V"⟩
abbrev cX11_isAsked : ByteArray := prog_13_method_59_code
def yX11_isAsked : MethodName := ⟨RX11, "isAsked", "(II)Z"⟩
abbrev cX11_thrown : ByteArray := prog_13_method_60_code
def yX11_thrown : MethodName := ⟨RX11, "thrown", "()I"⟩
abbrev cX11_letter : ByteArray := prog_13_method_61_code
def yX11_letter : MethodName := ⟨RX11, "letter", "(III)I"⟩
abbrev cX11_state : ByteArray := prog_13_method_62_code
def yX11_state : MethodName := ⟨RX11, "state", "(II)I"⟩
abbrev cX11_reason : ByteArray := prog_13_method_63_code
def yX11_reason : MethodName := ⟨RX11, "reason", "(II)I"⟩
abbrev cX11_ruled : ByteArray := prog_13_method_64_code
def yX11_ruled : MethodName := ⟨RX11, "ruled", "(II)I"⟩
abbrev cX11_firstGood : ByteArray := prog_13_method_65_code
def yX11_firstGood : MethodName := ⟨RX11, "firstGood", "()I"⟩
abbrev cX11_first : ByteArray := prog_13_method_66_code
def yX11_first : MethodName := ⟨RX11, "first", "(II)I"⟩
abbrev cX11_doubles : ByteArray := prog_13_method_67_code
def yX11_doubles : MethodName := ⟨RX11, "doubles", "(I)I"⟩
abbrev cX11_many : ByteArray := prog_13_method_68_code
def yX11_many : MethodName := ⟨RX11, "many", "(III)I"⟩
abbrev cX11_meet : ByteArray := prog_13_method_69_code
def yX11_meet : MethodName := ⟨RX11, "meet", "(II)V"⟩
abbrev cX11_habit : ByteArray := prog_13_method_70_code
def yX11_habit : MethodName := ⟨RX11, "habit", "(III)I"⟩
abbrev cX11_harshest : ByteArray := prog_13_method_71_code
def yX11_harshest : MethodName := ⟨RX11, "harshest", "()I"⟩
abbrev cX11_size : ByteArray := prog_13_method_72_code
def yX11_size : MethodName := ⟨RX11, "size", "(I)Z"⟩
abbrev cX11_findCounted : ByteArray := prog_13_method_73_code
def yX11_findCounted : MethodName := ⟨RX11, "findCounted", "()I"⟩
abbrev cX11_recheck : ByteArray := prog_13_method_74_code
def yX11_recheck : MethodName := ⟨RX11, "recheck", "(IIJ)I"⟩
abbrev cX11_wave : ByteArray := prog_13_method_75_code
def yX11_wave : MethodName := ⟨RX11, "wave", "(III)I"⟩
abbrev cX11_press : ByteArray := prog_13_method_76_code
def yX11_press : MethodName := ⟨RX11, "press", "(I)Z"⟩
abbrev cX11_nextWave : ByteArray := prog_13_method_77_code
def yX11_nextWave : MethodName := ⟨RX11, "nextWave", "(I)I"⟩
abbrev cX11_print : ByteArray := prog_13_method_78_code
def yX11_print : MethodName := ⟨RX11, "print", "()V"⟩
abbrev cX11_printed : ByteArray := prog_13_method_79_code
def yX11_printed : MethodName := ⟨RX11, "printed", "(I)I"⟩
abbrev cX11_latest : ByteArray := prog_13_method_80_code
def yX11_latest : MethodName := ⟨RX11, "latest", "()I"⟩
abbrev cX11_stand : ByteArray := prog_13_method_81_code
def yX11_stand : MethodName := ⟨RX11, "stand", "(III)Z"⟩
abbrev cX11_road : ByteArray := prog_13_method_82_code
def yX11_road : MethodName := ⟨RX11, "road", "(III)Z"⟩
abbrev cX11_stops : ByteArray := prog_13_method_83_code
def yX11_stops : MethodName := ⟨RX11, "stops", "(I)Z"⟩
abbrev cX11_drive : ByteArray := prog_13_method_84_code
def yX11_drive : MethodName := ⟨RX11, "drive", "(III)V"⟩
abbrev cX11_findRound : ByteArray := prog_13_method_85_code
def yX11_findRound : MethodName := ⟨RX11, "findRound", "(I)Z"⟩
abbrev cX11_round : ByteArray := prog_13_method_86_code
def yX11_round : MethodName := ⟨RX11, "round", "(I)I"⟩
abbrev cX11_route : ByteArray := prog_13_method_87_code
def yX11_route : MethodName := ⟨RX11, "route", "(II)I"⟩
abbrev cX11_usualOf : ByteArray := prog_13_method_88_code
def yX11_usualOf : MethodName := ⟨RX11, "usualOf", "(II)I"⟩
abbrev cX11_usual : ByteArray := prog_13_method_89_code
def yX11_usual : MethodName := ⟨RX11, "usual", "(II)I"⟩
abbrev cX11_ends : ByteArray := prog_13_method_90_code
def yX11_ends : MethodName := ⟨RX11, "ends", "(II)Z"⟩
abbrev cX11_late : ByteArray := prog_13_method_91_code
def yX11_late : MethodName := ⟨RX11, "late", "(I)I"⟩
abbrev cX11_open : ByteArray := prog_13_method_92_code
def yX11_open : MethodName := ⟨RX11, "open", "(I)I"⟩
abbrev cX11_heap : ByteArray := prog_13_method_93_code
def yX11_heap : MethodName := ⟨RX11, "heap", "(II)I"⟩
abbrev cX11_street : ByteArray := prog_13_method_94_code
def yX11_street : MethodName := ⟨RX11, "street", "(III)I"⟩
abbrev cX11_count : ByteArray := prog_13_method_95_code
def yX11_count : MethodName := ⟨RX11, "count", "(I)I"⟩
def RJx145de : String := "java/io/Serializable"
def TJx145de : u_T := fun k => match k with
  | _ => ("", "", "", false)
def tyJx145de : Nat → FieldType := fun k => match k with
  | _ => .int
abbrev wsJx145de0 : List Cond := u_ws RJx145de TJx145de 0
theorem nmJx145de : ∀ a, a < 0 → ∀ b, b < 0 → a ≠ b → (TJx145de a).2.1 ≠ (TJx145de b).2.1 := by decide +kernel
theorem tyJx145de_ok : ∀ k, k < 0 → parseFieldDescriptor (TJx145de k).2.2.1 = some (tyJx145de k) := by decide +kernel
def RJx9f9b0 : String := "java/lang/CharSequence"
def TJx9f9b0 : u_T := fun k => match k with
  | _ => ("", "", "", false)
def tyJx9f9b0 : Nat → FieldType := fun k => match k with
  | _ => .int
abbrev wsJx9f9b00 : List Cond := u_ws RJx9f9b0 TJx9f9b0 0
theorem nmJx9f9b0 : ∀ a, a < 0 → ∀ b, b < 0 → a ≠ b → (TJx9f9b0 a).2.1 ≠ (TJx9f9b0 b).2.1 := by decide +kernel
theorem tyJx9f9b0_ok : ∀ k, k < 0 → parseFieldDescriptor (TJx9f9b0 k).2.2.1 = some (tyJx9f9b0 k) := by decide +kernel
def RJ11 : String := "java/lang/Character"
abbrev cJ11_isValidCodePoint_9a6ad : ByteArray := prog_16_method_11_code
def yJ11_isValidCodePoint_9a6ad : MethodName := ⟨RJ11, "isValidCodePoint", "(I)Z"⟩
abbrev cJ11_highSurrogate_5068e : ByteArray := prog_16_method_28_code
def yJ11_highSurrogate_5068e : MethodName := ⟨RJ11, "highSurrogate", "(I)C"⟩
abbrev cJ11_lowSurrogate_5068e : ByteArray := prog_16_method_29_code
def yJ11_lowSurrogate_5068e : MethodName := ⟨RJ11, "lowSurrogate", "(I)C"⟩
def RJx8e188 : String := "java/lang/Cloneable"
def TJx8e188 : u_T := fun k => match k with
  | _ => ("", "", "", false)
def tyJx8e188 : Nat → FieldType := fun k => match k with
  | _ => .int
abbrev wsJx8e1880 : List Cond := u_ws RJx8e188 TJx8e188 0
theorem nmJx8e188 : ∀ a, a < 0 → ∀ b, b < 0 → a ≠ b → (TJx8e188 a).2.1 ≠ (TJx8e188 b).2.1 := by decide +kernel
theorem tyJx8e188_ok : ∀ k, k < 0 → parseFieldDescriptor (TJx8e188 k).2.2.1 = some (tyJx8e188 k) := by decide +kernel
def RJxb160c : String := "java/lang/Comparable"
def TJxb160c : u_T := fun k => match k with
  | _ => ("", "", "", false)
def tyJxb160c : Nat → FieldType := fun k => match k with
  | _ => .int
abbrev wsJxb160c0 : List Cond := u_ws RJxb160c TJxb160c 0
theorem nmJxb160c : ∀ a, a < 0 → ∀ b, b < 0 → a ≠ b → (TJxb160c a).2.1 ≠ (TJxb160c b).2.1 := by decide +kernel
theorem tyJxb160c_ok : ∀ k, k < 0 → parseFieldDescriptor (TJxb160c k).2.2.1 = some (tyJxb160c k) := by decide +kernel
def RJxab1ab : String := "java/lang/Iterable"
def TJxab1ab : u_T := fun k => match k with
  | _ => ("", "", "", false)
def tyJxab1ab : Nat → FieldType := fun k => match k with
  | _ => .int
abbrev wsJxab1ab0 : List Cond := u_ws RJxab1ab TJxab1ab 0
theorem nmJxab1ab : ∀ a, a < 0 → ∀ b, b < 0 → a ≠ b → (TJxab1ab a).2.1 ≠ (TJxab1ab b).2.1 := by decide +kernel
theorem tyJxab1ab_ok : ∀ k, k < 0 → parseFieldDescriptor (TJxab1ab k).2.2.1 = some (tyJxab1ab k) := by decide +kernel
def RJ9 : String := "java/lang/Math"
abbrev cJ9_max_7cf53 : ByteArray := prog_21_method_65_code
def yJ9_max_7cf53 : MethodName := ⟨RJ9, "max", "(II)I"⟩
abbrev cJ9_max_f86c9 : ByteArray := prog_21_method_66_code
def yJ9_max_f86c9 : MethodName := ⟨RJ9, "max", "(JJ)J"⟩
abbrev cJ9_min_7cf53 : ByteArray := prog_21_method_69_code
def yJ9_min_7cf53 : MethodName := ⟨RJ9, "min", "(II)I"⟩
abbrev cJ9_min_f86c9 : ByteArray := prog_21_method_70_code
def yJ9_min_f86c9 : MethodName := ⟨RJ9, "min", "(JJ)J"⟩
def RJ0 : String := "java/lang/String"
abbrev cJ0_length_8abf5 : ByteArray := prog_23_method_54_code
def yJ0_length_8abf5 : MethodName := ⟨RJ0, "length", "()I"⟩
abbrev cJ0_indexOf_0f7a4 : ByteArray := prog_23_method_79_code
def yJ0_indexOf_0f7a4 : MethodName := ⟨RJ0, "indexOf", "(I)I"⟩
abbrev cJ0_indexOf_7cf53 : ByteArray := prog_23_method_80_code
def yJ0_indexOf_7cf53 : MethodName := ⟨RJ0, "indexOf", "(II)I"⟩
abbrev cJ0_coder_7d493 : ByteArray := prog_23_method_152_code
def yJ0_coder_7d493 : MethodName := ⟨RJ0, "coder", "()B"⟩
abbrev cJ0_isLatin1_aae02 : ByteArray := prog_23_method_154_code
def yJ0_isLatin1_aae02 : MethodName := ⟨RJ0, "isLatin1", "()Z"⟩
abbrev cJ0_checkBoundsBeginEnd_23922 : ByteArray := prog_23_method_158_code
def yJ0_checkBoundsBeginEnd_23922 : MethodName := ⟨RJ0, "checkBoundsBeginEnd", "(III)V"⟩
def RJ1 : String := "java/lang/StringLatin1"
abbrev cJ1_canEncode_9a6ad : ByteArray := prog_24_method_4_code
def yJ1_canEncode_9a6ad : MethodName := ⟨RJ1, "canEncode", "(I)Z"⟩
abbrev cJ1_indexOf_4cfef : ByteArray := prog_24_method_22_code
def yJ1_indexOf_4cfef : MethodName := ⟨RJ1, "indexOf", "([BIII)I"⟩
abbrev cJ1_indexOfChar_4cfef : ByteArray := prog_24_method_23_code
def yJ1_indexOfChar_4cfef : MethodName := ⟨RJ1, "indexOfChar", "([BIII)I"⟩
def RJ2 : String := "java/lang/StringUTF16"
abbrev cJ2_getChar_3b067 : ByteArray := prog_25_method_5_code
def yJ2_getChar_3b067 : MethodName := ⟨RJ2, "getChar", "([BI)C"⟩
abbrev cJ2_length_9d52b : ByteArray := prog_25_method_6_code
def yJ2_length_9d52b : MethodName := ⟨RJ2, "length", "([B)I"⟩
abbrev cJ2_indexOf_4cfef : ByteArray := prog_25_method_40_code
def yJ2_indexOf_4cfef : MethodName := ⟨RJ2, "indexOf", "([BIII)I"⟩
abbrev cJ2_indexOfChar_4cfef : ByteArray := prog_25_method_47_code
def yJ2_indexOfChar_4cfef : MethodName := ⟨RJ2, "indexOfChar", "([BIII)I"⟩
abbrev cJ2_indexOfCharUnsafe_4cfef : ByteArray := prog_25_method_48_code
def yJ2_indexOfCharUnsafe_4cfef : MethodName := ⟨RJ2, "indexOfCharUnsafe", "([BIII)I"⟩
abbrev cJ2_indexOfSupplementary_4cfef : ByteArray := prog_25_method_49_code
def yJ2_indexOfSupplementary_4cfef : MethodName := ⟨RJ2, "indexOfSupplementary", "([BIII)I"⟩
abbrev cJ2_checkBoundsBeginEnd_d044e : ByteArray := prog_25_method_93_code
def yJ2_checkBoundsBeginEnd_d044e : MethodName := ⟨RJ2, "checkBoundsBeginEnd", "(II[B)V"⟩
def RJ10 : String := "java/lang/System"
def RJxfd54e : String := "java/lang/constant/Constable"
def TJxfd54e : u_T := fun k => match k with
  | _ => ("", "", "", false)
def tyJxfd54e : Nat → FieldType := fun k => match k with
  | _ => .int
abbrev wsJxfd54e0 : List Cond := u_ws RJxfd54e TJxfd54e 0
theorem nmJxfd54e : ∀ a, a < 0 → ∀ b, b < 0 → a ≠ b → (TJxfd54e a).2.1 ≠ (TJxfd54e b).2.1 := by decide +kernel
theorem tyJxfd54e_ok : ∀ k, k < 0 → parseFieldDescriptor (TJxfd54e k).2.2.1 = some (tyJxfd54e k) := by decide +kernel
def RJx3cf43 : String := "java/lang/constant/ConstantDesc"
def TJx3cf43 : u_T := fun k => match k with
  | _ => ("", "", "", false)
def tyJx3cf43 : Nat → FieldType := fun k => match k with
  | _ => .int
abbrev wsJx3cf430 : List Cond := u_ws RJx3cf43 TJx3cf43 0
theorem nmJx3cf43 : ∀ a, a < 0 → ∀ b, b < 0 → a ≠ b → (TJx3cf43 a).2.1 ≠ (TJx3cf43 b).2.1 := by decide +kernel
theorem tyJx3cf43_ok : ∀ k, k < 0 → parseFieldDescriptor (TJx3cf43 k).2.2.1 = some (tyJx3cf43 k) := by decide +kernel
def RJxa1e45 : String := "java/util/AbstractCollection"
def TJxa1e45 : u_T := fun k => match k with
  | _ => ("", "", "", false)
def tyJxa1e45 : Nat → FieldType := fun k => match k with
  | _ => .int
abbrev wsJxa1e450 : List Cond := u_ws RJxa1e45 TJxa1e45 0
theorem nmJxa1e45 : ∀ a, a < 0 → ∀ b, b < 0 → a ≠ b → (TJxa1e45 a).2.1 ≠ (TJxa1e45 b).2.1 := by decide +kernel
theorem tyJxa1e45_ok : ∀ k, k < 0 → parseFieldDescriptor (TJxa1e45 k).2.2.1 = some (tyJxa1e45 k) := by decide +kernel
abbrev cJxa1e45_init_da8c8 : ByteArray := prog_30_method_1_code
def yJxa1e45_init_da8c8 : MethodName := ⟨RJxa1e45, "<init>", "()V"⟩
def RJxc12de : String := "java/util/AbstractList"
def TJxc12de : u_T := fun k => match k with
  | _ => ("", "", "", false)
def tyJxc12de : Nat → FieldType := fun k => match k with
  | _ => .int
abbrev wsJxc12de0 : List Cond := u_ws RJxc12de TJxc12de 0
theorem nmJxc12de : ∀ a, a < 0 → ∀ b, b < 0 → a ≠ b → (TJxc12de a).2.1 ≠ (TJxc12de b).2.1 := by decide +kernel
theorem tyJxc12de_ok : ∀ k, k < 0 → parseFieldDescriptor (TJxc12de k).2.2.1 = some (tyJxc12de k) := by decide +kernel
abbrev cJxc12de_init_da8c8 : ByteArray := prog_31_method_1_code
def yJxc12de_init_da8c8 : MethodName := ⟨RJxc12de, "<init>", "()V"⟩
def RJx4a65c : String := "java/util/ArrayList"
def TJx4a65c : u_T := fun k => match k with
  | 0 => ("java/util/AbstractList", "modCount", "I", false)
  | 1 => ("java/util/ArrayList", "elementData", "[Ljava/lang/Object;", false)
  | _ => ("java/util/ArrayList", "size", "I", false)
def tyJx4a65c : Nat → FieldType := fun k => match k with
  | 0 => .int
  | 1 => .array (.object "java/lang/Object")
  | _ => .int
abbrev wsJx4a65c0 : List Cond := u_ws RJx4a65c TJx4a65c 3
theorem nmJx4a65c : ∀ a, a < 3 → ∀ b, b < 3 → a ≠ b → (TJx4a65c a).2.1 ≠ (TJx4a65c b).2.1 := by decide +kernel
theorem tyJx4a65c_ok : ∀ k, k < 3 → parseFieldDescriptor (TJx4a65c k).2.2.1 = some (tyJx4a65c k) := by decide +kernel
abbrev cJx4a65c_init_da8c8 : ByteArray := prog_32_method_2_code
def yJx4a65c_init_da8c8 : MethodName := ⟨RJx4a65c, "<init>", "()V"⟩
abbrev cJx4a65c_grow_92f84 : ByteArray := prog_32_method_6_code
def yJx4a65c_grow_92f84 : MethodName := ⟨RJx4a65c, "grow", "(I)[Ljava/lang/Object;"⟩
abbrev cJx4a65c_grow_d5877 : ByteArray := prog_32_method_7_code
def yJx4a65c_grow_d5877 : MethodName := ⟨RJx4a65c, "grow", "()[Ljava/lang/Object;"⟩
abbrev cJx4a65c_size_8abf5 : ByteArray := prog_32_method_8_code
def yJx4a65c_size_8abf5 : MethodName := ⟨RJx4a65c, "size", "()I"⟩
abbrev cJx4a65c_isEmpty_aae02 : ByteArray := prog_32_method_9_code
def yJx4a65c_isEmpty_aae02 : MethodName := ⟨RJx4a65c, "isEmpty", "()Z"⟩
abbrev cJx4a65c_elementData_915e3 : ByteArray := prog_32_method_18_code
def yJx4a65c_elementData_915e3 : MethodName := ⟨RJx4a65c, "elementData", "(I)Ljava/lang/Object;"⟩
abbrev cJx4a65c_get_915e3 : ByteArray := prog_32_method_20_code
def yJx4a65c_get_915e3 : MethodName := ⟨RJx4a65c, "get", "(I)Ljava/lang/Object;"⟩
abbrev cJx4a65c_add_72be8 : ByteArray := prog_32_method_24_code
def yJx4a65c_add_72be8 : MethodName := ⟨RJx4a65c, "add", "(Ljava/lang/Object;[Ljava/lang/Object;I)V"⟩
abbrev cJx4a65c_add_9ea2d : ByteArray := prog_32_method_25_code
def yJx4a65c_add_9ea2d : MethodName := ⟨RJx4a65c, "add", "(Ljava/lang/Object;)Z"⟩
abbrev cJx4a65c_add_7a177 : ByteArray := prog_32_method_26_code
def yJx4a65c_add_7a177 : MethodName := ⟨RJx4a65c, "add", "(ILjava/lang/Object;)V"⟩
abbrev cJx4a65c_clear_da8c8 : ByteArray := prog_32_method_40_code
def yJx4a65c_clear_da8c8 : MethodName := ⟨RJx4a65c, "clear", "()V"⟩
abbrev cJx4a65c_rangeCheckForAdd_d00df : ByteArray := prog_32_method_45_code
def yJx4a65c_rangeCheckForAdd_d00df : MethodName := ⟨RJx4a65c, "rangeCheckForAdd", "(I)V"⟩
def RJ7 : String := "java/util/Arrays"
abbrev cJ7_fill_53178 : ByteArray := prog_33_method_103_code
def yJ7_fill_53178 : MethodName := ⟨RJ7, "fill", "([II)V"⟩
abbrev cJ7_copyOf_1904c : ByteArray := prog_33_method_119_code
def yJ7_copyOf_1904c : MethodName := ⟨RJ7, "copyOf", "([Ljava/lang/Object;I)[Ljava/lang/Object;"⟩
abbrev cJ7_copyOf_6403c : ByteArray := prog_33_method_120_code
def yJ7_copyOf_6403c : MethodName := ⟨RJ7, "copyOf", "([Ljava/lang/Object;ILjava/lang/Class;)[Ljava/lang/Object;"⟩
abbrev cJ7_copyOf_59c91 : ByteArray := prog_33_method_123_code
def yJ7_copyOf_59c91 : MethodName := ⟨RJ7, "copyOf", "([II)[I"⟩
def RJx5ef63 : String := "java/util/Collection"
def TJx5ef63 : u_T := fun k => match k with
  | _ => ("", "", "", false)
def tyJx5ef63 : Nat → FieldType := fun k => match k with
  | _ => .int
abbrev wsJx5ef630 : List Cond := u_ws RJx5ef63 TJx5ef63 0
theorem nmJx5ef63 : ∀ a, a < 0 → ∀ b, b < 0 → a ≠ b → (TJx5ef63 a).2.1 ≠ (TJx5ef63 b).2.1 := by decide +kernel
theorem tyJx5ef63_ok : ∀ k, k < 0 → parseFieldDescriptor (TJx5ef63 k).2.2.1 = some (tyJx5ef63 k) := by decide +kernel
def RJxbd725 : String := "java/util/List"
def TJxbd725 : u_T := fun k => match k with
  | _ => ("", "", "", false)
def tyJxbd725 : Nat → FieldType := fun k => match k with
  | _ => .int
abbrev wsJxbd7250 : List Cond := u_ws RJxbd725 TJxbd725 0
theorem nmJxbd725 : ∀ a, a < 0 → ∀ b, b < 0 → a ≠ b → (TJxbd725 a).2.1 ≠ (TJxbd725 b).2.1 := by decide +kernel
theorem tyJxbd725_ok : ∀ k, k < 0 → parseFieldDescriptor (TJxbd725 k).2.2.1 = some (tyJxbd725 k) := by decide +kernel
def RJ15 : String := "java/util/Objects"
abbrev cJ15_checkIndex_7cf53 : ByteArray := prog_37_method_17_code
def yJ15_checkIndex_7cf53 : MethodName := ⟨RJ15, "checkIndex", "(II)I"⟩
def RJxf0a74 : String := "java/util/RandomAccess"
def TJxf0a74 : u_T := fun k => match k with
  | _ => ("", "", "", false)
def tyJxf0a74 : Nat → FieldType := fun k => match k with
  | _ => .int
abbrev wsJxf0a740 : List Cond := u_ws RJxf0a74 TJxf0a74 0
theorem nmJxf0a74 : ∀ a, a < 0 → ∀ b, b < 0 → a ≠ b → (TJxf0a74 a).2.1 ≠ (TJxf0a74 b).2.1 := by decide +kernel
theorem tyJxf0a74_ok : ∀ k, k < 0 → parseFieldDescriptor (TJxf0a74 k).2.2.1 = some (tyJxf0a74 k) := by decide +kernel
def RJxa66e6 : String := "java/util/SequencedCollection"
def TJxa66e6 : u_T := fun k => match k with
  | _ => ("", "", "", false)
def tyJxa66e6 : Nat → FieldType := fun k => match k with
  | _ => .int
abbrev wsJxa66e60 : List Cond := u_ws RJxa66e6 TJxa66e6 0
theorem nmJxa66e6 : ∀ a, a < 0 → ∀ b, b < 0 → a ≠ b → (TJxa66e6 a).2.1 ≠ (TJxa66e6 b).2.1 := by decide +kernel
theorem tyJxa66e6_ok : ∀ k, k < 0 → parseFieldDescriptor (TJxa66e6 k).2.2.1 = some (tyJxa66e6 k) := by decide +kernel
def RJ8 : String := "jdk/internal/util/ArraysSupport"
abbrev cJ8_newLength_cabcc : ByteArray := prog_40_method_27_code
def yJ8_newLength_cabcc : MethodName := ⟨RJ8, "newLength", "(III)I"⟩
abbrev cJ8_hugeLength_7cf53 : ByteArray := prog_40_method_28_code
def yJ8_hugeLength_7cf53 : MethodName := ⟨RJ8, "hugeLength", "(II)I"⟩
def RJ3 : String := "jdk/internal/util/Preconditions"
abbrev cJ3_checkIndex_8e157 : ByteArray := prog_41_method_11_code
def yJ3_checkIndex_8e157 : MethodName := ⟨RJ3, "checkIndex", "(IILjava/util/function/BiFunction;)I"⟩
abbrev cJ3_checkFromToIndex_8c36e : ByteArray := prog_41_method_12_code
def yJ3_checkFromToIndex_8c36e : MethodName := ⟨RJ3, "checkFromToIndex", "(IIILjava/util/function/BiFunction;)I"⟩
def RL : String := "PostVotesLaw"
abbrev cL_letter : ByteArray := method_3_code
def yL_letter : MethodName := ⟨RL, "letter", "(LPostVotes;III[J)I"⟩
abbrev cL_law : ByteArray := code
def yL_law : MethodName := ⟨RL, "law", "([I)Z"⟩
abbrev vwCl : List vw_C := [(RJx4a65c, TJx4a65c, 3), (RX0, TX0, 15), (RX1, TX1, 4), (RX2, TX2, 3), (RX3, TX3, 7), (RX4, TX4, 10), (RX5, TX5, 7), (RX6, TX6, 8), (RX7, TX7, 4), (RX8, TX8, 11), (RX9, TX9, 9), (RX10, TX10, 10), (RX11, TX11, 95)]
def gp_fieldLink : Cond → Bool := fun c => match c with | .fieldLink .. => true | _ => false
def gc_fieldLink : List Cond := [.fieldLink "java/util/ArrayList" 39 "java/util/ArrayList" "DEFAULTCAPACITY_EMPTY_ELEMENTDATA" "[Ljava/lang/Object;",
  .fieldLink "java/util/ArrayList" 9 "java/util/ArrayList" "elementData" "[Ljava/lang/Object;",
  .fieldLink "java/util/ArrayList" 48 "java/util/ArrayList" "size" "I",
  .fieldLink "java/util/AbstractList" 7 "java/util/AbstractList" "modCount" "I",
  .fieldLink "java/util/ArrayList" 63 "java/util/ArrayList" "modCount" "I",
  .fieldLink "PostVotes$Judge" 12 "PostVotes$Judge" "laws" "Ljava/util/ArrayList;",
  .fieldLink "PostVotes" 190 "PostVotes$Judge" "laws" "Ljava/util/ArrayList;",
  .fieldLink "PostVotes$Judge" 18 "PostVotes$Judge" "stack" "[I",
  .fieldLink "PostVotes$Judge" 92 "PostVotes$Judge" "top" "I",
  .fieldLink "PostVotes$Post" 12 "PostVotes$Post" "voters" "Ljava/util/ArrayList;",
  .fieldLink "PostVotes" 81 "PostVotes$Post" "voters" "Ljava/util/ArrayList;",
  .fieldLink "PostVotes$Post" 18 "PostVotes$Post" "envelopes" "Ljava/util/ArrayList;",
  .fieldLink "PostVotes" 124 "PostVotes$Post" "envelopes" "Ljava/util/ArrayList;",
  .fieldLink "PostVotes$Post" 21 "PostVotes$Post" "emptyings" "Ljava/util/ArrayList;",
  .fieldLink "PostVotes" 144 "PostVotes$Post" "emptyings" "Ljava/util/ArrayList;",
  .fieldLink "PostVotes$Post" 27 "PostVotes$Post" "judge" "LPostVotes$Judge;",
  .fieldLink "PostVotes" 186 "PostVotes$Post" "judge" "LPostVotes$Judge;",
  .fieldLink "PostVotes$Post" 31 "PostVotes$Post" "coming" "Ljava/util/ArrayList;",
  .fieldLink "PostVotes" 103 "PostVotes$Post" "moves" "I",
  .fieldLink "PostVotes" 140 "PostVotes$Post" "events" "I",
  .fieldLink "PostVotes" 160 "PostVotes$Post" "signsRead" "I",
  .fieldLink "PostVotes" 166 "PostVotes$Post" "handed" "I",
  .fieldLink "PostVotes" 169 "PostVotes$Post" "booths" "I",
  .fieldLink "PostVotes$Tape" 9 "PostVotes$Tape" "text" "[I",
  .fieldLink "PostVotes$Tape" 24 "PostVotes$Tape" "length" "I",
  .fieldLink "PostVotes" 176 "PostVotes$Tape" "length" "I",
  .fieldLink "PostVotes$Tape" 15 "PostVotes$Tape" "words" "[I",
  .fieldLink "PostVotes$Law" 25 "PostVotes$Tape" "words" "[I",
  .fieldLink "PostVotes$Law" 29 "PostVotes$Tape" "manyWords" "I",
  .fieldLink "PostVotes$Tape" 31 "PostVotes$Tape" "manyWords" "I",
  .fieldLink "PostVotes$Tape" 18 "PostVotes$Tape" "bounds" "[I",
  .fieldLink "PostVotes$Law" 39 "PostVotes$Tape" "bounds" "[I",
  .fieldLink "PostVotes$Tape" 21 "PostVotes$Tape" "verdicts" "[I",
  .fieldLink "PostVotes$Law" 43 "PostVotes$Tape" "verdicts" "[I",
  .fieldLink "PostVotes$Law" 19 "PostVotes$Tape" "rules" "I",
  .fieldLink "PostVotes$Tape" 34 "PostVotes$Tape" "rules" "I",
  .fieldLink "PostVotes$Tape" 28 "PostVotes$Tape" "at" "I",
  .fieldLink "PostVotes$Press" 9 "PostVotes$Press" "many" "[I",
  .fieldLink "PostVotes$Press" 15 "PostVotes$Press" "ready" "[I",
  .fieldLink "PostVotes$Press" 18 "PostVotes$Press" "due" "[I",
  .fieldLink "PostVotes" 282 "PostVotes$Press" "due" "[I",
  .fieldLink "PostVotes$Press" 21 "PostVotes$Press" "left" "[I",
  .fieldLink "PostVotes$Press" 24 "PostVotes$Press" "end" "[I",
  .fieldLink "PostVotes" 279 "PostVotes$Press" "end" "[I",
  .fieldLink "PostVotes$Press" 31 "PostVotes$Press" "waves" "I",
  .fieldLink "PostVotes" 267 "PostVotes$Press" "waves" "I",
  .fieldLink "PostVotes$Press" 27 "PostVotes$Press" "aDay" "I",
  .fieldLink "PostVotes" 273 "PostVotes$Press" "aDay" "I",
  .fieldLink "PostVotes$Van" 9 "PostVotes$Van" "from" "[I",
  .fieldLink "PostVotes$Van" 15 "PostVotes$Van" "to" "[I",
  .fieldLink "PostVotes$Van" 18 "PostVotes$Van" "roads" "[I",
  .fieldLink "PostVotes$Van" 21 "PostVotes$Van" "soonest" "[I",
  .fieldLink "PostVotes$Van" 24 "PostVotes$Van" "path" "[I",
  .fieldLink "PostVotes$Van" 27 "PostVotes$Van" "best" "[I",
  .fieldLink "PostVotes$Van" 30 "PostVotes$Van" "stop" "I",
  .fieldLink "PostVotes$Van" 53 "PostVotes$Van" "all" "I",
  .fieldLink "PostVotes$Van" 50 "PostVotes$Van" "standing" "I",
  .fieldLink "PostVotes$Van" 34 "PostVotes$Van" "home" "I",
  .fieldLink "PostVotes" 304 "PostVotes$Van" "home" "I",
  .fieldLink "PostVotes$Van" 37 "PostVotes$Van" "planned" "I",
  .fieldLink "PostVotes" 68 "PostVotes" "now" "I",
  .fieldLink "PostVotes" 9 "PostVotes" "size" "I",
  .fieldLink "PostVotes" 16 "PostVotes" "post" "LPostVotes$Post;",
  .fieldLink "PostVotes" 23 "PostVotes" "tape" "LPostVotes$Tape;",
  .fieldLink "PostVotes" 30 "PostVotes" "printer" "LPostVotes$Press;",
  .fieldLink "PostVotes" 37 "PostVotes" "van" "LPostVotes$Van;",
  .fieldLink "PostVotes" 44 "PostVotes" "heaps" "Ljava/util/ArrayList;",
  .fieldLink "PostVotes" 48 "PostVotes" "ends" "[I",
  .fieldLink "PostVotes" 52 "PostVotes" "took" "[I",
  .fieldLink "PostVotes" 55 "PostVotes" "row" "[I",
  .fieldLink "PostVotes$Voter" 28 "PostVotes$Voter" "shire" "I",
  .fieldLink "PostVotes$Voter" 31 "PostVotes$Voter" "street" "I",
  .fieldLink "PostVotes$Envelope" 125 "PostVotes$Voter" "street" "I",
  .fieldLink "PostVotes$Post" 139 "PostVotes$Voter" "street" "I",
  .fieldLink "PostVotes" 317 "PostVotes$Voter" "street" "I",
  .fieldLink "PostVotes$Voter" 34 "PostVotes$Voter" "sign" "I",
  .fieldLink "PostVotes$Envelope" 105 "PostVotes$Voter" "sign" "I",
  .fieldLink "PostVotes$Voter" 12 "PostVotes$Voter" "log" "Ljava/util/ArrayList;",
  .fieldLink "PostVotes" 106 "PostVotes$Voter" "log" "Ljava/util/ArrayList;",
  .fieldLink "PostVotes$Voter" 18 "PostVotes$Voter" "envelopes" "Ljava/util/ArrayList;",
  .fieldLink "PostVotes" 132 "PostVotes$Voter" "envelopes" "Ljava/util/ArrayList;",
  .fieldLink "PostVotes$Post" 102 "PostVotes$Voter" "envelopes" "Ljava/util/ArrayList;",
  .fieldLink "PostVotes$Voter" 59 "PostVotes$Voter" "manySent" "I",
  .fieldLink "PostVotes$Post" 106 "PostVotes$Voter" "manySent" "I",
  .fieldLink "PostVotes$Envelope" 122 "PostVotes$Voter" "manySent" "I",
  .fieldLink "PostVotes$Voter" 62 "PostVotes$Voter" "manyGood" "I",
  .fieldLink "PostVotes$Post" 113 "PostVotes$Voter" "manyGood" "I",
  .fieldLink "PostVotes" 240 "PostVotes$Voter" "manyGood" "I",
  .fieldLink "PostVotes$Voter" 21 "PostVotes$Voter" "firstGood" "I",
  .fieldLink "PostVotes$Envelope" 96 "PostVotes$Voter" "firstGood" "I",
  .fieldLink "PostVotes$Post" 128 "PostVotes$Voter" "firstGood" "I",
  .fieldLink "PostVotes" 234 "PostVotes$Voter" "firstGood" "I",
  .fieldLink "PostVotes$Voter" 25 "PostVotes$Voter" "boothDay" "I",
  .fieldLink "PostVotes$Envelope" 116 "PostVotes$Voter" "boothDay" "I",
  .fieldLink "PostVotes$Told" 7 "PostVotes$Told" "kind" "I",
  .fieldLink "PostVotes$Voter" 47 "PostVotes$Told" "kind" "I",
  .fieldLink "PostVotes$Envelope" 83 "PostVotes$Told" "kind" "I",
  .fieldLink "PostVotes$Post" 83 "PostVotes$Told" "kind" "I",
  .fieldLink "PostVotes$Told" 13 "PostVotes$Told" "day" "I",
  .fieldLink "PostVotes$Voter" 53 "PostVotes$Told" "day" "I",
  .fieldLink "PostVotes$Envelope" 90 "PostVotes$Told" "day" "I",
  .fieldLink "PostVotes$Post" 71 "PostVotes$Told" "day" "I",
  .fieldLink "PostVotes$Told" 16 "PostVotes$Told" "value" "I",
  .fieldLink "PostVotes$Voter" 56 "PostVotes$Told" "value" "I",
  .fieldLink "PostVotes$Envelope" 93 "PostVotes$Told" "value" "I",
  .fieldLink "PostVotes" 154 "PostVotes$Told" "value" "I",
  .fieldLink "PostVotes$Told" 19 "PostVotes$Told" "told" "I",
  .fieldLink "PostVotes$Voter" 50 "PostVotes$Told" "told" "I",
  .fieldLink "PostVotes$Envelope" 82 "PostVotes$Told" "told" "I",
  .fieldLink "PostVotes$Post" 86 "PostVotes$Told" "told" "I",
  .fieldLink "PostVotes" 151 "PostVotes$Told" "told" "I",
  .fieldLink "PostVotes$Envelope" 44 "PostVotes$Envelope" "number" "I",
  .fieldLink "PostVotes$Post" 125 "PostVotes$Envelope" "number" "I",
  .fieldLink "PostVotes$Envelope" 47 "PostVotes$Envelope" "voter" "LPostVotes$Voter;",
  .fieldLink "PostVotes$Post" 135 "PostVotes$Envelope" "voter" "LPostVotes$Voter;",
  .fieldLink "PostVotes" 313 "PostVotes$Envelope" "voter" "LPostVotes$Voter;",
  .fieldLink "PostVotes$Envelope" 51 "PostVotes$Envelope" "sent" "I",
  .fieldLink "PostVotes" 320 "PostVotes$Envelope" "sent" "I",
  .fieldLink "PostVotes$Envelope" 54 "PostVotes$Envelope" "choice" "I",
  .fieldLink "PostVotes$Heap" 22 "PostVotes$Envelope" "choice" "I",
  .fieldLink "PostVotes" 351 "PostVotes$Envelope" "choice" "I",
  .fieldLink "PostVotes$Envelope" 57 "PostVotes$Envelope" "told" "I",
  .fieldLink "PostVotes$Post" 89 "PostVotes$Envelope" "told" "I",
  .fieldLink "PostVotes" 368 "PostVotes$Envelope" "told" "I",
  .fieldLink "PostVotes$Envelope" 12 "PostVotes$Envelope" "log" "Ljava/util/ArrayList;",
  .fieldLink "PostVotes" 143 "PostVotes$Envelope" "log" "Ljava/util/ArrayList;",
  .fieldLink "PostVotes$Envelope" 18 "PostVotes$Envelope" "heapShire" "I",
  .fieldLink "PostVotes$Heap" 31 "PostVotes$Envelope" "heapShire" "I",
  .fieldLink "PostVotes" 348 "PostVotes$Envelope" "heapShire" "I",
  .fieldLink "PostVotes$Envelope" 22 "PostVotes$Envelope" "days" "[I",
  .fieldLink "PostVotes$Post" 54 "PostVotes$Envelope" "days" "[I",
  .fieldLink "PostVotes$Judge" 86 "PostVotes$Envelope" "days" "[I",
  .fieldLink "PostVotes$Envelope" 26 "PostVotes$Envelope" "values" "[I",
  .fieldLink "PostVotes$Post" 62 "PostVotes$Envelope" "values" "[I",
  .fieldLink "PostVotes$Envelope" 29 "PostVotes$Envelope" "comes" "I",
  .fieldLink "PostVotes$Judge" 48 "PostVotes$Envelope" "comes" "I",
  .fieldLink "PostVotes$Post" 58 "PostVotes$Envelope" "comes" "I",
  .fieldLink "PostVotes" 376 "PostVotes$Envelope" "comes" "I",
  .fieldLink "PostVotes$Envelope" 32 "PostVotes$Envelope" "emptying" "I",
  .fieldLink "PostVotes$Post" 74 "PostVotes$Envelope" "emptying" "I",
  .fieldLink "PostVotes$Envelope" 66 "PostVotes$Envelope" "goodAhead" "I",
  .fieldLink "PostVotes$Post" 116 "PostVotes$Envelope" "goodAhead" "I",
  .fieldLink "PostVotes$Envelope" 35 "PostVotes$Envelope" "state" "I",
  .fieldLink "PostVotes$Judge" 59 "PostVotes$Envelope" "state" "I",
  .fieldLink "PostVotes$Post" 122 "PostVotes$Envelope" "state" "I",
  .fieldLink "PostVotes" 221 "PostVotes$Envelope" "state" "I",
  .fieldLink "PostVotes$Envelope" 38 "PostVotes$Envelope" "reason" "I",
  .fieldLink "PostVotes$Judge" 79 "PostVotes$Envelope" "reason" "I",
  .fieldLink "PostVotes" 224 "PostVotes$Envelope" "reason" "I",
  .fieldLink "PostVotes$Envelope" 41 "PostVotes$Envelope" "rule" "I",
  .fieldLink "PostVotes$Judge" 69 "PostVotes$Envelope" "rule" "I",
  .fieldLink "PostVotes" 227 "PostVotes$Envelope" "rule" "I",
  .fieldLink "java/lang/String" 38 "java/lang/String" "COMPACT_STRINGS" "Z",
  .fieldLink "java/lang/String" 1053 "jdk/internal/util/Preconditions" "SIOOBE_FORMATTER" "Ljava/util/function/BiFunction;",
  .fieldLink "java/lang/StringUTF16" 44 "java/lang/StringUTF16" "$assertionsDisabled" "Z",
  .fieldLink "java/lang/StringUTF16" 59 "java/lang/StringUTF16" "HI_BYTE_SHIFT" "I",
  .fieldLink "java/lang/StringUTF16" 63 "java/lang/StringUTF16" "LO_BYTE_SHIFT" "I",
  .fieldLink "PostVotes$Law" 7 "PostVotes$Law" "shire" "I",
  .fieldLink "PostVotes$Judge" 32 "PostVotes$Law" "shire" "I",
  .fieldLink "PostVotes$Law" 13 "PostVotes$Law" "day" "I",
  .fieldLink "PostVotes$Judge" 39 "PostVotes$Law" "day" "I",
  .fieldLink "PostVotes$Law" 16 "PostVotes$Law" "told" "I",
  .fieldLink "PostVotes$Judge" 36 "PostVotes$Law" "told" "I",
  .fieldLink "PostVotes$Law" 24 "PostVotes$Law" "rules" "I",
  .fieldLink "PostVotes$Judge" 62 "PostVotes$Law" "rules" "I",
  .fieldLink "PostVotes$Law" 38 "PostVotes$Law" "words" "[I",
  .fieldLink "PostVotes$Judge" 95 "PostVotes$Law" "words" "[I",
  .fieldLink "PostVotes$Law" 42 "PostVotes$Law" "bounds" "[I",
  .fieldLink "PostVotes$Judge" 89 "PostVotes$Law" "bounds" "[I",
  .fieldLink "PostVotes$Law" 46 "PostVotes$Law" "verdicts" "[I",
  .fieldLink "PostVotes$Judge" 72 "PostVotes$Law" "verdicts" "[I",
  .fieldLink "PostVotes$Heap" 15 "PostVotes$Heap" "shire" "I",
  .fieldLink "PostVotes" 339 "PostVotes$Heap" "shire" "I",
  .fieldLink "PostVotes$Heap" 19 "PostVotes$Heap" "day" "I",
  .fieldLink "PostVotes" 342 "PostVotes$Heap" "day" "I",
  .fieldLink "PostVotes$Heap" 9 "PostVotes$Heap" "choices" "[I",
  .fieldLink "PostVotes" 345 "PostVotes$Heap" "choices" "[I",
  .fieldLink "PostVotes$Heap" 34 "PostVotes$Heap" "all" "I",
  .fieldLink "PostVotes" 336 "PostVotes$Heap" "all" "I",
  .fieldLink "java/lang/Throwable" 198 "java/lang/Throwable" "backtrace" "Ljava/lang/Object;",
  .fieldLink "java/lang/Throwable" 13 "java/lang/Throwable" "UNASSIGNED_STACK" "[Ljava/lang/StackTraceElement;",
  .fieldLink "java/lang/Throwable" 20 "java/lang/Throwable" "SUPPRESSED_SENTINEL" "Ljava/util/List;",
  .fieldLink "java/lang/Throwable" 198 "java/lang/Throwable" "backtrace" "Ljava/lang/Object;",
  .fieldLink "java/lang/Throwable" 31 "java/lang/Throwable" "detailMessage" "Ljava/lang/String;",
  .fieldLink "java/lang/Throwable" 7 "java/lang/Throwable" "cause" "Ljava/lang/Throwable;",
  .fieldLink "java/lang/Throwable" 17 "java/lang/Throwable" "stackTrace" "[Ljava/lang/StackTraceElement;",
  .fieldLink "java/lang/Throwable" 24 "java/lang/Throwable" "suppressedExceptions" "Ljava/util/List;",
  .fieldLink "PostVotesModel" 217 "PostVotesModel" "now" "I",
  .fieldLink "PostVotesModel" 220 "PostVotesModel" "voters" "I",
  .fieldLink "PostVotesModel" 231 "PostVotesModel" "moves" "I",
  .fieldLink "PostVotesModel" 241 "PostVotesModel" "envelopes" "I",
  .fieldLink "PostVotesModel" 247 "PostVotesModel" "events" "I",
  .fieldLink "PostVotesModel" 250 "PostVotesModel" "emptyings" "I",
  .fieldLink "PostVotesModel" 282 "PostVotesModel" "reads" "I",
  .fieldLink "PostVotesModel" 285 "PostVotesModel" "tells" "I",
  .fieldLink "PostVotesModel" 288 "PostVotesModel" "booths" "I",
  .fieldLink "PostVotesModel" 364 "PostVotesModel" "laws" "I",
  .fieldLink "PostVotesModel" 459 "PostVotesModel" "waves" "I",
  .fieldLink "PostVotesModel" 449 "PostVotesModel" "heaps" "I",
  .fieldLink "PostVotesModel" 7 "PostVotesModel" "size" "I",
  .fieldLink "PostVotesModel" 13 "PostVotesModel" "shireOf" "[I",
  .fieldLink "PostVotesModel" 17 "PostVotesModel" "streetOf" "[I",
  .fieldLink "PostVotesModel" 20 "PostVotesModel" "signOf" "[I",
  .fieldLink "PostVotesModel" 23 "PostVotesModel" "moveOf" "[I",
  .fieldLink "PostVotesModel" 26 "PostVotesModel" "moveTo" "[I",
  .fieldLink "PostVotesModel" 29 "PostVotesModel" "moveDay" "[I",
  .fieldLink "PostVotesModel" 32 "PostVotesModel" "moveTold" "[I",
  .fieldLink "PostVotesModel" 35 "PostVotesModel" "voterOf" "[I",
  .fieldLink "PostVotesModel" 38 "PostVotesModel" "sentOn" "[I",
  .fieldLink "PostVotesModel" 41 "PostVotesModel" "sentTold" "[I",
  .fieldLink "PostVotesModel" 44 "PostVotesModel" "choiceOf" "[I",
  .fieldLink "PostVotesModel" 47 "PostVotesModel" "eventOf" "[I",
  .fieldLink "PostVotesModel" 50 "PostVotesModel" "eventKind" "[I",
  .fieldLink "PostVotesModel" 53 "PostVotesModel" "eventDay" "[I",
  .fieldLink "PostVotesModel" 56 "PostVotesModel" "eventBox" "[I",
  .fieldLink "PostVotesModel" 59 "PostVotesModel" "eventTold" "[I",
  .fieldLink "PostVotesModel" 62 "PostVotesModel" "emptyBox" "[I",
  .fieldLink "PostVotesModel" 65 "PostVotesModel" "emptyDay" "[I",
  .fieldLink "PostVotesModel" 68 "PostVotesModel" "emptyMany" "[I",
  .fieldLink "PostVotesModel" 71 "PostVotesModel" "emptyTold" "[I",
  .fieldLink "PostVotesModel" 266 "PostVotesModel" "comes" "I",
  .fieldLink "PostVotesModel" 263 "PostVotesModel" "byEmptying" "I",
  .fieldLink "PostVotesModel" 74 "PostVotesModel" "readOf" "[I",
  .fieldLink "PostVotesModel" 77 "PostVotesModel" "readSign" "[I",
  .fieldLink "PostVotesModel" 80 "PostVotesModel" "readTold" "[I",
  .fieldLink "PostVotesModel" 83 "PostVotesModel" "tellOf" "[I",
  .fieldLink "PostVotesModel" 86 "PostVotesModel" "tellHand" "[I",
  .fieldLink "PostVotesModel" 89 "PostVotesModel" "tellTold" "[I",
  .fieldLink "PostVotesModel" 92 "PostVotesModel" "tellYes" "[Z",
  .fieldLink "PostVotesModel" 96 "PostVotesModel" "boothOf" "[I",
  .fieldLink "PostVotesModel" 99 "PostVotesModel" "boothDay" "[I",
  .fieldLink "PostVotesModel" 102 "PostVotesModel" "boothTold" "[I",
  .fieldLink "PostVotesModel" 105 "PostVotesModel" "tape" "[I",
  .fieldLink "PostVotesModel" 108 "PostVotesModel" "codes" "[I",
  .fieldLink "PostVotesModel" 111 "PostVotesModel" "saying" "[I",
  .fieldLink "PostVotesModel" 114 "PostVotesModel" "lawShire" "[I",
  .fieldLink "PostVotesModel" 117 "PostVotesModel" "lawDay" "[I",
  .fieldLink "PostVotesModel" 120 "PostVotesModel" "lawTold" "[I",
  .fieldLink "PostVotesModel" 123 "PostVotesModel" "lawRules" "[I",
  .fieldLink "PostVotesModel" 298 "PostVotesModel" "tapeSize" "I",
  .fieldLink "PostVotesModel" 301 "PostVotesModel" "at" "I",
  .fieldLink "PostVotesModel" 304 "PostVotesModel" "wrong" "I",
  .fieldLink "PostVotesModel" 310 "PostVotesModel" "deep" "I",
  .fieldLink "PostVotesModel" 307 "PostVotesModel" "said" "I",
  .fieldLink "PostVotesModel" 358 "PostVotesModel" "ruleMany" "I",
  .fieldLink "PostVotesModel" 126 "PostVotesModel" "pile" "[I",
  .fieldLink "PostVotesModel" 398 "PostVotesModel" "place" "I",
  .fieldLink "PostVotesModel" 129 "PostVotesModel" "states" "[I",
  .fieldLink "PostVotesModel" 132 "PostVotesModel" "reasons" "[I",
  .fieldLink "PostVotesModel" 135 "PostVotesModel" "rules" "[I",
  .fieldLink "PostVotesModel" 138 "PostVotesModel" "goodAhead" "[I",
  .fieldLink "PostVotesModel" 141 "PostVotesModel" "dayFor" "[I",
  .fieldLink "PostVotesModel" 144 "PostVotesModel" "row" "[I",
  .fieldLink "PostVotesModel" 412 "PostVotesModel" "rowMany" "I",
  .fieldLink "PostVotesModel" 425 "PostVotesModel" "thrown" "I",
  .fieldLink "PostVotesModel" 437 "PostVotesModel" "pairs" "I",
  .fieldLink "PostVotesModel" 440 "PostVotesModel" "harsh" "I",
  .fieldLink "PostVotesModel" 443 "PostVotesModel" "soft" "I",
  .fieldLink "PostVotesModel" 147 "PostVotesModel" "counted" "[Z",
  .fieldLink "PostVotesModel" 150 "PostVotesModel" "countedShire" "[I",
  .fieldLink "PostVotesModel" 153 "PostVotesModel" "lots" "[I",
  .fieldLink "PostVotesModel" 156 "PostVotesModel" "waveMany" "[I",
  .fieldLink "PostVotesModel" 159 "PostVotesModel" "waveReady" "[I",
  .fieldLink "PostVotesModel" 162 "PostVotesModel" "waveDue" "[I",
  .fieldLink "PostVotesModel" 165 "PostVotesModel" "waveLeft" "[I",
  .fieldLink "PostVotesModel" 168 "PostVotesModel" "waveEnd" "[I",
  .fieldLink "PostVotesModel" 171 "PostVotesModel" "press" "I",
  .fieldLink "PostVotesModel" 174 "PostVotesModel" "roads" "[I",
  .fieldLink "PostVotesModel" 177 "PostVotesModel" "stands" "[Z",
  .fieldLink "PostVotesModel" 180 "PostVotesModel" "openFrom" "[I",
  .fieldLink "PostVotesModel" 183 "PostVotesModel" "openTo" "[I",
  .fieldLink "PostVotesModel" 186 "PostVotesModel" "been" "[Z",
  .fieldLink "PostVotesModel" 189 "PostVotesModel" "trip" "[I",
  .fieldLink "PostVotesModel" 192 "PostVotesModel" "bestTrip" "[I",
  .fieldLink "PostVotesModel" 195 "PostVotesModel" "stop" "I",
  .fieldLink "PostVotesModel" 471 "PostVotesModel" "bestHome" "I",
  .fieldLink "PostVotesModel" 474 "PostVotesModel" "tripMany" "I",
  .fieldLink "PostVotesModel" 198 "PostVotesModel" "lastDay" "[I",
  .fieldLink "PostVotesModel" 201 "PostVotesModel" "took" "[I",
  .fieldLink "PostVotesModel" 204 "PostVotesModel" "heapOf" "[I",
  .fieldLink "PostVotesModel" 207 "PostVotesModel" "heapShire" "[I",
  .fieldLink "PostVotesModel" 210 "PostVotesModel" "heapDay" "[I",
  .fieldLink "java/lang/String" 15 "java/lang/String" "coder" "B",
  .fieldLink "java/lang/String" 9 "java/lang/String" "value" "[B"]
set_option maxRecDepth 100000 in
theorem ge_fieldLink : tables_1.filter gp_fieldLink = gc_fieldLink := by decide +kernel
def gp_methodLink : Cond → Bool := fun c => match c with | .methodLink .. => true | _ => false
def gc_methodLink : List Cond := [.methodLink "PostVotesLaw" 15 (MethodName.mk "PostVotes" "<init>" "()V"),
  .methodLink "PostVotes" 3 (MethodName.mk "java/lang/Object" "<init>" "()V"),
  .methodLink "PostVotes$Post" 3 (MethodName.mk "java/lang/Object" "<init>" "()V"),
  .methodLink "PostVotes$Post" 11 (MethodName.mk "java/util/ArrayList" "<init>" "()V"),
  .methodLink "java/util/ArrayList" 1 (MethodName.mk "java/util/AbstractList" "<init>" "()V"),
  .methodLink "java/util/AbstractList" 1 (MethodName.mk "java/util/AbstractCollection" "<init>" "()V"),
  .methodLink "java/util/AbstractCollection" 1 (MethodName.mk "java/lang/Object" "<init>" "()V"),
  .methodLink "PostVotes$Judge" 3 (MethodName.mk "java/lang/Object" "<init>" "()V"),
  .methodLink "PostVotes$Judge" 11 (MethodName.mk "java/util/ArrayList" "<init>" "()V"),
  .methodLink "PostVotes$Tape" 3 (MethodName.mk "java/lang/Object" "<init>" "()V"),
  .methodLink "PostVotes$Press" 3 (MethodName.mk "java/lang/Object" "<init>" "()V"),
  .methodLink "PostVotes" 36 (MethodName.mk "PostVotes$Van" "<init>" "()V"),
  .methodLink "PostVotes$Van" 3 (MethodName.mk "java/lang/Object" "<init>" "()V"),
  .methodLink "PostVotes$Van" 40 (MethodName.mk "java/util/Arrays" "fill" "([II)V"),
  .methodLink "PostVotes" 43 (MethodName.mk "java/util/ArrayList" "<init>" "()V"),
  .methodLink "PostVotes" 58 (MethodName.mk "java/util/Arrays" "fill" "([II)V"),
  .methodLink "PostVotesLaw" 19 (MethodName.mk "PostVotes" "days" "(I)I"),
  .methodLink "PostVotes" 64 (MethodName.mk "PostVotes" "isWithin" "(III)Z"),
  .methodLink "PostVotesLaw" 24 (MethodName.mk "PostVotes" "voter" "(III)I"),
  .methodLink "PostVotes" 71 (MethodName.mk "PostVotes" "isShire" "(I)Z"),
  .methodLink "PostVotes" 75 (MethodName.mk "PostVotes" "isStreet" "(I)Z"),
  .methodLink "PostVotes" 78 (MethodName.mk "PostVotes" "isSign" "(I)Z"),
  .methodLink "PostVotes" 84 (MethodName.mk "java/util/ArrayList" "size" "()I"),
  .methodLink "PostVotes" 89 (MethodName.mk "PostVotes$Voter" "<init>" "(III)V"),
  .methodLink "PostVotes$Voter" 3 (MethodName.mk "java/lang/Object" "<init>" "()V"),
  .methodLink "PostVotes$Voter" 11 (MethodName.mk "java/util/ArrayList" "<init>" "()V"),
  .methodLink "PostVotes" 92 (MethodName.mk "java/util/ArrayList" "add" "(Ljava/lang/Object;)Z"),
  .methodLink "java/util/ArrayList" 131 (MethodName.mk "java/util/ArrayList" "add" "(Ljava/lang/Object;[Ljava/lang/Object;I)V"),
  .methodLink "java/util/ArrayList" 129 (MethodName.mk "java/util/ArrayList" "grow" "()[Ljava/lang/Object;"),
  .methodLink "java/util/ArrayList" 69 (MethodName.mk "java/util/ArrayList" "grow" "(I)[Ljava/lang/Object;"),
  .methodLink "java/util/ArrayList" 73 (MethodName.mk "jdk/internal/util/ArraysSupport" "newLength" "(III)I"),
  .methodLink "jdk/internal/util/ArraysSupport" 194 (MethodName.mk "java/lang/Math" "max" "(II)I"),
  .methodLink "jdk/internal/util/ArraysSupport" 201 (MethodName.mk "jdk/internal/util/ArraysSupport" "hugeLength" "(II)I"),
  .methodLink "java/util/ArrayList" 66 (MethodName.mk "java/util/Arrays" "copyOf" "([Ljava/lang/Object;I)[Ljava/lang/Object;"),
  .methodLink "java/util/Arrays" 86 (MethodName.mk "java/lang/Object" "getClass" "()Ljava/lang/Class;"),
  .methodLink "java/util/Arrays" 300 (MethodName.mk "java/util/Arrays" "copyOf" "([Ljava/lang/Object;ILjava/lang/Class;)[Ljava/lang/Object;"),
  .methodLink "java/util/Arrays" 304 (MethodName.mk "java/lang/Math" "min" "(II)I"),
  .methodLink "java/util/Arrays" 150 (MethodName.mk "java/lang/System" "arraycopy" "(Ljava/lang/Object;ILjava/lang/Object;II)V"),
  .methodLink "java/util/ArrayList" 79 (MethodName.mk "java/lang/Math" "max" "(II)I"),
  .methodLink "PostVotesLaw" 28 (MethodName.mk "PostVotes" "move" "(III)Z"),
  .methodLink "PostVotes" 96 (MethodName.mk "PostVotes$Post" "voterAt" "(I)LPostVotes$Voter;"),
  .methodLink "PostVotes$Post" 34 (MethodName.mk "java/util/ArrayList" "size" "()I"),
  .methodLink "PostVotes$Post" 42 (MethodName.mk "java/util/ArrayList" "get" "(I)Ljava/lang/Object;"),
  .methodLink "java/util/ArrayList" 118 (MethodName.mk "java/util/Objects" "checkIndex" "(II)I"),
  .methodLink "java/util/Objects" 105 (MethodName.mk "jdk/internal/util/Preconditions" "checkIndex" "(IILjava/util/function/BiFunction;)I"),
  .methodLink "java/util/ArrayList" 123 (MethodName.mk "java/util/ArrayList" "elementData" "(I)Ljava/lang/Object;"),
  .methodLink "PostVotes" 100 (MethodName.mk "PostVotes" "isUpToNow" "(I)Z"),
  .methodLink "PostVotes" 111 (MethodName.mk "PostVotes$Told" "<init>" "(IIII)V"),
  .methodLink "PostVotes$Told" 1 (MethodName.mk "java/lang/Object" "<init>" "()V"),
  .methodLink "PostVotesLaw" 33 (MethodName.mk "PostVotes" "shire" "(III)I"),
  .methodLink "PostVotes" 114 (MethodName.mk "PostVotes" "isDay" "(I)Z"),
  .methodLink "PostVotes" 117 (MethodName.mk "PostVotes$Voter" "shireOn" "(II)I"),
  .methodLink "PostVotes$Voter" 37 (MethodName.mk "java/util/ArrayList" "size" "()I"),
  .methodLink "PostVotes$Voter" 41 (MethodName.mk "java/util/ArrayList" "get" "(I)Ljava/lang/Object;"),
  .methodLink "PostVotesLaw" 37 (MethodName.mk "PostVotes" "send" "(III)I"),
  .methodLink "PostVotes" 121 (MethodName.mk "PostVotes" "isChoice" "(I)Z"),
  .methodLink "PostVotes" 129 (MethodName.mk "PostVotes$Envelope" "<init>" "(ILPostVotes$Voter;III)V"),
  .methodLink "PostVotes$Envelope" 3 (MethodName.mk "java/lang/Object" "<init>" "()V"),
  .methodLink "PostVotes$Envelope" 11 (MethodName.mk "java/util/ArrayList" "<init>" "()V"),
  .methodLink "PostVotesLaw" 41 (MethodName.mk "PostVotes" "event" "(IIII)Z"),
  .methodLink "PostVotes" 133 (MethodName.mk "PostVotes$Post" "envelopeAt" "(I)LPostVotes$Envelope;"),
  .methodLink "PostVotes" 137 (MethodName.mk "PostVotes" "isBox" "(I)Z"),
  .methodLink "PostVotesLaw" 46 (MethodName.mk "PostVotes" "empty" "(III)I"),
  .methodLink "PostVotesLaw" 50 (MethodName.mk "PostVotes" "sealed" "(II)I"),
  .methodLink "PostVotes" 147 (MethodName.mk "java/util/ArrayList" "get" "(I)Ljava/lang/Object;"),
  .methodLink "PostVotes" 157 (MethodName.mk "PostVotes$Post" "manyBy" "(II)I"),
  .methodLink "PostVotes$Post" 90 (MethodName.mk "PostVotes$Post" "settle" "(LPostVotes$Envelope;I)V"),
  .methodLink "PostVotes$Post" 50 (MethodName.mk "PostVotes$Envelope" "learn" "(I)V"),
  .methodLink "PostVotes$Envelope" 69 (MethodName.mk "PostVotes$Envelope" "forget" "()V"),
  .methodLink "PostVotes$Envelope" 60 (MethodName.mk "java/util/Arrays" "fill" "([II)V"),
  .methodLink "PostVotes$Envelope" 72 (MethodName.mk "java/util/ArrayList" "size" "()I"),
  .methodLink "PostVotes$Envelope" 76 (MethodName.mk "java/util/ArrayList" "get" "(I)Ljava/lang/Object;"),
  .methodLink "PostVotes$Post" 65 (MethodName.mk "PostVotes$Post" "firstEmptying" "(III)I"),
  .methodLink "PostVotes$Post" 77 (MethodName.mk "java/lang/Math" "max" "(II)I"),
  .methodLink "PostVotesLaw" 55 (MethodName.mk "PostVotes" "read" "(II)Z"),
  .methodLink "PostVotesLaw" 60 (MethodName.mk "PostVotes" "hand" "(IIZ)Z"),
  .methodLink "PostVotes" 163 (MethodName.mk "PostVotes" "isHand" "(I)Z"),
  .methodLink "PostVotesLaw" 65 (MethodName.mk "PostVotes" "booth" "(II)Z"),
  .methodLink "PostVotesLaw" 69 (MethodName.mk "PostVotes" "feed" "(IIIII)I"),
  .methodLink "PostVotes" 172 (MethodName.mk "PostVotes" "signsIn" "(I)I"),
  .methodLink "PostVotes" 179 (MethodName.mk "PostVotes$Tape" "take4" "(I)V"),
  .methodLink "PostVotesLaw" 74 (MethodName.mk "PostVotes" "end" "(I)Z"),
  .methodLink "PostVotesLaw" 79 (MethodName.mk "PostVotes" "fault" "()I"),
  .methodLink "PostVotes" 183 (MethodName.mk "PostVotes$Tape" "firstFault" "()I"),
  .methodLink "PostVotes$Tape" 37 (MethodName.mk "PostVotes$Tape" "readRule" "()Z"),
  .methodLink "PostVotes$Tape" 49 (MethodName.mk "PostVotes$Tape" "readCondition" "(I)Z"),
  .methodLink "PostVotes$Tape" 61 (MethodName.mk "PostVotes$Tape" "readPart" "(I)Z"),
  .methodLink "PostVotes$Tape" 68 (MethodName.mk "PostVotes$Tape" "readUnit" "(I)Z"),
  .methodLink "PostVotes$Tape" 45 (MethodName.mk "PostVotes$Tape" "nextSign" "()I"),
  .methodLink "PostVotes$Tape" 71 (MethodName.mk "PostVotes$Tape" "readComparison" "(I)Z"),
  .methodLink "PostVotes$Tape" 58 (MethodName.mk "PostVotes$Tape" "readSum" "(I)Z"),
  .methodLink "PostVotes$Tape" 74 (MethodName.mk "PostVotes$Tape" "readTerm" "(I)Z"),
  .methodLink "PostVotes$Tape" 77 (MethodName.mk "PostVotes$Tape" "readAtom" "(I)Z"),
  .methodLink "PostVotes" 363 (MethodName.mk "java/lang/String" "indexOf" "(I)I"),
  .methodLink "java/lang/String" 633 (MethodName.mk "java/lang/String" "indexOf" "(II)I"),
  .methodLink "java/lang/String" 492 (MethodName.mk "java/lang/String" "isLatin1" "()Z"),
  .methodLink "java/lang/String" 505 (MethodName.mk "java/lang/String" "length" "()I"),
  .methodLink "java/lang/String" 335 (MethodName.mk "java/lang/String" "coder" "()B"),
  .methodLink "java/lang/String" 637 (MethodName.mk "java/lang/StringLatin1" "indexOf" "([BIII)I"),
  .methodLink "java/lang/StringLatin1" 88 (MethodName.mk "java/lang/StringLatin1" "canEncode" "(I)Z"),
  .methodLink "java/lang/StringLatin1" 92 (MethodName.mk "java/lang/Math" "max" "(II)I"),
  .methodLink "java/lang/StringLatin1" 38 (MethodName.mk "java/lang/Math" "min" "(II)I"),
  .methodLink "java/lang/StringLatin1" 95 (MethodName.mk "java/lang/StringLatin1" "indexOfChar" "([BIII)I"),
  .methodLink "java/lang/String" 640 (MethodName.mk "java/lang/StringUTF16" "indexOf" "([BIII)I"),
  .methodLink "java/lang/StringUTF16" 224 (MethodName.mk "java/lang/Math" "max" "(II)I"),
  .methodLink "java/lang/StringUTF16" 183 (MethodName.mk "java/lang/Math" "min" "(II)I"),
  .methodLink "java/lang/StringUTF16" 228 (MethodName.mk "java/lang/StringUTF16" "indexOfChar" "([BIII)I"),
  .methodLink "java/lang/StringUTF16" 96 (MethodName.mk "java/lang/StringUTF16" "checkBoundsBeginEnd" "(II[B)V"),
  .methodLink "java/lang/StringUTF16" 48 (MethodName.mk "java/lang/StringUTF16" "length" "([B)I"),
  .methodLink "java/lang/StringUTF16" 241 (MethodName.mk "java/lang/String" "checkBoundsBeginEnd" "(III)V"),
  .methodLink "java/lang/String" 1062 (MethodName.mk "jdk/internal/util/Preconditions" "checkFromToIndex" "(IIILjava/util/function/BiFunction;)I"),
  .methodLink "java/lang/StringUTF16" 244 (MethodName.mk "java/lang/StringUTF16" "indexOfCharUnsafe" "([BIII)I"),
  .methodLink "java/lang/StringUTF16" 71 (MethodName.mk "java/lang/StringUTF16" "getChar" "([BI)C"),
  .methodLink "java/lang/StringUTF16" 232 (MethodName.mk "java/lang/StringUTF16" "indexOfSupplementary" "([BIII)I"),
  .methodLink "java/lang/StringUTF16" 164 (MethodName.mk "java/lang/Character" "isValidCodePoint" "(I)Z"),
  .methodLink "java/lang/StringUTF16" 157 (MethodName.mk "java/lang/Character" "highSurrogate" "(I)C"),
  .methodLink "java/lang/StringUTF16" 161 (MethodName.mk "java/lang/Character" "lowSurrogate" "(I)C"),
  .methodLink "PostVotes$Tape" 64 (MethodName.mk "PostVotes$Tape" "write" "(I)V"),
  .methodLink "PostVotes$Tape" 55 (MethodName.mk "PostVotes$Tape" "readNumber" "()Z"),
  .methodLink "PostVotes$Tape" 41 (MethodName.mk "PostVotes$Tape" "takes" "(I)Z"),
  .methodLink "PostVotes$Tape" 52 (MethodName.mk "PostVotes$Tape" "readVerdict" "()Z"),
  .methodLink "PostVotesLaw" 84 (MethodName.mk "PostVotes" "law" "(II)I"),
  .methodLink "PostVotes" 197 (MethodName.mk "PostVotes$Law" "<init>" "(IIILPostVotes$Tape;)V"),
  .methodLink "PostVotes$Law" 1 (MethodName.mk "java/lang/Object" "<init>" "()V"),
  .methodLink "PostVotes$Law" 32 (MethodName.mk "java/util/Arrays" "copyOf" "([II)[I"),
  .methodLink "java/util/Arrays" 316 (MethodName.mk "[I" "clone" "()Ljava/lang/Object;"),
  .methodLink "PostVotesLaw" 88 (MethodName.mk "PostVotes" "lawful" "(III)I"),
  .methodLink "PostVotes" 200 (MethodName.mk "PostVotes$Judge" "inForce" "(III)I"),
  .methodLink "PostVotes$Judge" 22 (MethodName.mk "java/util/ArrayList" "size" "()I"),
  .methodLink "PostVotes$Judge" 26 (MethodName.mk "java/util/ArrayList" "get" "(I)Ljava/lang/Object;"),
  .methodLink "PostVotesLaw" 101 (MethodName.mk "PostVotes" "state" "(II)I"),
  .methodLink "PostVotes" 204 (MethodName.mk "PostVotes" "judged" "(II)LPostVotes$Envelope;"),
  .methodLink "PostVotes" 230 (MethodName.mk "PostVotes$Post" "judgeOf" "(LPostVotes$Voter;I)V"),
  .methodLink "PostVotes$Post" 98 (MethodName.mk "PostVotes$Voter" "learn" "(I)V"),
  .methodLink "PostVotes$Post" 99 (MethodName.mk "java/util/ArrayList" "clear" "()V"),
  .methodLink "PostVotes$Post" 103 (MethodName.mk "PostVotes$Envelope" "forget" "()V"),
  .methodLink "PostVotes$Post" 109 (MethodName.mk "PostVotes$Post" "putInOrder" "(LPostVotes$Envelope;)V"),
  .methodLink "PostVotes$Post" 131 (MethodName.mk "java/util/ArrayList" "add" "(ILjava/lang/Object;)V"),
  .methodLink "java/util/ArrayList" 135 (MethodName.mk "java/util/ArrayList" "rangeCheckForAdd" "(I)V"),
  .methodLink "java/util/ArrayList" 112 (MethodName.mk "java/lang/System" "arraycopy" "(Ljava/lang/Object;ILjava/lang/Object;II)V"),
  .methodLink "PostVotes$Post" 119 (MethodName.mk "PostVotes$Judge" "decide" "(LPostVotes$Envelope;I)V"),
  .methodLink "PostVotes$Judge" 42 (MethodName.mk "PostVotes$Envelope" "shireOf" "(I)I"),
  .methodLink "PostVotes$Envelope" 101 (MethodName.mk "PostVotes$Voter" "shireOn" "(II)I"),
  .methodLink "PostVotes$Judge" 51 (MethodName.mk "PostVotes$Judge" "inForce" "(III)I"),
  .methodLink "PostVotes$Judge" 65 (MethodName.mk "PostVotes$Judge" "valueOf" "(LPostVotes$Law;ILPostVotes$Envelope;I)I"),
  .methodLink "PostVotes$Judge" 98 (MethodName.mk "PostVotes$Judge" "push" "(I)V"),
  .methodLink "PostVotes$Judge" 106 (MethodName.mk "PostVotes$Envelope" "numberOf" "(II)I"),
  .methodLink "PostVotes$Envelope" 119 (MethodName.mk "PostVotes$Envelope" "unlikeFigures" "()I"),
  .methodLink "PostVotes$Envelope" 112 (MethodName.mk "PostVotes$Envelope" "handsThatTold" "(I)I"),
  .methodLink "PostVotes$Judge" 110 (MethodName.mk "PostVotes$Judge" "pop" "()I"),
  .methodLink "PostVotes$Judge" 115 (MethodName.mk "PostVotes$Judge" "joined" "(III)I"),
  .methodLink "PostVotes$Judge" 118 (MethodName.mk "PostVotes$Judge" "bounded" "(J)I"),
  .methodLink "PostVotes$Judge" 126 (MethodName.mk "java/lang/Math" "min" "(JJ)J"),
  .methodLink "PostVotes$Judge" 132 (MethodName.mk "java/lang/Math" "max" "(JJ)J"),
  .methodLink "PostVotes$Judge" 75 (MethodName.mk "PostVotes$Judge" "pass" "(LPostVotes$Envelope;III)V"),
  .methodLink "PostVotes$Judge" 82 (MethodName.mk "PostVotes$Judge" "awaitCure" "(LPostVotes$Envelope;II)V"),
  .methodLink "PostVotesLaw" 105 (MethodName.mk "PostVotes" "reason" "(II)I"),
  .methodLink "PostVotesLaw" 109 (MethodName.mk "PostVotes" "ruled" "(II)I"),
  .methodLink "PostVotesLaw" 113 (MethodName.mk "PostVotes" "first" "(II)I"),
  .methodLink "PostVotesLaw" 117 (MethodName.mk "PostVotes" "doubles" "(I)I"),
  .methodLink "PostVotes" 237 (MethodName.mk "PostVotes$Post" "judgeAll" "(I)V"),
  .methodLink "PostVotes$Post" 94 (MethodName.mk "PostVotes$Post" "judgeOf" "(LPostVotes$Voter;I)V"),
  .methodLink "PostVotesLaw" 121 (MethodName.mk "PostVotes" "many" "(III)I"),
  .methodLink "PostVotes" 243 (MethodName.mk "PostVotes$Envelope" "shireOf" "(I)I"),
  .methodLink "PostVotesLaw" 125 (MethodName.mk "PostVotes" "habit" "(III)I"),
  .methodLink "PostVotes" 246 (MethodName.mk "PostVotes$Post" "doublesOf" "(IIII)I"),
  .methodLink "PostVotes$Post" 142 (MethodName.mk "PostVotes$Envelope" "doublesOf" "(II)I"),
  .methodLink "PostVotesLaw" 129 (MethodName.mk "PostVotes" "harshest" "()I"),
  .methodLink "PostVotesLaw" 133 (MethodName.mk "PostVotes" "size" "(I)Z"),
  .methodLink "PostVotes" 250 (MethodName.mk "java/util/ArrayList" "isEmpty" "()Z"),
  .methodLink "PostVotesLaw" 139 (MethodName.mk "PostVotes" "recheck" "(IIJ)I"),
  .methodLink "PostVotes" 254 (MethodName.mk "PostVotes" "layCounted" "()I"),
  .methodLink "PostVotes" 369 (MethodName.mk "PostVotes$Envelope" "isCounted" "()Z"),
  .methodLink "PostVotes" 261 (MethodName.mk "java/lang/System" "arraycopy" "(Ljava/lang/Object;ILjava/lang/Object;II)V"),
  .methodLink "PostVotesLaw" 144 (MethodName.mk "PostVotes" "wave" "(III)I"),
  .methodLink "PostVotes" 270 (MethodName.mk "PostVotes$Press" "order" "(III)I"),
  .methodLink "PostVotesLaw" 148 (MethodName.mk "PostVotes" "press" "(I)Z"),
  .methodLink "PostVotesLaw" 152 (MethodName.mk "PostVotes" "printed" "(I)I"),
  .methodLink "PostVotes" 276 (MethodName.mk "PostVotes$Press" "plan" "()V"),
  .methodLink "PostVotes$Press" 34 (MethodName.mk "java/lang/System" "arraycopy" "(Ljava/lang/Object;ILjava/lang/Object;II)V"),
  .methodLink "PostVotes$Press" 40 (MethodName.mk "PostVotes$Press" "mostUrgent" "(I)I"),
  .methodLink "PostVotes$Press" 44 (MethodName.mk "PostVotes$Press" "nextReady" "(I)I"),
  .methodLink "PostVotes$Press" 47 (MethodName.mk "PostVotes$Press" "wholeDays" "(III)I"),
  .methodLink "PostVotes$Press" 51 (MethodName.mk "java/lang/Math" "min" "(II)I"),
  .methodLink "PostVotesLaw" 156 (MethodName.mk "PostVotes" "latest" "()I"),
  .methodLink "PostVotes" 285 (MethodName.mk "java/lang/Math" "max" "(II)I"),
  .methodLink "PostVotesLaw" 160 (MethodName.mk "PostVotes" "stand" "(III)Z"),
  .methodLink "PostVotes" 290 (MethodName.mk "PostVotes" "isMinute" "(I)Z"),
  .methodLink "PostVotes" 293 (MethodName.mk "PostVotes$Van" "setBox" "(III)V"),
  .methodLink "PostVotesLaw" 164 (MethodName.mk "PostVotes" "road" "(III)Z"),
  .methodLink "PostVotes" 296 (MethodName.mk "PostVotes$Van" "setRoad" "(III)V"),
  .methodLink "PostVotesLaw" 168 (MethodName.mk "PostVotes" "stops" "(I)Z"),
  .methodLink "PostVotes" 299 (MethodName.mk "PostVotes$Van" "setStop" "(I)V"),
  .methodLink "PostVotesLaw" 172 (MethodName.mk "PostVotes" "round" "(I)I"),
  .methodLink "PostVotes" 302 (MethodName.mk "PostVotes$Van" "plan" "(I)V"),
  .methodLink "PostVotes$Van" 61 (MethodName.mk "PostVotes$Van" "goOn" "(LPostVotes$Van;IIII)V"),
  .methodLink "PostVotes$Van" 65 (MethodName.mk "PostVotes$Van" "comeHome" "(I)V"),
  .methodLink "PostVotes$Van" 78 (MethodName.mk "java/lang/System" "arraycopy" "(Ljava/lang/Object;ILjava/lang/Object;II)V"),
  .methodLink "PostVotes$Van" 69 (MethodName.mk "java/lang/Math" "max" "(II)I"),
  .methodLink "PostVotesLaw" 176 (MethodName.mk "PostVotes" "route" "(II)I"),
  .methodLink "PostVotes" 307 (MethodName.mk "PostVotes$Van" "boxAt" "(I)I"),
  .methodLink "PostVotes$Van" 75 (MethodName.mk "java/lang/Math" "min" "(II)I"),
  .methodLink "PostVotesLaw" 180 (MethodName.mk "PostVotes" "usual" "(II)I"),
  .methodLink "PostVotes" 310 (MethodName.mk "PostVotes" "usualOf" "(II)I"),
  .methodLink "PostVotes" 372 (MethodName.mk "PostVotes$Post" "settle" "(LPostVotes$Envelope;I)V"),
  .methodLink "PostVotesLaw" 184 (MethodName.mk "PostVotes" "ends" "(II)Z"),
  .methodLink "PostVotesLaw" 188 (MethodName.mk "PostVotes" "late" "(I)I"),
  .methodLink "PostVotesLaw" 192 (MethodName.mk "PostVotes" "open" "(I)I"),
  .methodLink "PostVotes" 323 (MethodName.mk "PostVotes" "fitsHeap" "(LPostVotes$Envelope;I)Z"),
  .methodLink "PostVotes" 329 (MethodName.mk "PostVotes$Heap" "<init>" "(II)V"),
  .methodLink "PostVotes$Heap" 3 (MethodName.mk "java/lang/Object" "<init>" "()V"),
  .methodLink "PostVotes" 332 (MethodName.mk "PostVotes$Heap" "lay" "(LPostVotes$Envelope;)V"),
  .methodLink "PostVotesLaw" 196 (MethodName.mk "PostVotes" "heap" "(II)I"),
  .methodLink "PostVotesLaw" 200 (MethodName.mk "PostVotes" "street" "(III)I"),
  .methodLink "PostVotesLaw" 204 (MethodName.mk "PostVotes" "count" "(I)I"),
  .methodLink "PostVotes" 354 (MethodName.mk "PostVotes" "manyInHeaps" "()I"),
  .methodLink "PostVotes" 357 (MethodName.mk "PostVotes" "manyWrong" "()I"),
  .methodLink "PostVotesLaw" 92 (MethodName.mk "PostVotesLaw" "letter" "(LPostVotes;III[J)I"),
  .methodLink "PostVotesLaw" 7 (MethodName.mk "PostVotes" "letter" "(III)I"),
  .methodLink "PostVotes" 208 (MethodName.mk "PostVotes" "isLetter" "(I)Z"),
  .methodLink "java/lang/Throwable" 1 (MethodName.mk "java/lang/Object" "<init>" "()V"),
  .methodLink "java/lang/Throwable" 27 (MethodName.mk "java/lang/Throwable" "fillInStackTrace" "()Ljava/lang/Throwable;"),
  .methodLink "java/lang/Throwable" 202 (MethodName.mk "java/lang/Throwable" "fillInStackTrace" "(I)Ljava/lang/Throwable;"),
  .methodLink "PostVotes" 215 (MethodName.mk "java/util/NoSuchElementException" "<init>" "(Ljava/lang/String;)V"),
  .methodLink "java/util/NoSuchElementException" 13 (MethodName.mk "java/lang/RuntimeException" "<init>" "(Ljava/lang/String;)V"),
  .methodLink "java/lang/RuntimeException" 7 (MethodName.mk "java/lang/Exception" "<init>" "(Ljava/lang/String;)V"),
  .methodLink "java/lang/Exception" 7 (MethodName.mk "java/lang/Throwable" "<init>" "(Ljava/lang/String;)V"),
  .methodLink "PostVotes" 218 (MethodName.mk "PostVotes$Envelope" "numberOf" "(II)I"),
  .methodLink "PostVotesLaw" 18 (MethodName.mk "PostVotesModel" "<init>" "()V"),
  .methodLink "PostVotesModel" 1 (MethodName.mk "java/lang/Object" "<init>" "()V"),
  .methodLink "PostVotesLaw" 23 (MethodName.mk "PostVotesModel" "days" "(I)I"),
  .methodLink "PostVotesModel" 213 (MethodName.mk "PostVotesModel" "in" "(III)Z"),
  .methodLink "PostVotesLaw" 27 (MethodName.mk "PostVotesModel" "voter" "(III)I"),
  .methodLink "PostVotesModel" 223 (MethodName.mk "PostVotesModel" "isShire" "(I)Z"),
  .methodLink "PostVotesLaw" 32 (MethodName.mk "PostVotesModel" "move" "(III)Z"),
  .methodLink "PostVotesModel" 228 (MethodName.mk "PostVotesModel" "isVoter" "(I)Z"),
  .methodLink "PostVotesLaw" 36 (MethodName.mk "PostVotesModel" "shire" "(III)I"),
  .methodLink "PostVotesModel" 234 (MethodName.mk "PostVotesModel" "isKnowing" "(I)Z"),
  .methodLink "PostVotesModel" 237 (MethodName.mk "PostVotesModel" "shireOn" "(III)I"),
  .methodLink "PostVotesLaw" 40 (MethodName.mk "PostVotesModel" "send" "(III)I"),
  .methodLink "PostVotesLaw" 45 (MethodName.mk "PostVotesModel" "event" "(IIII)Z"),
  .methodLink "PostVotesModel" 244 (MethodName.mk "PostVotesModel" "isEnvelope" "(I)Z"),
  .methodLink "PostVotesLaw" 49 (MethodName.mk "PostVotesModel" "empty" "(III)I"),
  .methodLink "PostVotesLaw" 54 (MethodName.mk "PostVotesModel" "sealed" "(II)I"),
  .methodLink "PostVotesModel" 278 (MethodName.mk "PostVotesModel" "isSent" "(II)Z"),
  .methodLink "PostVotesModel" 274 (MethodName.mk "PostVotesModel" "ask" "(II)V"),
  .methodLink "PostVotesModel" 256 (MethodName.mk "PostVotesModel" "dayOf" "(III)I"),
  .methodLink "PostVotesModel" 253 (MethodName.mk "PostVotesModel" "eventFor" "(III)I"),
  .methodLink "PostVotesModel" 259 (MethodName.mk "PostVotesModel" "emptyingFor" "(II)I"),
  .methodLink "PostVotesModel" 269 (MethodName.mk "java/lang/Math" "max" "(II)I"),
  .methodLink "PostVotesLaw" 59 (MethodName.mk "PostVotesModel" "read" "(II)Z"),
  .methodLink "PostVotesLaw" 64 (MethodName.mk "PostVotesModel" "hand" "(IIZ)Z"),
  .methodLink "PostVotesLaw" 68 (MethodName.mk "PostVotesModel" "booth" "(II)Z"),
  .methodLink "PostVotesLaw" 73 (MethodName.mk "PostVotesModel" "feed" "(IIIII)I"),
  .methodLink "PostVotesModel" 294 (MethodName.mk "PostVotesModel" "byteOf" "(IIIIII)I"),
  .methodLink "PostVotesLaw" 78 (MethodName.mk "PostVotesModel" "end" "(I)Z"),
  .methodLink "PostVotesLaw" 83 (MethodName.mk "PostVotesModel" "fault" "()I"),
  .methodLink "PostVotesModel" 361 (MethodName.mk "PostVotesModel" "rule" "()V"),
  .methodLink "PostVotesModel" 352 (MethodName.mk "PostVotesModel" "condition" "()V"),
  .methodLink "PostVotesModel" 355 (MethodName.mk "PostVotesModel" "part" "()V"),
  .methodLink "PostVotesModel" 349 (MethodName.mk "PostVotesModel" "unit" "()V"),
  .methodLink "PostVotesModel" 316 (MethodName.mk "PostVotesModel" "look" "()I"),
  .methodLink "PostVotesModel" 327 (MethodName.mk "PostVotesModel" "opens" "()Z"),
  .methodLink "PostVotesModel" 313 (MethodName.mk "PostVotesModel" "bad" "()V"),
  .methodLink "PostVotesModel" 323 (MethodName.mk "PostVotesModel" "say" "(I)V"),
  .methodLink "PostVotesModel" 334 (MethodName.mk "PostVotesModel" "closes" "(I)V"),
  .methodLink "PostVotesModel" 331 (MethodName.mk "PostVotesModel" "sum" "()V"),
  .methodLink "PostVotesModel" 346 (MethodName.mk "PostVotesModel" "term" "()V"),
  .methodLink "PostVotesModel" 337 (MethodName.mk "PostVotesModel" "atom" "()V"),
  .methodLink "PostVotesModel" 340 (MethodName.mk "PostVotesModel" "isLetter" "(I)Z"),
  .methodLink "PostVotesModel" 343 (MethodName.mk "PostVotesModel" "number" "()V"),
  .methodLink "PostVotesModel" 320 (MethodName.mk "PostVotesModel" "isDigit" "(I)Z"),
  .methodLink "PostVotesLaw" 87 (MethodName.mk "PostVotesModel" "law" "(II)I"),
  .methodLink "PostVotesModel" 367 (MethodName.mk "PostVotesModel" "fault" "()I"),
  .methodLink "PostVotesLaw" 91 (MethodName.mk "PostVotesModel" "lawful" "(III)I"),
  .methodLink "PostVotesModel" 370 (MethodName.mk "PostVotesModel" "lawOn" "(III)I"),
  .methodLink "PostVotesLaw" 98 (MethodName.mk "PostVotesModel" "thrown" "()I"),
  .methodLink "PostVotesLaw" 97 (MethodName.mk "PostVotesModel" "letter" "(III)I"),
  .methodLink "PostVotesModel" 428 (MethodName.mk "PostVotesModel" "isAsked" "(II)Z"),
  .methodLink "PostVotesModel" 431 (MethodName.mk "PostVotesModel" "judge" "(II)V"),
  .methodLink "PostVotesModel" 418 (MethodName.mk "PostVotesModel" "line" "(II)V"),
  .methodLink "PostVotesModel" 373 (MethodName.mk "PostVotesModel" "comesOn" "(II)I"),
  .methodLink "PostVotesModel" 421 (MethodName.mk "PostVotesModel" "judgeOne" "(III)V"),
  .methodLink "PostVotesModel" 415 (MethodName.mk "PostVotesModel" "work" "(IIII)I"),
  .methodLink "PostVotesModel" 401 (MethodName.mk "PostVotesModel" "letterOf" "(IIII)I"),
  .methodLink "PostVotesModel" 376 (MethodName.mk "PostVotesModel" "boothFor" "(II)I"),
  .methodLink "PostVotesModel" 379 (MethodName.mk "PostVotesModel" "unlike" "(II)I"),
  .methodLink "PostVotesModel" 382 (MethodName.mk "PostVotesModel" "wordsOf" "(III)I"),
  .methodLink "PostVotesModel" 291 (MethodName.mk "PostVotesModel" "wordOf" "(III)I"),
  .methodLink "PostVotesModel" 385 (MethodName.mk "PostVotesModel" "sentTo" "(II)I"),
  .methodLink "PostVotesModel" 405 (MethodName.mk "PostVotesModel" "bounded" "(J)I"),
  .methodLink "PostVotesModel" 392 (MethodName.mk "java/lang/Math" "min" "(JJ)J"),
  .methodLink "PostVotesModel" 396 (MethodName.mk "java/lang/Math" "max" "(JJ)J"),
  .methodLink "PostVotesModel" 409 (MethodName.mk "PostVotesModel" "both" "(III)I"),
  .methodLink "PostVotesLaw" 104 (MethodName.mk "PostVotesModel" "state" "(II)I"),
  .methodLink "PostVotesLaw" 108 (MethodName.mk "PostVotesModel" "reason" "(II)I"),
  .methodLink "PostVotesLaw" 112 (MethodName.mk "PostVotesModel" "ruled" "(II)I"),
  .methodLink "PostVotesLaw" 116 (MethodName.mk "PostVotesModel" "first" "(II)I"),
  .methodLink "PostVotesModel" 434 (MethodName.mk "PostVotesModel" "firstGood" "()I"),
  .methodLink "PostVotesLaw" 120 (MethodName.mk "PostVotesModel" "doubles" "(I)I"),
  .methodLink "PostVotesLaw" 124 (MethodName.mk "PostVotesModel" "many" "(III)I"),
  .methodLink "PostVotesLaw" 128 (MethodName.mk "PostVotesModel" "habit" "(III)I"),
  .methodLink "PostVotesModel" 446 (MethodName.mk "PostVotesModel" "meet" "(II)V"),
  .methodLink "PostVotesLaw" 132 (MethodName.mk "PostVotesModel" "harshest" "()I"),
  .methodLink "PostVotesLaw" 136 (MethodName.mk "PostVotesModel" "size" "(I)Z"),
  .methodLink "PostVotesLaw" 143 (MethodName.mk "PostVotesModel" "recheck" "(IIJ)I"),
  .methodLink "PostVotesModel" 452 (MethodName.mk "PostVotesModel" "findCounted" "()I"),
  .methodLink "PostVotesLaw" 147 (MethodName.mk "PostVotesModel" "wave" "(III)I"),
  .methodLink "PostVotesLaw" 151 (MethodName.mk "PostVotesModel" "press" "(I)Z"),
  .methodLink "PostVotesLaw" 155 (MethodName.mk "PostVotesModel" "printed" "(I)I"),
  .methodLink "PostVotesModel" 468 (MethodName.mk "PostVotesModel" "print" "()V"),
  .methodLink "PostVotesModel" 462 (MethodName.mk "PostVotesModel" "nextWave" "(I)I"),
  .methodLink "PostVotesModel" 466 (MethodName.mk "java/lang/Math" "min" "(II)I"),
  .methodLink "PostVotesLaw" 159 (MethodName.mk "PostVotesModel" "latest" "()I"),
  .methodLink "PostVotesLaw" 163 (MethodName.mk "PostVotesModel" "stand" "(III)Z"),
  .methodLink "PostVotesLaw" 167 (MethodName.mk "PostVotesModel" "road" "(III)Z"),
  .methodLink "PostVotesLaw" 171 (MethodName.mk "PostVotesModel" "stops" "(I)Z"),
  .methodLink "PostVotesLaw" 175 (MethodName.mk "PostVotesModel" "round" "(I)I"),
  .methodLink "PostVotesModel" 480 (MethodName.mk "PostVotesModel" "findRound" "(I)Z"),
  .methodLink "PostVotesModel" 477 (MethodName.mk "PostVotesModel" "drive" "(III)V"),
  .methodLink "PostVotesLaw" 179 (MethodName.mk "PostVotesModel" "route" "(II)I"),
  .methodLink "PostVotesLaw" 183 (MethodName.mk "PostVotesModel" "usual" "(II)I"),
  .methodLink "PostVotesModel" 483 (MethodName.mk "PostVotesModel" "usualOf" "(II)I"),
  .methodLink "PostVotesLaw" 187 (MethodName.mk "PostVotesModel" "ends" "(II)Z"),
  .methodLink "PostVotesLaw" 191 (MethodName.mk "PostVotesModel" "late" "(I)I"),
  .methodLink "PostVotesModel" 486 (MethodName.mk "PostVotesModel" "state" "(II)I"),
  .methodLink "PostVotesLaw" 195 (MethodName.mk "PostVotesModel" "open" "(I)I"),
  .methodLink "PostVotesLaw" 199 (MethodName.mk "PostVotesModel" "heap" "(II)I"),
  .methodLink "PostVotesLaw" 203 (MethodName.mk "PostVotesModel" "street" "(III)I"),
  .methodLink "PostVotesLaw" 207 (MethodName.mk "PostVotesModel" "count" "(I)I")]
set_option maxRecDepth 100000 in
theorem ge_methodLink : tables_1.filter gp_methodLink = gc_methodLink := by decide +kernel
def gp_code : Cond → Bool := fun c => match c with | .code .. => true | _ => false
def gc_code : List Cond := [.code (MethodName.mk "PostVotes" "<init>" "()V") prog_1_method_1_code 1 none,
  .code (MethodName.mk "java/lang/Object" "<init>" "()V") object_method_1_code 1 none,
  .code (MethodName.mk "PostVotes$Post" "<init>" "()V") prog_6_method_1_code 1 none,
  .code (MethodName.mk "java/util/ArrayList" "<init>" "()V") prog_32_method_2_code 1 none,
  .code (MethodName.mk "java/util/AbstractList" "<init>" "()V") prog_31_method_1_code 1 none,
  .code (MethodName.mk "java/util/AbstractCollection" "<init>" "()V") prog_30_method_1_code 1 none,
  .code (MethodName.mk "PostVotes$Judge" "<init>" "()V") prog_4_method_1_code 1 none,
  .code (MethodName.mk "PostVotes$Tape" "<init>" "()V") prog_8_method_1_code 1 none,
  .code (MethodName.mk "PostVotes$Press" "<init>" "()V") prog_7_method_1_code 1 none,
  .code (MethodName.mk "PostVotes$Van" "<init>" "()V") prog_10_method_1_code 1 none,
  .code (MethodName.mk "java/util/Arrays" "fill" "([II)V") prog_33_method_103_code 4 none,
  .code (MethodName.mk "PostVotes" "days" "(I)I") prog_1_method_2_code 2 (some FieldType.int),
  .code (MethodName.mk "PostVotes" "isWithin" "(III)Z") prog_1_method_45_code 3 (some FieldType.boolean),
  .code (MethodName.mk "PostVotes" "voter" "(III)I") prog_1_method_3_code 5 (some FieldType.int),
  .code (MethodName.mk "PostVotes" "isShire" "(I)Z") prog_1_method_46_code 1 (some FieldType.boolean),
  .code (MethodName.mk "PostVotes" "isStreet" "(I)Z") prog_1_method_47_code 1 (some FieldType.boolean),
  .code (MethodName.mk "PostVotes" "isSign" "(I)Z") prog_1_method_51_code 1 (some FieldType.boolean),
  .code (MethodName.mk "java/util/ArrayList" "size" "()I") prog_32_method_8_code 1 (some FieldType.int),
  .code (MethodName.mk "PostVotes$Voter" "<init>" "(III)V") prog_11_method_1_code 4 none,
  .code (MethodName.mk "java/util/ArrayList" "add" "(Ljava/lang/Object;)Z") prog_32_method_25_code 2 (some FieldType.boolean),
  .code (MethodName.mk "java/util/ArrayList" "add" "(Ljava/lang/Object;[Ljava/lang/Object;I)V") prog_32_method_24_code 4 none,
  .code (MethodName.mk "java/util/ArrayList" "grow" "()[Ljava/lang/Object;") prog_32_method_7_code 1 (some (FieldType.array (FieldType.object "java/lang/Object"))),
  .code (MethodName.mk "java/util/ArrayList" "grow" "(I)[Ljava/lang/Object;") prog_32_method_6_code 4 (some (FieldType.array (FieldType.object "java/lang/Object"))),
  .code (MethodName.mk "jdk/internal/util/ArraysSupport" "newLength" "(III)I") prog_40_method_27_code 4 (some FieldType.int),
  .code (MethodName.mk "java/lang/Math" "max" "(II)I") prog_21_method_65_code 2 (some FieldType.int),
  .code (MethodName.mk "jdk/internal/util/ArraysSupport" "hugeLength" "(II)I") prog_40_method_28_code 3 (some FieldType.int),
  .code (MethodName.mk "java/util/Arrays" "copyOf" "([Ljava/lang/Object;I)[Ljava/lang/Object;") prog_33_method_119_code 2 (some (FieldType.array (FieldType.object "java/lang/Object"))),
  .code (MethodName.mk "java/util/Arrays" "copyOf" "([Ljava/lang/Object;ILjava/lang/Class;)[Ljava/lang/Object;") prog_33_method_120_code 4 (some (FieldType.array (FieldType.object "java/lang/Object"))),
  .code (MethodName.mk "java/lang/Math" "min" "(II)I") prog_21_method_69_code 2 (some FieldType.int),
  .code (MethodName.mk "PostVotes" "move" "(III)Z") prog_1_method_4_code 5 (some FieldType.boolean),
  .code (MethodName.mk "PostVotes$Post" "voterAt" "(I)LPostVotes$Voter;") prog_6_method_2_code 2 (some (FieldType.object "PostVotes$Voter")),
  .code (MethodName.mk "java/util/ArrayList" "get" "(I)Ljava/lang/Object;") prog_32_method_20_code 2 (some (FieldType.object "java/lang/Object")),
  .code (MethodName.mk "java/util/Objects" "checkIndex" "(II)I") prog_37_method_17_code 2 (some FieldType.int),
  .code (MethodName.mk "jdk/internal/util/Preconditions" "checkIndex" "(IILjava/util/function/BiFunction;)I") prog_41_method_11_code 3 (some FieldType.int),
  .code (MethodName.mk "java/util/ArrayList" "elementData" "(I)Ljava/lang/Object;") prog_32_method_18_code 2 (some (FieldType.object "java/lang/Object")),
  .code (MethodName.mk "PostVotes" "isUpToNow" "(I)Z") prog_1_method_55_code 2 (some FieldType.boolean),
  .code (MethodName.mk "PostVotes$Told" "<init>" "(IIII)V") prog_9_method_1_code 5 none,
  .code (MethodName.mk "PostVotes" "shire" "(III)I") prog_1_method_5_code 5 (some FieldType.int),
  .code (MethodName.mk "PostVotes" "isDay" "(I)Z") prog_1_method_52_code 1 (some FieldType.boolean),
  .code (MethodName.mk "PostVotes$Voter" "shireOn" "(II)I") prog_11_method_2_code 7 (some FieldType.int),
  .code (MethodName.mk "PostVotes" "send" "(III)I") prog_1_method_6_code 7 (some FieldType.int),
  .code (MethodName.mk "PostVotes" "isChoice" "(I)Z") prog_1_method_48_code 1 (some FieldType.boolean),
  .code (MethodName.mk "PostVotes$Envelope" "<init>" "(ILPostVotes$Voter;III)V") prog_2_method_1_code 6 none,
  .code (MethodName.mk "PostVotes" "event" "(IIII)Z") prog_1_method_7_code 7 (some FieldType.boolean),
  .code (MethodName.mk "PostVotes$Post" "envelopeAt" "(I)LPostVotes$Envelope;") prog_6_method_3_code 2 (some (FieldType.object "PostVotes$Envelope")),
  .code (MethodName.mk "PostVotes" "isBox" "(I)Z") prog_1_method_49_code 1 (some FieldType.boolean),
  .code (MethodName.mk "PostVotes" "empty" "(III)I") prog_1_method_8_code 5 (some FieldType.int),
  .code (MethodName.mk "PostVotes" "sealed" "(II)I") prog_1_method_9_code 4 (some FieldType.int),
  .code (MethodName.mk "PostVotes$Post" "manyBy" "(II)I") prog_6_method_6_code 6 (some FieldType.int),
  .code (MethodName.mk "PostVotes$Post" "settle" "(LPostVotes$Envelope;I)V") prog_6_method_4_code 6 none,
  .code (MethodName.mk "PostVotes$Envelope" "learn" "(I)V") prog_2_method_3_code 4 none,
  .code (MethodName.mk "PostVotes$Envelope" "forget" "()V") prog_2_method_2_code 1 none,
  .code (MethodName.mk "PostVotes$Post" "firstEmptying" "(III)I") prog_6_method_5_code 8 (some FieldType.int),
  .code (MethodName.mk "PostVotes" "read" "(II)Z") prog_1_method_10_code 4 (some FieldType.boolean),
  .code (MethodName.mk "PostVotes" "hand" "(IIZ)Z") prog_1_method_11_code 5 (some FieldType.boolean),
  .code (MethodName.mk "PostVotes" "isHand" "(I)Z") prog_1_method_50_code 1 (some FieldType.boolean),
  .code (MethodName.mk "PostVotes" "booth" "(II)Z") prog_1_method_12_code 4 (some FieldType.boolean),
  .code (MethodName.mk "PostVotes" "feed" "(IIIII)I") prog_1_method_13_code 7 (some FieldType.int),
  .code (MethodName.mk "PostVotes" "signsIn" "(I)I") prog_1_method_56_code 3 (some FieldType.int),
  .code (MethodName.mk "PostVotes$Tape" "take4" "(I)V") prog_8_method_2_code 4 none,
  .code (MethodName.mk "PostVotes" "end" "(I)Z") prog_1_method_14_code 2 (some FieldType.boolean),
  .code (MethodName.mk "PostVotes" "fault" "()I") prog_1_method_15_code 1 (some FieldType.int),
  .code (MethodName.mk "PostVotes$Tape" "firstFault" "()I") prog_8_method_3_code 3 (some FieldType.int),
  .code (MethodName.mk "PostVotes$Tape" "readRule" "()Z") prog_8_method_4_code 1 (some FieldType.boolean),
  .code (MethodName.mk "PostVotes$Tape" "readCondition" "(I)Z") prog_8_method_6_code 4 (some FieldType.boolean),
  .code (MethodName.mk "PostVotes$Tape" "readPart" "(I)Z") prog_8_method_7_code 4 (some FieldType.boolean),
  .code (MethodName.mk "PostVotes$Tape" "readUnit" "(I)Z") prog_8_method_8_code 4 (some FieldType.boolean),
  .code (MethodName.mk "PostVotes$Tape" "nextSign" "()I") prog_8_method_14_code 1 (some FieldType.int),
  .code (MethodName.mk "PostVotes$Tape" "readComparison" "(I)Z") prog_8_method_9_code 4 (some FieldType.boolean),
  .code (MethodName.mk "PostVotes$Tape" "readSum" "(I)Z") prog_8_method_10_code 5 (some FieldType.boolean),
  .code (MethodName.mk "PostVotes$Tape" "readTerm" "(I)Z") prog_8_method_11_code 4 (some FieldType.boolean),
  .code (MethodName.mk "PostVotes$Tape" "readAtom" "(I)Z") prog_8_method_12_code 4 (some FieldType.boolean),
  .code (MethodName.mk "PostVotes" "isLetter" "(I)Z") prog_1_method_54_code 1 (some FieldType.boolean),
  .code (MethodName.mk "java/lang/String" "indexOf" "(I)I") prog_23_method_79_code 2 (some FieldType.int),
  .code (MethodName.mk "java/lang/String" "indexOf" "(II)I") prog_23_method_80_code 3 (some FieldType.int),
  .code (MethodName.mk "java/lang/String" "isLatin1" "()Z") prog_23_method_154_code 1 (some FieldType.boolean),
  .code (MethodName.mk "java/lang/String" "length" "()I") prog_23_method_54_code 1 (some FieldType.int),
  .code (MethodName.mk "java/lang/String" "coder" "()B") prog_23_method_152_code 1 (some FieldType.byte),
  .code (MethodName.mk "java/lang/StringLatin1" "indexOf" "([BIII)I") prog_24_method_22_code 4 (some FieldType.int),
  .code (MethodName.mk "java/lang/StringLatin1" "canEncode" "(I)Z") prog_24_method_4_code 1 (some FieldType.boolean),
  .code (MethodName.mk "java/lang/StringLatin1" "indexOfChar" "([BIII)I") prog_24_method_23_code 6 (some FieldType.int),
  .code (MethodName.mk "java/lang/StringUTF16" "indexOf" "([BIII)I") prog_25_method_40_code 4 (some FieldType.int),
  .code (MethodName.mk "java/lang/StringUTF16" "indexOfChar" "([BIII)I") prog_25_method_47_code 4 (some FieldType.int),
  .code (MethodName.mk "java/lang/StringUTF16" "checkBoundsBeginEnd" "(II[B)V") prog_25_method_93_code 3 none,
  .code (MethodName.mk "java/lang/StringUTF16" "length" "([B)I") prog_25_method_6_code 1 (some FieldType.int),
  .code (MethodName.mk "java/lang/String" "checkBoundsBeginEnd" "(III)V") prog_23_method_158_code 3 none,
  .code (MethodName.mk "jdk/internal/util/Preconditions" "checkFromToIndex" "(IIILjava/util/function/BiFunction;)I") prog_41_method_12_code 4 (some FieldType.int),
  .code (MethodName.mk "java/lang/StringUTF16" "indexOfCharUnsafe" "([BIII)I") prog_25_method_48_code 5 (some FieldType.int),
  .code (MethodName.mk "java/lang/StringUTF16" "getChar" "([BI)C") prog_25_method_5_code 2 (some FieldType.char),
  .code (MethodName.mk "java/lang/StringUTF16" "indexOfSupplementary" "([BIII)I") prog_25_method_49_code 7 (some FieldType.int),
  .code (MethodName.mk "java/lang/Character" "isValidCodePoint" "(I)Z") prog_16_method_11_code 2 (some FieldType.boolean),
  .code (MethodName.mk "java/lang/Character" "highSurrogate" "(I)C") prog_16_method_28_code 1 (some FieldType.char),
  .code (MethodName.mk "java/lang/Character" "lowSurrogate" "(I)C") prog_16_method_29_code 1 (some FieldType.char),
  .code (MethodName.mk "PostVotes$Tape" "write" "(I)V") prog_8_method_16_code 2 none,
  .code (MethodName.mk "PostVotes$Tape" "readNumber" "()Z") prog_8_method_13_code 3 (some FieldType.boolean),
  .code (MethodName.mk "PostVotes$Tape" "takes" "(I)Z") prog_8_method_15_code 3 (some FieldType.boolean),
  .code (MethodName.mk "PostVotes$Tape" "readVerdict" "()Z") prog_8_method_5_code 2 (some FieldType.boolean),
  .code (MethodName.mk "PostVotes" "law" "(II)I") prog_1_method_16_code 4 (some FieldType.int),
  .code (MethodName.mk "PostVotes$Law" "<init>" "(IIILPostVotes$Tape;)V") prog_5_method_1_code 5 none,
  .code (MethodName.mk "java/util/Arrays" "copyOf" "([II)[I") prog_33_method_123_code 3 (some (FieldType.array FieldType.int)),
  .code (MethodName.mk "PostVotes" "lawful" "(III)I") prog_1_method_17_code 4 (some FieldType.int),
  .code (MethodName.mk "PostVotes$Judge" "inForce" "(III)I") prog_4_method_2_code 8 (some FieldType.int),
  .code (MethodName.mk "PostVotes" "state" "(II)I") prog_1_method_19_code 4 (some FieldType.int),
  .code (MethodName.mk "PostVotes" "judged" "(II)LPostVotes$Envelope;") prog_1_method_57_code 4 (some (FieldType.object "PostVotes$Envelope")),
  .code (MethodName.mk "PostVotes$Post" "judgeOf" "(LPostVotes$Voter;I)V") prog_6_method_8_code 5 none,
  .code (MethodName.mk "PostVotes$Voter" "learn" "(I)V") prog_11_method_3_code 4 none,
  .code (MethodName.mk "java/util/ArrayList" "clear" "()V") prog_32_method_40_code 4 none,
  .code (MethodName.mk "PostVotes$Post" "putInOrder" "(LPostVotes$Envelope;)V") prog_6_method_9_code 3 none,
  .code (MethodName.mk "java/util/ArrayList" "add" "(ILjava/lang/Object;)V") prog_32_method_26_code 5 none,
  .code (MethodName.mk "java/util/ArrayList" "rangeCheckForAdd" "(I)V") prog_32_method_45_code 2 none,
  .code (MethodName.mk "PostVotes$Judge" "decide" "(LPostVotes$Envelope;I)V") prog_4_method_3_code 6 none,
  .code (MethodName.mk "PostVotes$Envelope" "shireOf" "(I)I") prog_2_method_5_code 2 (some FieldType.int),
  .code (MethodName.mk "PostVotes$Judge" "valueOf" "(LPostVotes$Law;ILPostVotes$Envelope;I)I") prog_4_method_6_code 8 (some FieldType.int),
  .code (MethodName.mk "PostVotes$Judge" "push" "(I)V") prog_4_method_9_code 2 none,
  .code (MethodName.mk "PostVotes$Envelope" "numberOf" "(II)I") prog_2_method_9_code 3 (some FieldType.int),
  .code (MethodName.mk "PostVotes$Envelope" "unlikeFigures" "()I") prog_2_method_6_code 5 (some FieldType.int),
  .code (MethodName.mk "PostVotes$Envelope" "handsThatTold" "(I)I") prog_2_method_7_code 4 (some FieldType.int),
  .code (MethodName.mk "PostVotes$Judge" "pop" "()I") prog_4_method_10_code 1 (some FieldType.int),
  .code (MethodName.mk "PostVotes$Judge" "joined" "(III)I") prog_4_method_7_code 3 (some FieldType.int),
  .code (MethodName.mk "PostVotes$Judge" "bounded" "(J)I") prog_4_method_8_code 2 (some FieldType.int),
  .code (MethodName.mk "java/lang/Math" "min" "(JJ)J") prog_21_method_70_code 4 (some FieldType.long),
  .code (MethodName.mk "java/lang/Math" "max" "(JJ)J") prog_21_method_66_code 4 (some FieldType.long),
  .code (MethodName.mk "PostVotes$Judge" "pass" "(LPostVotes$Envelope;III)V") prog_4_method_4_code 5 none,
  .code (MethodName.mk "PostVotes$Judge" "awaitCure" "(LPostVotes$Envelope;II)V") prog_4_method_5_code 5 none,
  .code (MethodName.mk "PostVotes" "reason" "(II)I") prog_1_method_20_code 4 (some FieldType.int),
  .code (MethodName.mk "PostVotes" "ruled" "(II)I") prog_1_method_21_code 4 (some FieldType.int),
  .code (MethodName.mk "PostVotes" "first" "(II)I") prog_1_method_22_code 4 (some FieldType.int),
  .code (MethodName.mk "PostVotes" "doubles" "(I)I") prog_1_method_23_code 4 (some FieldType.int),
  .code (MethodName.mk "PostVotes$Post" "judgeAll" "(I)V") prog_6_method_7_code 3 none,
  .code (MethodName.mk "PostVotes" "many" "(III)I") prog_1_method_24_code 7 (some FieldType.int),
  .code (MethodName.mk "PostVotes" "habit" "(III)I") prog_1_method_25_code 5 (some FieldType.int),
  .code (MethodName.mk "PostVotes$Post" "doublesOf" "(IIII)I") prog_6_method_10_code 8 (some FieldType.int),
  .code (MethodName.mk "PostVotes$Envelope" "doublesOf" "(II)I") prog_2_method_8_code 5 (some FieldType.int),
  .code (MethodName.mk "PostVotes" "harshest" "()I") prog_1_method_26_code 7 (some FieldType.int),
  .code (MethodName.mk "PostVotes" "size" "(I)Z") prog_1_method_27_code 2 (some FieldType.boolean),
  .code (MethodName.mk "java/util/ArrayList" "isEmpty" "()Z") prog_32_method_9_code 1 (some FieldType.boolean),
  .code (MethodName.mk "PostVotes" "recheck" "(IIJ)I") prog_1_method_28_code 11 (some FieldType.int),
  .code (MethodName.mk "PostVotes" "layCounted" "()I") prog_1_method_58_code 3 (some FieldType.int),
  .code (MethodName.mk "PostVotes$Envelope" "isCounted" "()Z") prog_2_method_4_code 1 (some FieldType.boolean),
  .code (MethodName.mk "PostVotes" "wave" "(III)I") prog_1_method_29_code 5 (some FieldType.int),
  .code (MethodName.mk "PostVotes$Press" "order" "(III)I") prog_7_method_2_code 4 (some FieldType.int),
  .code (MethodName.mk "PostVotes" "press" "(I)Z") prog_1_method_30_code 2 (some FieldType.boolean),
  .code (MethodName.mk "PostVotes" "printed" "(I)I") prog_1_method_31_code 2 (some FieldType.int),
  .code (MethodName.mk "PostVotes$Press" "plan" "()V") prog_7_method_3_code 7 none,
  .code (MethodName.mk "PostVotes$Press" "mostUrgent" "(I)I") prog_7_method_5_code 5 (some FieldType.int),
  .code (MethodName.mk "PostVotes$Press" "nextReady" "(I)I") prog_7_method_6_code 5 (some FieldType.int),
  .code (MethodName.mk "PostVotes$Press" "wholeDays" "(III)I") prog_7_method_4_code 5 (some FieldType.int),
  .code (MethodName.mk "PostVotes" "latest" "()I") prog_1_method_32_code 3 (some FieldType.int),
  .code (MethodName.mk "PostVotes" "stand" "(III)Z") prog_1_method_33_code 4 (some FieldType.boolean),
  .code (MethodName.mk "PostVotes" "isMinute" "(I)Z") prog_1_method_53_code 1 (some FieldType.boolean),
  .code (MethodName.mk "PostVotes$Van" "setBox" "(III)V") prog_10_method_2_code 4 none,
  .code (MethodName.mk "PostVotes" "road" "(III)Z") prog_1_method_34_code 5 (some FieldType.boolean),
  .code (MethodName.mk "PostVotes$Van" "setRoad" "(III)V") prog_10_method_3_code 4 none,
  .code (MethodName.mk "PostVotes" "stops" "(I)Z") prog_1_method_35_code 2 (some FieldType.boolean),
  .code (MethodName.mk "PostVotes$Van" "setStop" "(I)V") prog_10_method_4_code 2 none,
  .code (MethodName.mk "PostVotes" "round" "(I)I") prog_1_method_36_code 2 (some FieldType.int),
  .code (MethodName.mk "PostVotes$Van" "plan" "(I)V") prog_10_method_5_code 2 none,
  .code (MethodName.mk "PostVotes$Van" "goOn" "(LPostVotes$Van;IIII)V") prog_10_method_6_code 9 none,
  .code (MethodName.mk "PostVotes$Van" "comeHome" "(I)V") prog_10_method_8_code 2 none,
  .code (MethodName.mk "PostVotes" "route" "(II)I") prog_1_method_37_code 3 (some FieldType.int),
  .code (MethodName.mk "PostVotes$Van" "boxAt" "(I)I") prog_10_method_7_code 3 (some FieldType.int),
  .code (MethodName.mk "PostVotes" "usual" "(II)I") prog_1_method_38_code 3 (some FieldType.int),
  .code (MethodName.mk "PostVotes" "usualOf" "(II)I") prog_1_method_59_code 7 (some FieldType.int),
  .code (MethodName.mk "PostVotes" "ends" "(II)Z") prog_1_method_39_code 3 (some FieldType.boolean),
  .code (MethodName.mk "PostVotes" "late" "(I)I") prog_1_method_40_code 6 (some FieldType.int),
  .code (MethodName.mk "PostVotes" "open" "(I)I") prog_1_method_41_code 6 (some FieldType.int),
  .code (MethodName.mk "PostVotes" "fitsHeap" "(LPostVotes$Envelope;I)Z") prog_1_method_60_code 3 (some FieldType.boolean),
  .code (MethodName.mk "PostVotes$Heap" "<init>" "(II)V") prog_3_method_1_code 3 none,
  .code (MethodName.mk "PostVotes$Heap" "lay" "(LPostVotes$Envelope;)V") prog_3_method_2_code 2 none,
  .code (MethodName.mk "PostVotes" "heap" "(II)I") prog_1_method_42_code 4 (some FieldType.int),
  .code (MethodName.mk "PostVotes" "street" "(III)I") prog_1_method_43_code 11 (some FieldType.int),
  .code (MethodName.mk "PostVotes" "count" "(I)I") prog_1_method_44_code 2 (some FieldType.int),
  .code (MethodName.mk "PostVotes" "manyInHeaps" "()I") prog_1_method_61_code 3 (some FieldType.int),
  .code (MethodName.mk "PostVotes" "manyWrong" "()I") prog_1_method_62_code 4 (some FieldType.int),
  .code (MethodName.mk "PostVotes" "letter" "(III)I") prog_1_method_18_code 5 (some FieldType.int),
  .code (MethodName.mk "java/lang/Throwable" "<init>" "()V") prog_27_method_1_code 1 none,
  .code (MethodName.mk "java/util/NoSuchElementException" "<init>" "(Ljava/lang/String;)V") prog_36_method_4_code 2 none,
  .code (MethodName.mk "java/lang/RuntimeException" "<init>" "(Ljava/lang/String;)V") prog_22_method_2_code 2 none,
  .code (MethodName.mk "java/lang/Exception" "<init>" "(Ljava/lang/String;)V") prog_19_method_2_code 2 none,
  .code (MethodName.mk "java/lang/Throwable" "<init>" "(Ljava/lang/String;)V") prog_27_method_2_code 2 none,
  .code (MethodName.mk "PostVotesModel" "<init>" "()V") prog_13_method_2_code 3 none,
  .code (MethodName.mk "PostVotesModel" "days" "(I)I") prog_13_method_3_code 2 (some FieldType.int),
  .code (MethodName.mk "PostVotesModel" "in" "(III)Z") prog_13_method_1_code 3 (some FieldType.boolean),
  .code (MethodName.mk "PostVotesModel" "voter" "(III)I") prog_13_method_6_code 4 (some FieldType.int),
  .code (MethodName.mk "PostVotesModel" "isShire" "(I)Z") prog_13_method_5_code 1 (some FieldType.boolean),
  .code (MethodName.mk "PostVotesModel" "move" "(III)Z") prog_13_method_7_code 4 (some FieldType.boolean),
  .code (MethodName.mk "PostVotesModel" "isVoter" "(I)Z") prog_13_method_4_code 2 (some FieldType.boolean),
  .code (MethodName.mk "PostVotesModel" "shire" "(III)I") prog_13_method_10_code 4 (some FieldType.int),
  .code (MethodName.mk "PostVotesModel" "isKnowing" "(I)Z") prog_13_method_9_code 2 (some FieldType.boolean),
  .code (MethodName.mk "PostVotesModel" "shireOn" "(III)I") prog_13_method_8_code 7 (some FieldType.int),
  .code (MethodName.mk "PostVotesModel" "send" "(III)I") prog_13_method_13_code 4 (some FieldType.int),
  .code (MethodName.mk "PostVotesModel" "event" "(IIII)Z") prog_13_method_14_code 5 (some FieldType.boolean),
  .code (MethodName.mk "PostVotesModel" "isEnvelope" "(I)Z") prog_13_method_11_code 2 (some FieldType.boolean),
  .code (MethodName.mk "PostVotesModel" "empty" "(III)I") prog_13_method_15_code 4 (some FieldType.int),
  .code (MethodName.mk "PostVotesModel" "sealed" "(II)I") prog_13_method_21_code 5 (some FieldType.int),
  .code (MethodName.mk "PostVotesModel" "isSent" "(II)Z") prog_13_method_12_code 3 (some FieldType.boolean),
  .code (MethodName.mk "PostVotesModel" "ask" "(II)V") prog_13_method_19_code 7 none,
  .code (MethodName.mk "PostVotesModel" "dayOf" "(III)I") prog_13_method_17_code 5 (some FieldType.int),
  .code (MethodName.mk "PostVotesModel" "eventFor" "(III)I") prog_13_method_16_code 6 (some FieldType.int),
  .code (MethodName.mk "PostVotesModel" "emptyingFor" "(II)I") prog_13_method_18_code 7 (some FieldType.int),
  .code (MethodName.mk "PostVotesModel" "read" "(II)Z") prog_13_method_22_code 3 (some FieldType.boolean),
  .code (MethodName.mk "PostVotesModel" "hand" "(IIZ)Z") prog_13_method_23_code 4 (some FieldType.boolean),
  .code (MethodName.mk "PostVotesModel" "booth" "(II)Z") prog_13_method_24_code 3 (some FieldType.boolean),
  .code (MethodName.mk "PostVotesModel" "feed" "(IIIII)I") prog_13_method_31_code 9 (some FieldType.int),
  .code (MethodName.mk "PostVotesModel" "byteOf" "(IIIIII)I") prog_13_method_30_code 7 (some FieldType.int),
  .code (MethodName.mk "PostVotesModel" "end" "(I)Z") prog_13_method_32_code 2 (some FieldType.boolean),
  .code (MethodName.mk "PostVotesModel" "fault" "()I") prog_13_method_48_code 1 (some FieldType.int),
  .code (MethodName.mk "PostVotesModel" "rule" "()V") prog_13_method_47_code 2 none,
  .code (MethodName.mk "PostVotesModel" "condition" "()V") prog_13_method_46_code 1 none,
  .code (MethodName.mk "PostVotesModel" "part" "()V") prog_13_method_45_code 1 none,
  .code (MethodName.mk "PostVotesModel" "unit" "()V") prog_13_method_44_code 3 none,
  .code (MethodName.mk "PostVotesModel" "look" "()I") prog_13_method_33_code 1 (some FieldType.int),
  .code (MethodName.mk "PostVotesModel" "opens" "()Z") prog_13_method_38_code 1 (some FieldType.boolean),
  .code (MethodName.mk "PostVotesModel" "bad" "()V") prog_13_method_34_code 1 none,
  .code (MethodName.mk "PostVotesModel" "say" "(I)V") prog_13_method_35_code 2 none,
  .code (MethodName.mk "PostVotesModel" "closes" "(I)V") prog_13_method_39_code 2 none,
  .code (MethodName.mk "PostVotesModel" "sum" "()V") prog_13_method_43_code 2 none,
  .code (MethodName.mk "PostVotesModel" "term" "()V") prog_13_method_42_code 1 none,
  .code (MethodName.mk "PostVotesModel" "atom" "()V") prog_13_method_41_code 2 none,
  .code (MethodName.mk "PostVotesModel" "isLetter" "(I)Z") prog_13_method_37_code 1 (some FieldType.boolean),
  .code (MethodName.mk "PostVotesModel" "number" "()V") prog_13_method_40_code 3 none,
  .code (MethodName.mk "PostVotesModel" "isDigit" "(I)Z") prog_13_method_36_code 1 (some FieldType.boolean),
  .code (MethodName.mk "PostVotesModel" "law" "(II)I") prog_13_method_49_code 4 (some FieldType.int),
  .code (MethodName.mk "PostVotesModel" "lawful" "(III)I") prog_13_method_51_code 4 (some FieldType.int),
  .code (MethodName.mk "PostVotesModel" "lawOn" "(III)I") prog_13_method_50_code 6 (some FieldType.int),
  .code (MethodName.mk "PostVotesModel" "thrown" "()I") prog_13_method_60_code 1 (some FieldType.int),
  .code (MethodName.mk "PostVotesModel" "letter" "(III)I") prog_13_method_61_code 4 (some FieldType.int),
  .code (MethodName.mk "PostVotesModel" "isAsked" "(II)Z") prog_13_method_59_code 3 (some FieldType.boolean),
  .code (MethodName.mk "PostVotesModel" "judge" "(II)V") prog_13_method_58_code 5 none,
  .code (MethodName.mk "PostVotesModel" "line" "(II)V") prog_13_method_56_code 5 none,
  .code (MethodName.mk "PostVotesModel" "comesOn" "(II)I") prog_13_method_20_code 3 (some FieldType.int),
  .code (MethodName.mk "PostVotesModel" "judgeOne" "(III)V") prog_13_method_57_code 11 none,
  .code (MethodName.mk "PostVotesModel" "work" "(IIII)I") prog_13_method_54_code 7 (some FieldType.int),
  .code (MethodName.mk "PostVotesModel" "letterOf" "(IIII)I") prog_13_method_52_code 5 (some FieldType.int),
  .code (MethodName.mk "PostVotesModel" "boothFor" "(II)I") prog_13_method_28_code 5 (some FieldType.int),
  .code (MethodName.mk "PostVotesModel" "unlike" "(II)I") prog_13_method_27_code 8 (some FieldType.int),
  .code (MethodName.mk "PostVotesModel" "wordsOf" "(III)I") prog_13_method_26_code 6 (some FieldType.int),
  .code (MethodName.mk "PostVotesModel" "wordOf" "(III)I") prog_13_method_25_code 6 (some FieldType.int),
  .code (MethodName.mk "PostVotesModel" "sentTo" "(II)I") prog_13_method_29_code 5 (some FieldType.int),
  .code (MethodName.mk "PostVotesModel" "bounded" "(J)I") prog_13_method_53_code 2 (some FieldType.int),
  .code (MethodName.mk "PostVotesModel" "both" "(III)I") prog_13_method_55_code 3 (some FieldType.int),
  .code (MethodName.mk "PostVotesModel" "state" "(II)I") prog_13_method_62_code 3 (some FieldType.int),
  .code (MethodName.mk "PostVotesModel" "reason" "(II)I") prog_13_method_63_code 3 (some FieldType.int),
  .code (MethodName.mk "PostVotesModel" "ruled" "(II)I") prog_13_method_64_code 3 (some FieldType.int),
  .code (MethodName.mk "PostVotesModel" "first" "(II)I") prog_13_method_66_code 3 (some FieldType.int),
  .code (MethodName.mk "PostVotesModel" "firstGood" "()I") prog_13_method_65_code 2 (some FieldType.int),
  .code (MethodName.mk "PostVotesModel" "doubles" "(I)I") prog_13_method_67_code 6 (some FieldType.int),
  .code (MethodName.mk "PostVotesModel" "many" "(III)I") prog_13_method_68_code 7 (some FieldType.int),
  .code (MethodName.mk "PostVotesModel" "habit" "(III)I") prog_13_method_70_code 4 (some FieldType.int),
  .code (MethodName.mk "PostVotesModel" "meet" "(II)V") prog_13_method_69_code 7 none,
  .code (MethodName.mk "PostVotesModel" "harshest" "()I") prog_13_method_71_code 5 (some FieldType.int),
  .code (MethodName.mk "PostVotesModel" "size" "(I)Z") prog_13_method_72_code 2 (some FieldType.boolean),
  .code (MethodName.mk "PostVotesModel" "recheck" "(IIJ)I") prog_13_method_74_code 12 (some FieldType.int),
  .code (MethodName.mk "PostVotesModel" "findCounted" "()I") prog_13_method_73_code 4 (some FieldType.int),
  .code (MethodName.mk "PostVotesModel" "wave" "(III)I") prog_13_method_75_code 4 (some FieldType.int),
  .code (MethodName.mk "PostVotesModel" "press" "(I)Z") prog_13_method_76_code 2 (some FieldType.boolean),
  .code (MethodName.mk "PostVotesModel" "printed" "(I)I") prog_13_method_79_code 2 (some FieldType.int),
  .code (MethodName.mk "PostVotesModel" "print" "()V") prog_13_method_78_code 6 none,
  .code (MethodName.mk "PostVotesModel" "nextWave" "(I)I") prog_13_method_77_code 4 (some FieldType.int),
  .code (MethodName.mk "PostVotesModel" "latest" "()I") prog_13_method_80_code 3 (some FieldType.int),
  .code (MethodName.mk "PostVotesModel" "stand" "(III)Z") prog_13_method_81_code 4 (some FieldType.boolean),
  .code (MethodName.mk "PostVotesModel" "road" "(III)Z") prog_13_method_82_code 4 (some FieldType.boolean),
  .code (MethodName.mk "PostVotesModel" "stops" "(I)Z") prog_13_method_83_code 2 (some FieldType.boolean),
  .code (MethodName.mk "PostVotesModel" "round" "(I)I") prog_13_method_86_code 2 (some FieldType.int),
  .code (MethodName.mk "PostVotesModel" "findRound" "(I)Z") prog_13_method_85_code 3 (some FieldType.boolean),
  .code (MethodName.mk "PostVotesModel" "drive" "(III)V") prog_13_method_84_code 6 none,
  .code (MethodName.mk "PostVotesModel" "route" "(II)I") prog_13_method_87_code 3 (some FieldType.int),
  .code (MethodName.mk "PostVotesModel" "usual" "(II)I") prog_13_method_89_code 3 (some FieldType.int),
  .code (MethodName.mk "PostVotesModel" "usualOf" "(II)I") prog_13_method_88_code 7 (some FieldType.int),
  .code (MethodName.mk "PostVotesModel" "ends" "(II)Z") prog_13_method_90_code 3 (some FieldType.boolean),
  .code (MethodName.mk "PostVotesModel" "late" "(I)I") prog_13_method_91_code 4 (some FieldType.int),
  .code (MethodName.mk "PostVotesModel" "open" "(I)I") prog_13_method_92_code 4 (some FieldType.int),
  .code (MethodName.mk "PostVotesModel" "heap" "(II)I") prog_13_method_93_code 5 (some FieldType.int),
  .code (MethodName.mk "PostVotesModel" "street" "(III)I") prog_13_method_94_code 9 (some FieldType.int),
  .code (MethodName.mk "PostVotesModel" "count" "(I)I") prog_13_method_95_code 6 (some FieldType.int)]
set_option maxRecDepth 100000 in
theorem ge_code : tables_1.filter gp_code = gc_code := rfl
def gp_instanceMethod : Cond → Bool := fun c => match c with | .instanceMethod .. => true | _ => false
def gc_instanceMethod : List Cond := [.instanceMethod (MethodName.mk "PostVotes" "<init>" "()V"),
  .instanceMethod (MethodName.mk "java/lang/Object" "<init>" "()V"),
  .instanceMethod (MethodName.mk "PostVotes$Post" "<init>" "()V"),
  .instanceMethod (MethodName.mk "java/util/ArrayList" "<init>" "()V"),
  .instanceMethod (MethodName.mk "java/util/AbstractList" "<init>" "()V"),
  .instanceMethod (MethodName.mk "java/util/AbstractCollection" "<init>" "()V"),
  .instanceMethod (MethodName.mk "PostVotes$Judge" "<init>" "()V"),
  .instanceMethod (MethodName.mk "PostVotes$Tape" "<init>" "()V"),
  .instanceMethod (MethodName.mk "PostVotes$Press" "<init>" "()V"),
  .instanceMethod (MethodName.mk "PostVotes$Van" "<init>" "()V"),
  .instanceMethod (MethodName.mk "PostVotes" "days" "(I)I"),
  .instanceMethod (MethodName.mk "PostVotes" "voter" "(III)I"),
  .instanceMethod (MethodName.mk "java/util/ArrayList" "size" "()I"),
  .instanceMethod (MethodName.mk "PostVotes$Voter" "<init>" "(III)V"),
  .instanceMethod (MethodName.mk "java/util/ArrayList" "add" "(Ljava/lang/Object;)Z"),
  .instanceMethod (MethodName.mk "java/util/ArrayList" "add" "(Ljava/lang/Object;[Ljava/lang/Object;I)V"),
  .instanceMethod (MethodName.mk "java/util/ArrayList" "grow" "()[Ljava/lang/Object;"),
  .instanceMethod (MethodName.mk "java/util/ArrayList" "grow" "(I)[Ljava/lang/Object;"),
  .instanceMethod (MethodName.mk "java/lang/Object" "getClass" "()Ljava/lang/Class;"),
  .instanceMethod (MethodName.mk "PostVotes" "move" "(III)Z"),
  .instanceMethod (MethodName.mk "PostVotes$Post" "voterAt" "(I)LPostVotes$Voter;"),
  .instanceMethod (MethodName.mk "java/util/ArrayList" "get" "(I)Ljava/lang/Object;"),
  .instanceMethod (MethodName.mk "java/util/ArrayList" "elementData" "(I)Ljava/lang/Object;"),
  .instanceMethod (MethodName.mk "PostVotes" "isUpToNow" "(I)Z"),
  .instanceMethod (MethodName.mk "PostVotes$Told" "<init>" "(IIII)V"),
  .instanceMethod (MethodName.mk "PostVotes" "shire" "(III)I"),
  .instanceMethod (MethodName.mk "PostVotes$Voter" "shireOn" "(II)I"),
  .instanceMethod (MethodName.mk "PostVotes" "send" "(III)I"),
  .instanceMethod (MethodName.mk "PostVotes$Envelope" "<init>" "(ILPostVotes$Voter;III)V"),
  .instanceMethod (MethodName.mk "PostVotes" "event" "(IIII)Z"),
  .instanceMethod (MethodName.mk "PostVotes$Post" "envelopeAt" "(I)LPostVotes$Envelope;"),
  .instanceMethod (MethodName.mk "PostVotes" "empty" "(III)I"),
  .instanceMethod (MethodName.mk "PostVotes" "sealed" "(II)I"),
  .instanceMethod (MethodName.mk "PostVotes$Post" "manyBy" "(II)I"),
  .instanceMethod (MethodName.mk "PostVotes$Post" "settle" "(LPostVotes$Envelope;I)V"),
  .instanceMethod (MethodName.mk "PostVotes$Envelope" "learn" "(I)V"),
  .instanceMethod (MethodName.mk "PostVotes$Envelope" "forget" "()V"),
  .instanceMethod (MethodName.mk "PostVotes$Post" "firstEmptying" "(III)I"),
  .instanceMethod (MethodName.mk "PostVotes" "read" "(II)Z"),
  .instanceMethod (MethodName.mk "PostVotes" "hand" "(IIZ)Z"),
  .instanceMethod (MethodName.mk "PostVotes" "booth" "(II)Z"),
  .instanceMethod (MethodName.mk "PostVotes" "feed" "(IIIII)I"),
  .instanceMethod (MethodName.mk "PostVotes$Tape" "take4" "(I)V"),
  .instanceMethod (MethodName.mk "PostVotes" "end" "(I)Z"),
  .instanceMethod (MethodName.mk "PostVotes" "fault" "()I"),
  .instanceMethod (MethodName.mk "PostVotes$Tape" "firstFault" "()I"),
  .instanceMethod (MethodName.mk "PostVotes$Tape" "readRule" "()Z"),
  .instanceMethod (MethodName.mk "PostVotes$Tape" "readCondition" "(I)Z"),
  .instanceMethod (MethodName.mk "PostVotes$Tape" "readPart" "(I)Z"),
  .instanceMethod (MethodName.mk "PostVotes$Tape" "readUnit" "(I)Z"),
  .instanceMethod (MethodName.mk "PostVotes$Tape" "nextSign" "()I"),
  .instanceMethod (MethodName.mk "PostVotes$Tape" "readComparison" "(I)Z"),
  .instanceMethod (MethodName.mk "PostVotes$Tape" "readSum" "(I)Z"),
  .instanceMethod (MethodName.mk "PostVotes$Tape" "readTerm" "(I)Z"),
  .instanceMethod (MethodName.mk "PostVotes$Tape" "readAtom" "(I)Z"),
  .instanceMethod (MethodName.mk "java/lang/String" "indexOf" "(I)I"),
  .instanceMethod (MethodName.mk "java/lang/String" "indexOf" "(II)I"),
  .instanceMethod (MethodName.mk "java/lang/String" "isLatin1" "()Z"),
  .instanceMethod (MethodName.mk "java/lang/String" "length" "()I"),
  .instanceMethod (MethodName.mk "java/lang/String" "coder" "()B"),
  .instanceMethod (MethodName.mk "PostVotes$Tape" "write" "(I)V"),
  .instanceMethod (MethodName.mk "PostVotes$Tape" "readNumber" "()Z"),
  .instanceMethod (MethodName.mk "PostVotes$Tape" "takes" "(I)Z"),
  .instanceMethod (MethodName.mk "PostVotes$Tape" "readVerdict" "()Z"),
  .instanceMethod (MethodName.mk "PostVotes" "law" "(II)I"),
  .instanceMethod (MethodName.mk "PostVotes$Law" "<init>" "(IIILPostVotes$Tape;)V"),
  .instanceMethod (MethodName.mk "java/lang/Object" "clone" "()Ljava/lang/Object;"),
  .instanceMethod (MethodName.mk "PostVotes" "lawful" "(III)I"),
  .instanceMethod (MethodName.mk "PostVotes$Judge" "inForce" "(III)I"),
  .instanceMethod (MethodName.mk "PostVotes" "state" "(II)I"),
  .instanceMethod (MethodName.mk "PostVotes" "judged" "(II)LPostVotes$Envelope;"),
  .instanceMethod (MethodName.mk "PostVotes$Post" "judgeOf" "(LPostVotes$Voter;I)V"),
  .instanceMethod (MethodName.mk "PostVotes$Voter" "learn" "(I)V"),
  .instanceMethod (MethodName.mk "java/util/ArrayList" "clear" "()V"),
  .instanceMethod (MethodName.mk "PostVotes$Post" "putInOrder" "(LPostVotes$Envelope;)V"),
  .instanceMethod (MethodName.mk "java/util/ArrayList" "add" "(ILjava/lang/Object;)V"),
  .instanceMethod (MethodName.mk "java/util/ArrayList" "rangeCheckForAdd" "(I)V"),
  .instanceMethod (MethodName.mk "PostVotes$Judge" "decide" "(LPostVotes$Envelope;I)V"),
  .instanceMethod (MethodName.mk "PostVotes$Envelope" "shireOf" "(I)I"),
  .instanceMethod (MethodName.mk "PostVotes$Judge" "valueOf" "(LPostVotes$Law;ILPostVotes$Envelope;I)I"),
  .instanceMethod (MethodName.mk "PostVotes$Judge" "push" "(I)V"),
  .instanceMethod (MethodName.mk "PostVotes$Envelope" "numberOf" "(II)I"),
  .instanceMethod (MethodName.mk "PostVotes$Envelope" "unlikeFigures" "()I"),
  .instanceMethod (MethodName.mk "PostVotes$Envelope" "handsThatTold" "(I)I"),
  .instanceMethod (MethodName.mk "PostVotes$Judge" "pop" "()I"),
  .instanceMethod (MethodName.mk "PostVotes$Judge" "pass" "(LPostVotes$Envelope;III)V"),
  .instanceMethod (MethodName.mk "PostVotes$Judge" "awaitCure" "(LPostVotes$Envelope;II)V"),
  .instanceMethod (MethodName.mk "PostVotes" "reason" "(II)I"),
  .instanceMethod (MethodName.mk "PostVotes" "ruled" "(II)I"),
  .instanceMethod (MethodName.mk "PostVotes" "first" "(II)I"),
  .instanceMethod (MethodName.mk "PostVotes" "doubles" "(I)I"),
  .instanceMethod (MethodName.mk "PostVotes$Post" "judgeAll" "(I)V"),
  .instanceMethod (MethodName.mk "PostVotes" "many" "(III)I"),
  .instanceMethod (MethodName.mk "PostVotes" "habit" "(III)I"),
  .instanceMethod (MethodName.mk "PostVotes$Post" "doublesOf" "(IIII)I"),
  .instanceMethod (MethodName.mk "PostVotes$Envelope" "doublesOf" "(II)I"),
  .instanceMethod (MethodName.mk "PostVotes" "harshest" "()I"),
  .instanceMethod (MethodName.mk "PostVotes" "size" "(I)Z"),
  .instanceMethod (MethodName.mk "java/util/ArrayList" "isEmpty" "()Z"),
  .instanceMethod (MethodName.mk "PostVotes" "recheck" "(IIJ)I"),
  .instanceMethod (MethodName.mk "PostVotes" "layCounted" "()I"),
  .instanceMethod (MethodName.mk "PostVotes$Envelope" "isCounted" "()Z"),
  .instanceMethod (MethodName.mk "PostVotes" "wave" "(III)I"),
  .instanceMethod (MethodName.mk "PostVotes$Press" "order" "(III)I"),
  .instanceMethod (MethodName.mk "PostVotes" "press" "(I)Z"),
  .instanceMethod (MethodName.mk "PostVotes" "printed" "(I)I"),
  .instanceMethod (MethodName.mk "PostVotes$Press" "plan" "()V"),
  .instanceMethod (MethodName.mk "PostVotes$Press" "mostUrgent" "(I)I"),
  .instanceMethod (MethodName.mk "PostVotes$Press" "nextReady" "(I)I"),
  .instanceMethod (MethodName.mk "PostVotes$Press" "wholeDays" "(III)I"),
  .instanceMethod (MethodName.mk "PostVotes" "latest" "()I"),
  .instanceMethod (MethodName.mk "PostVotes" "stand" "(III)Z"),
  .instanceMethod (MethodName.mk "PostVotes$Van" "setBox" "(III)V"),
  .instanceMethod (MethodName.mk "PostVotes" "road" "(III)Z"),
  .instanceMethod (MethodName.mk "PostVotes$Van" "setRoad" "(III)V"),
  .instanceMethod (MethodName.mk "PostVotes" "stops" "(I)Z"),
  .instanceMethod (MethodName.mk "PostVotes$Van" "setStop" "(I)V"),
  .instanceMethod (MethodName.mk "PostVotes" "round" "(I)I"),
  .instanceMethod (MethodName.mk "PostVotes$Van" "plan" "(I)V"),
  .instanceMethod (MethodName.mk "PostVotes$Van" "comeHome" "(I)V"),
  .instanceMethod (MethodName.mk "PostVotes" "route" "(II)I"),
  .instanceMethod (MethodName.mk "PostVotes$Van" "boxAt" "(I)I"),
  .instanceMethod (MethodName.mk "PostVotes" "usual" "(II)I"),
  .instanceMethod (MethodName.mk "PostVotes" "usualOf" "(II)I"),
  .instanceMethod (MethodName.mk "PostVotes" "ends" "(II)Z"),
  .instanceMethod (MethodName.mk "PostVotes" "late" "(I)I"),
  .instanceMethod (MethodName.mk "PostVotes" "open" "(I)I"),
  .instanceMethod (MethodName.mk "PostVotes" "fitsHeap" "(LPostVotes$Envelope;I)Z"),
  .instanceMethod (MethodName.mk "PostVotes$Heap" "<init>" "(II)V"),
  .instanceMethod (MethodName.mk "PostVotes$Heap" "lay" "(LPostVotes$Envelope;)V"),
  .instanceMethod (MethodName.mk "PostVotes" "heap" "(II)I"),
  .instanceMethod (MethodName.mk "PostVotes" "street" "(III)I"),
  .instanceMethod (MethodName.mk "PostVotes" "count" "(I)I"),
  .instanceMethod (MethodName.mk "PostVotes" "manyInHeaps" "()I"),
  .instanceMethod (MethodName.mk "PostVotes" "manyWrong" "()I"),
  .instanceMethod (MethodName.mk "PostVotes" "letter" "(III)I"),
  .instanceMethod (MethodName.mk "java/lang/Throwable" "<init>" "()V"),
  .instanceMethod (MethodName.mk "java/lang/Throwable" "fillInStackTrace" "()Ljava/lang/Throwable;"),
  .instanceMethod (MethodName.mk "java/lang/Throwable" "fillInStackTrace" "(I)Ljava/lang/Throwable;"),
  .instanceMethod (MethodName.mk "java/util/NoSuchElementException" "<init>" "(Ljava/lang/String;)V"),
  .instanceMethod (MethodName.mk "java/lang/RuntimeException" "<init>" "(Ljava/lang/String;)V"),
  .instanceMethod (MethodName.mk "java/lang/Exception" "<init>" "(Ljava/lang/String;)V"),
  .instanceMethod (MethodName.mk "java/lang/Throwable" "<init>" "(Ljava/lang/String;)V"),
  .instanceMethod (MethodName.mk "PostVotesModel" "<init>" "()V"),
  .instanceMethod (MethodName.mk "PostVotesModel" "days" "(I)I"),
  .instanceMethod (MethodName.mk "PostVotesModel" "voter" "(III)I"),
  .instanceMethod (MethodName.mk "PostVotesModel" "move" "(III)Z"),
  .instanceMethod (MethodName.mk "PostVotesModel" "isVoter" "(I)Z"),
  .instanceMethod (MethodName.mk "PostVotesModel" "shire" "(III)I"),
  .instanceMethod (MethodName.mk "PostVotesModel" "isKnowing" "(I)Z"),
  .instanceMethod (MethodName.mk "PostVotesModel" "shireOn" "(III)I"),
  .instanceMethod (MethodName.mk "PostVotesModel" "send" "(III)I"),
  .instanceMethod (MethodName.mk "PostVotesModel" "event" "(IIII)Z"),
  .instanceMethod (MethodName.mk "PostVotesModel" "isEnvelope" "(I)Z"),
  .instanceMethod (MethodName.mk "PostVotesModel" "empty" "(III)I"),
  .instanceMethod (MethodName.mk "PostVotesModel" "sealed" "(II)I"),
  .instanceMethod (MethodName.mk "PostVotesModel" "isSent" "(II)Z"),
  .instanceMethod (MethodName.mk "PostVotesModel" "ask" "(II)V"),
  .instanceMethod (MethodName.mk "PostVotesModel" "dayOf" "(III)I"),
  .instanceMethod (MethodName.mk "PostVotesModel" "eventFor" "(III)I"),
  .instanceMethod (MethodName.mk "PostVotesModel" "emptyingFor" "(II)I"),
  .instanceMethod (MethodName.mk "PostVotesModel" "read" "(II)Z"),
  .instanceMethod (MethodName.mk "PostVotesModel" "hand" "(IIZ)Z"),
  .instanceMethod (MethodName.mk "PostVotesModel" "booth" "(II)Z"),
  .instanceMethod (MethodName.mk "PostVotesModel" "feed" "(IIIII)I"),
  .instanceMethod (MethodName.mk "PostVotesModel" "end" "(I)Z"),
  .instanceMethod (MethodName.mk "PostVotesModel" "fault" "()I"),
  .instanceMethod (MethodName.mk "PostVotesModel" "rule" "()V"),
  .instanceMethod (MethodName.mk "PostVotesModel" "condition" "()V"),
  .instanceMethod (MethodName.mk "PostVotesModel" "part" "()V"),
  .instanceMethod (MethodName.mk "PostVotesModel" "unit" "()V"),
  .instanceMethod (MethodName.mk "PostVotesModel" "look" "()I"),
  .instanceMethod (MethodName.mk "PostVotesModel" "opens" "()Z"),
  .instanceMethod (MethodName.mk "PostVotesModel" "bad" "()V"),
  .instanceMethod (MethodName.mk "PostVotesModel" "say" "(I)V"),
  .instanceMethod (MethodName.mk "PostVotesModel" "closes" "(I)V"),
  .instanceMethod (MethodName.mk "PostVotesModel" "sum" "()V"),
  .instanceMethod (MethodName.mk "PostVotesModel" "term" "()V"),
  .instanceMethod (MethodName.mk "PostVotesModel" "atom" "()V"),
  .instanceMethod (MethodName.mk "PostVotesModel" "number" "()V"),
  .instanceMethod (MethodName.mk "PostVotesModel" "law" "(II)I"),
  .instanceMethod (MethodName.mk "PostVotesModel" "lawful" "(III)I"),
  .instanceMethod (MethodName.mk "PostVotesModel" "lawOn" "(III)I"),
  .instanceMethod (MethodName.mk "PostVotesModel" "thrown" "()I"),
  .instanceMethod (MethodName.mk "PostVotesModel" "letter" "(III)I"),
  .instanceMethod (MethodName.mk "PostVotesModel" "isAsked" "(II)Z"),
  .instanceMethod (MethodName.mk "PostVotesModel" "judge" "(II)V"),
  .instanceMethod (MethodName.mk "PostVotesModel" "line" "(II)V"),
  .instanceMethod (MethodName.mk "PostVotesModel" "comesOn" "(II)I"),
  .instanceMethod (MethodName.mk "PostVotesModel" "judgeOne" "(III)V"),
  .instanceMethod (MethodName.mk "PostVotesModel" "work" "(IIII)I"),
  .instanceMethod (MethodName.mk "PostVotesModel" "letterOf" "(IIII)I"),
  .instanceMethod (MethodName.mk "PostVotesModel" "boothFor" "(II)I"),
  .instanceMethod (MethodName.mk "PostVotesModel" "unlike" "(II)I"),
  .instanceMethod (MethodName.mk "PostVotesModel" "wordsOf" "(III)I"),
  .instanceMethod (MethodName.mk "PostVotesModel" "wordOf" "(III)I"),
  .instanceMethod (MethodName.mk "PostVotesModel" "sentTo" "(II)I"),
  .instanceMethod (MethodName.mk "PostVotesModel" "state" "(II)I"),
  .instanceMethod (MethodName.mk "PostVotesModel" "reason" "(II)I"),
  .instanceMethod (MethodName.mk "PostVotesModel" "ruled" "(II)I"),
  .instanceMethod (MethodName.mk "PostVotesModel" "first" "(II)I"),
  .instanceMethod (MethodName.mk "PostVotesModel" "firstGood" "()I"),
  .instanceMethod (MethodName.mk "PostVotesModel" "doubles" "(I)I"),
  .instanceMethod (MethodName.mk "PostVotesModel" "many" "(III)I"),
  .instanceMethod (MethodName.mk "PostVotesModel" "habit" "(III)I"),
  .instanceMethod (MethodName.mk "PostVotesModel" "meet" "(II)V"),
  .instanceMethod (MethodName.mk "PostVotesModel" "harshest" "()I"),
  .instanceMethod (MethodName.mk "PostVotesModel" "size" "(I)Z"),
  .instanceMethod (MethodName.mk "PostVotesModel" "recheck" "(IIJ)I"),
  .instanceMethod (MethodName.mk "PostVotesModel" "findCounted" "()I"),
  .instanceMethod (MethodName.mk "PostVotesModel" "wave" "(III)I"),
  .instanceMethod (MethodName.mk "PostVotesModel" "press" "(I)Z"),
  .instanceMethod (MethodName.mk "PostVotesModel" "printed" "(I)I"),
  .instanceMethod (MethodName.mk "PostVotesModel" "print" "()V"),
  .instanceMethod (MethodName.mk "PostVotesModel" "nextWave" "(I)I"),
  .instanceMethod (MethodName.mk "PostVotesModel" "latest" "()I"),
  .instanceMethod (MethodName.mk "PostVotesModel" "stand" "(III)Z"),
  .instanceMethod (MethodName.mk "PostVotesModel" "road" "(III)Z"),
  .instanceMethod (MethodName.mk "PostVotesModel" "stops" "(I)Z"),
  .instanceMethod (MethodName.mk "PostVotesModel" "round" "(I)I"),
  .instanceMethod (MethodName.mk "PostVotesModel" "findRound" "(I)Z"),
  .instanceMethod (MethodName.mk "PostVotesModel" "drive" "(III)V"),
  .instanceMethod (MethodName.mk "PostVotesModel" "route" "(II)I"),
  .instanceMethod (MethodName.mk "PostVotesModel" "usual" "(II)I"),
  .instanceMethod (MethodName.mk "PostVotesModel" "usualOf" "(II)I"),
  .instanceMethod (MethodName.mk "PostVotesModel" "ends" "(II)Z"),
  .instanceMethod (MethodName.mk "PostVotesModel" "late" "(I)I"),
  .instanceMethod (MethodName.mk "PostVotesModel" "open" "(I)I"),
  .instanceMethod (MethodName.mk "PostVotesModel" "heap" "(II)I"),
  .instanceMethod (MethodName.mk "PostVotesModel" "street" "(III)I"),
  .instanceMethod (MethodName.mk "PostVotesModel" "count" "(I)I")]
set_option maxRecDepth 100000 in
theorem ge_instanceMethod : tables_1.filter gp_instanceMethod = gc_instanceMethod := by decide +kernel
def gp_lays : Cond → Bool := fun c => match c with | .lays .. => true | _ => false
def gc_lays : List Cond := [.lays "java/util/ArrayList" "java/util/ArrayList" "elementData" "[Ljava/lang/Object;",
  .lays "java/util/ArrayList" "java/util/ArrayList" "size" "I",
  .lays "java/util/ArrayList" "java/util/AbstractList" "modCount" "I",
  .lays "PostVotes$Judge" "PostVotes$Judge" "top" "I",
  .lays "PostVotes$Post" "PostVotes$Post" "moves" "I",
  .lays "PostVotes$Post" "PostVotes$Post" "events" "I",
  .lays "PostVotes$Post" "PostVotes$Post" "signsRead" "I",
  .lays "PostVotes$Post" "PostVotes$Post" "handed" "I",
  .lays "PostVotes$Post" "PostVotes$Post" "booths" "I",
  .lays "PostVotes$Tape" "PostVotes$Tape" "length" "I",
  .lays "PostVotes$Tape" "PostVotes$Tape" "manyWords" "I",
  .lays "PostVotes$Tape" "PostVotes$Tape" "rules" "I",
  .lays "PostVotes$Tape" "PostVotes$Tape" "at" "I",
  .lays "PostVotes$Press" "PostVotes$Press" "waves" "I",
  .lays "PostVotes$Press" "PostVotes$Press" "aDay" "I",
  .lays "PostVotes$Van" "PostVotes$Van" "stop" "I",
  .lays "PostVotes$Van" "PostVotes$Van" "all" "I",
  .lays "PostVotes$Van" "PostVotes$Van" "standing" "I",
  .lays "PostVotes$Van" "PostVotes$Van" "home" "I",
  .lays "PostVotes$Van" "PostVotes$Van" "planned" "I",
  .lays "PostVotes" "PostVotes" "now" "I",
  .lays "PostVotes" "PostVotes" "size" "I",
  .lays "PostVotes$Voter" "PostVotes$Voter" "manySent" "I",
  .lays "PostVotes$Voter" "PostVotes$Voter" "manyGood" "I",
  .lays "PostVotes$Voter" "PostVotes$Voter" "firstGood" "I",
  .lays "PostVotes$Voter" "PostVotes$Voter" "boothDay" "I",
  .lays "PostVotes$Envelope" "PostVotes$Envelope" "heapShire" "I",
  .lays "PostVotes$Envelope" "PostVotes$Envelope" "comes" "I",
  .lays "PostVotes$Envelope" "PostVotes$Envelope" "emptying" "I",
  .lays "PostVotes$Envelope" "PostVotes$Envelope" "goodAhead" "I",
  .lays "PostVotes$Envelope" "PostVotes$Envelope" "state" "I",
  .lays "PostVotes$Envelope" "PostVotes$Envelope" "reason" "I",
  .lays "PostVotes$Envelope" "PostVotes$Envelope" "rule" "I",
  .lays "PostVotes$Heap" "PostVotes$Heap" "all" "I",
  .lays "java/util/NoSuchElementException" "java/lang/Throwable" "cause" "Ljava/lang/Throwable;",
  .lays "java/lang/Throwable" "java/lang/Throwable" "cause" "Ljava/lang/Throwable;",
  .lays "java/util/NoSuchElementException" "java/lang/Throwable" "stackTrace" "[Ljava/lang/StackTraceElement;",
  .lays "java/lang/Throwable" "java/lang/Throwable" "stackTrace" "[Ljava/lang/StackTraceElement;",
  .lays "java/util/NoSuchElementException" "java/lang/Throwable" "suppressedExceptions" "Ljava/util/List;",
  .lays "java/lang/Throwable" "java/lang/Throwable" "suppressedExceptions" "Ljava/util/List;",
  .lays "java/util/NoSuchElementException" "java/lang/Throwable" "detailMessage" "Ljava/lang/String;",
  .lays "java/lang/Throwable" "java/lang/Throwable" "detailMessage" "Ljava/lang/String;",
  .lays "java/util/NoSuchElementException" "java/lang/Throwable" "backtrace" "Ljava/lang/Object;",
  .lays "java/lang/Throwable" "java/lang/Throwable" "backtrace" "Ljava/lang/Object;",
  .lays "java/util/NoSuchElementException" "java/lang/Throwable" "depth" "I",
  .lays "PostVotesModel" "PostVotesModel" "now" "I",
  .lays "PostVotesModel" "PostVotesModel" "voters" "I",
  .lays "PostVotesModel" "PostVotesModel" "moves" "I",
  .lays "PostVotesModel" "PostVotesModel" "envelopes" "I",
  .lays "PostVotesModel" "PostVotesModel" "events" "I",
  .lays "PostVotesModel" "PostVotesModel" "emptyings" "I",
  .lays "PostVotesModel" "PostVotesModel" "reads" "I",
  .lays "PostVotesModel" "PostVotesModel" "tells" "I",
  .lays "PostVotesModel" "PostVotesModel" "booths" "I",
  .lays "PostVotesModel" "PostVotesModel" "laws" "I",
  .lays "PostVotesModel" "PostVotesModel" "waves" "I",
  .lays "PostVotesModel" "PostVotesModel" "heaps" "I",
  .lays "PostVotesModel" "PostVotesModel" "size" "I",
  .lays "PostVotesModel" "PostVotesModel" "comes" "I",
  .lays "PostVotesModel" "PostVotesModel" "byEmptying" "I",
  .lays "PostVotesModel" "PostVotesModel" "tapeSize" "I",
  .lays "PostVotesModel" "PostVotesModel" "at" "I",
  .lays "PostVotesModel" "PostVotesModel" "wrong" "I",
  .lays "PostVotesModel" "PostVotesModel" "deep" "I",
  .lays "PostVotesModel" "PostVotesModel" "said" "I",
  .lays "PostVotesModel" "PostVotesModel" "ruleMany" "I",
  .lays "PostVotesModel" "PostVotesModel" "place" "I",
  .lays "PostVotesModel" "PostVotesModel" "rowMany" "I",
  .lays "PostVotesModel" "PostVotesModel" "thrown" "I",
  .lays "PostVotesModel" "PostVotesModel" "pairs" "I",
  .lays "PostVotesModel" "PostVotesModel" "harsh" "I",
  .lays "PostVotesModel" "PostVotesModel" "soft" "I",
  .lays "PostVotesModel" "PostVotesModel" "press" "I",
  .lays "PostVotesModel" "PostVotesModel" "stop" "I",
  .lays "PostVotesModel" "PostVotesModel" "bestHome" "I",
  .lays "PostVotesModel" "PostVotesModel" "tripMany" "I"]
set_option maxRecDepth 100000 in
theorem ge_lays : tables_1.filter gp_lays = gc_lays := by decide +kernel
def gp_laysFinal : Cond → Bool := fun c => match c with | .laysFinal .. => true | _ => false
def gc_laysFinal : List Cond := [.laysFinal "PostVotes$Judge" "PostVotes$Judge" "laws" "Ljava/util/ArrayList;",
  .laysFinal "PostVotes$Judge" "PostVotes$Judge" "stack" "[I",
  .laysFinal "PostVotes$Post" "PostVotes$Post" "voters" "Ljava/util/ArrayList;",
  .laysFinal "PostVotes$Post" "PostVotes$Post" "envelopes" "Ljava/util/ArrayList;",
  .laysFinal "PostVotes$Post" "PostVotes$Post" "emptyings" "Ljava/util/ArrayList;",
  .laysFinal "PostVotes$Post" "PostVotes$Post" "judge" "LPostVotes$Judge;",
  .laysFinal "PostVotes$Post" "PostVotes$Post" "coming" "Ljava/util/ArrayList;",
  .laysFinal "PostVotes$Tape" "PostVotes$Tape" "text" "[I",
  .laysFinal "PostVotes$Tape" "PostVotes$Tape" "words" "[I",
  .laysFinal "PostVotes$Tape" "PostVotes$Tape" "bounds" "[I",
  .laysFinal "PostVotes$Tape" "PostVotes$Tape" "verdicts" "[I",
  .laysFinal "PostVotes$Press" "PostVotes$Press" "many" "[I",
  .laysFinal "PostVotes$Press" "PostVotes$Press" "ready" "[I",
  .laysFinal "PostVotes$Press" "PostVotes$Press" "due" "[I",
  .laysFinal "PostVotes$Press" "PostVotes$Press" "left" "[I",
  .laysFinal "PostVotes$Press" "PostVotes$Press" "end" "[I",
  .laysFinal "PostVotes$Van" "PostVotes$Van" "from" "[I",
  .laysFinal "PostVotes$Van" "PostVotes$Van" "to" "[I",
  .laysFinal "PostVotes$Van" "PostVotes$Van" "roads" "[I",
  .laysFinal "PostVotes$Van" "PostVotes$Van" "soonest" "[I",
  .laysFinal "PostVotes$Van" "PostVotes$Van" "path" "[I",
  .laysFinal "PostVotes$Van" "PostVotes$Van" "best" "[I",
  .laysFinal "PostVotes" "PostVotes" "post" "LPostVotes$Post;",
  .laysFinal "PostVotes" "PostVotes" "tape" "LPostVotes$Tape;",
  .laysFinal "PostVotes" "PostVotes" "printer" "LPostVotes$Press;",
  .laysFinal "PostVotes" "PostVotes" "van" "LPostVotes$Van;",
  .laysFinal "PostVotes" "PostVotes" "heaps" "Ljava/util/ArrayList;",
  .laysFinal "PostVotes" "PostVotes" "ends" "[I",
  .laysFinal "PostVotes" "PostVotes" "took" "[I",
  .laysFinal "PostVotes" "PostVotes" "row" "[I",
  .laysFinal "PostVotes$Voter" "PostVotes$Voter" "shire" "I",
  .laysFinal "PostVotes$Voter" "PostVotes$Voter" "street" "I",
  .laysFinal "PostVotes$Voter" "PostVotes$Voter" "sign" "I",
  .laysFinal "PostVotes$Voter" "PostVotes$Voter" "log" "Ljava/util/ArrayList;",
  .laysFinal "PostVotes$Voter" "PostVotes$Voter" "envelopes" "Ljava/util/ArrayList;",
  .laysFinal "PostVotes$Told" "PostVotes$Told" "kind" "I",
  .laysFinal "PostVotes$Told" "PostVotes$Told" "day" "I",
  .laysFinal "PostVotes$Told" "PostVotes$Told" "value" "I",
  .laysFinal "PostVotes$Told" "PostVotes$Told" "told" "I",
  .laysFinal "PostVotes$Envelope" "PostVotes$Envelope" "number" "I",
  .laysFinal "PostVotes$Envelope" "PostVotes$Envelope" "voter" "LPostVotes$Voter;",
  .laysFinal "PostVotes$Envelope" "PostVotes$Envelope" "sent" "I",
  .laysFinal "PostVotes$Envelope" "PostVotes$Envelope" "choice" "I",
  .laysFinal "PostVotes$Envelope" "PostVotes$Envelope" "told" "I",
  .laysFinal "PostVotes$Envelope" "PostVotes$Envelope" "log" "Ljava/util/ArrayList;",
  .laysFinal "PostVotes$Envelope" "PostVotes$Envelope" "days" "[I",
  .laysFinal "PostVotes$Envelope" "PostVotes$Envelope" "values" "[I",
  .laysFinal "PostVotes$Law" "PostVotes$Law" "shire" "I",
  .laysFinal "PostVotes$Law" "PostVotes$Law" "day" "I",
  .laysFinal "PostVotes$Law" "PostVotes$Law" "told" "I",
  .laysFinal "PostVotes$Law" "PostVotes$Law" "rules" "I",
  .laysFinal "PostVotes$Law" "PostVotes$Law" "words" "[I",
  .laysFinal "PostVotes$Law" "PostVotes$Law" "bounds" "[I",
  .laysFinal "PostVotes$Law" "PostVotes$Law" "verdicts" "[I",
  .laysFinal "PostVotes$Heap" "PostVotes$Heap" "shire" "I",
  .laysFinal "PostVotes$Heap" "PostVotes$Heap" "day" "I",
  .laysFinal "PostVotes$Heap" "PostVotes$Heap" "choices" "[I",
  .laysFinal "PostVotesModel" "PostVotesModel" "shireOf" "[I",
  .laysFinal "PostVotesModel" "PostVotesModel" "streetOf" "[I",
  .laysFinal "PostVotesModel" "PostVotesModel" "signOf" "[I",
  .laysFinal "PostVotesModel" "PostVotesModel" "moveOf" "[I",
  .laysFinal "PostVotesModel" "PostVotesModel" "moveTo" "[I",
  .laysFinal "PostVotesModel" "PostVotesModel" "moveDay" "[I",
  .laysFinal "PostVotesModel" "PostVotesModel" "moveTold" "[I",
  .laysFinal "PostVotesModel" "PostVotesModel" "voterOf" "[I",
  .laysFinal "PostVotesModel" "PostVotesModel" "sentOn" "[I",
  .laysFinal "PostVotesModel" "PostVotesModel" "sentTold" "[I",
  .laysFinal "PostVotesModel" "PostVotesModel" "choiceOf" "[I",
  .laysFinal "PostVotesModel" "PostVotesModel" "eventOf" "[I",
  .laysFinal "PostVotesModel" "PostVotesModel" "eventKind" "[I",
  .laysFinal "PostVotesModel" "PostVotesModel" "eventDay" "[I",
  .laysFinal "PostVotesModel" "PostVotesModel" "eventBox" "[I",
  .laysFinal "PostVotesModel" "PostVotesModel" "eventTold" "[I",
  .laysFinal "PostVotesModel" "PostVotesModel" "emptyBox" "[I",
  .laysFinal "PostVotesModel" "PostVotesModel" "emptyDay" "[I",
  .laysFinal "PostVotesModel" "PostVotesModel" "emptyMany" "[I",
  .laysFinal "PostVotesModel" "PostVotesModel" "emptyTold" "[I",
  .laysFinal "PostVotesModel" "PostVotesModel" "readOf" "[I",
  .laysFinal "PostVotesModel" "PostVotesModel" "readSign" "[I",
  .laysFinal "PostVotesModel" "PostVotesModel" "readTold" "[I",
  .laysFinal "PostVotesModel" "PostVotesModel" "tellOf" "[I",
  .laysFinal "PostVotesModel" "PostVotesModel" "tellHand" "[I",
  .laysFinal "PostVotesModel" "PostVotesModel" "tellTold" "[I",
  .laysFinal "PostVotesModel" "PostVotesModel" "tellYes" "[Z",
  .laysFinal "PostVotesModel" "PostVotesModel" "boothOf" "[I",
  .laysFinal "PostVotesModel" "PostVotesModel" "boothDay" "[I",
  .laysFinal "PostVotesModel" "PostVotesModel" "boothTold" "[I",
  .laysFinal "PostVotesModel" "PostVotesModel" "tape" "[I",
  .laysFinal "PostVotesModel" "PostVotesModel" "codes" "[I",
  .laysFinal "PostVotesModel" "PostVotesModel" "saying" "[I",
  .laysFinal "PostVotesModel" "PostVotesModel" "lawShire" "[I",
  .laysFinal "PostVotesModel" "PostVotesModel" "lawDay" "[I",
  .laysFinal "PostVotesModel" "PostVotesModel" "lawTold" "[I",
  .laysFinal "PostVotesModel" "PostVotesModel" "lawRules" "[I",
  .laysFinal "PostVotesModel" "PostVotesModel" "pile" "[I",
  .laysFinal "PostVotesModel" "PostVotesModel" "states" "[I",
  .laysFinal "PostVotesModel" "PostVotesModel" "reasons" "[I",
  .laysFinal "PostVotesModel" "PostVotesModel" "rules" "[I",
  .laysFinal "PostVotesModel" "PostVotesModel" "goodAhead" "[I",
  .laysFinal "PostVotesModel" "PostVotesModel" "dayFor" "[I",
  .laysFinal "PostVotesModel" "PostVotesModel" "row" "[I",
  .laysFinal "PostVotesModel" "PostVotesModel" "counted" "[Z",
  .laysFinal "PostVotesModel" "PostVotesModel" "countedShire" "[I",
  .laysFinal "PostVotesModel" "PostVotesModel" "lots" "[I",
  .laysFinal "PostVotesModel" "PostVotesModel" "waveMany" "[I",
  .laysFinal "PostVotesModel" "PostVotesModel" "waveReady" "[I",
  .laysFinal "PostVotesModel" "PostVotesModel" "waveDue" "[I",
  .laysFinal "PostVotesModel" "PostVotesModel" "waveLeft" "[I",
  .laysFinal "PostVotesModel" "PostVotesModel" "waveEnd" "[I",
  .laysFinal "PostVotesModel" "PostVotesModel" "roads" "[I",
  .laysFinal "PostVotesModel" "PostVotesModel" "stands" "[Z",
  .laysFinal "PostVotesModel" "PostVotesModel" "openFrom" "[I",
  .laysFinal "PostVotesModel" "PostVotesModel" "openTo" "[I",
  .laysFinal "PostVotesModel" "PostVotesModel" "been" "[Z",
  .laysFinal "PostVotesModel" "PostVotesModel" "trip" "[I",
  .laysFinal "PostVotesModel" "PostVotesModel" "bestTrip" "[I",
  .laysFinal "PostVotesModel" "PostVotesModel" "lastDay" "[I",
  .laysFinal "PostVotesModel" "PostVotesModel" "took" "[I",
  .laysFinal "PostVotesModel" "PostVotesModel" "heapOf" "[I",
  .laysFinal "PostVotesModel" "PostVotesModel" "heapShire" "[I",
  .laysFinal "PostVotesModel" "PostVotesModel" "heapDay" "[I"]
set_option maxRecDepth 100000 in
theorem ge_laysFinal : tables_1.filter gp_laysFinal = gc_laysFinal := by decide +kernel
def gp_static : Cond → Bool := fun c => match c with | .static .. => true | _ => false
def gc_static : List Cond := [.static (MethodName.mk "java/util/Arrays" "fill" "([II)V"),
  .static (MethodName.mk "PostVotes" "isWithin" "(III)Z"),
  .static (MethodName.mk "PostVotes" "isShire" "(I)Z"),
  .static (MethodName.mk "PostVotes" "isStreet" "(I)Z"),
  .static (MethodName.mk "PostVotes" "isSign" "(I)Z"),
  .static (MethodName.mk "jdk/internal/util/ArraysSupport" "newLength" "(III)I"),
  .static (MethodName.mk "java/lang/Math" "max" "(II)I"),
  .static (MethodName.mk "jdk/internal/util/ArraysSupport" "hugeLength" "(II)I"),
  .static (MethodName.mk "java/util/Arrays" "copyOf" "([Ljava/lang/Object;I)[Ljava/lang/Object;"),
  .static (MethodName.mk "java/util/Arrays" "copyOf" "([Ljava/lang/Object;ILjava/lang/Class;)[Ljava/lang/Object;"),
  .static (MethodName.mk "java/lang/Math" "min" "(II)I"),
  .static (MethodName.mk "java/lang/System" "arraycopy" "(Ljava/lang/Object;ILjava/lang/Object;II)V"),
  .static (MethodName.mk "java/util/Objects" "checkIndex" "(II)I"),
  .static (MethodName.mk "jdk/internal/util/Preconditions" "checkIndex" "(IILjava/util/function/BiFunction;)I"),
  .static (MethodName.mk "PostVotes" "isDay" "(I)Z"),
  .static (MethodName.mk "PostVotes" "isChoice" "(I)Z"),
  .static (MethodName.mk "PostVotes" "isBox" "(I)Z"),
  .static (MethodName.mk "PostVotes" "isHand" "(I)Z"),
  .static (MethodName.mk "PostVotes" "signsIn" "(I)I"),
  .static (MethodName.mk "PostVotes" "isLetter" "(I)Z"),
  .static (MethodName.mk "java/lang/StringLatin1" "indexOf" "([BIII)I"),
  .static (MethodName.mk "java/lang/StringLatin1" "canEncode" "(I)Z"),
  .static (MethodName.mk "java/lang/StringLatin1" "indexOfChar" "([BIII)I"),
  .static (MethodName.mk "java/lang/StringUTF16" "indexOf" "([BIII)I"),
  .static (MethodName.mk "java/lang/StringUTF16" "indexOfChar" "([BIII)I"),
  .static (MethodName.mk "java/lang/StringUTF16" "checkBoundsBeginEnd" "(II[B)V"),
  .static (MethodName.mk "java/lang/StringUTF16" "length" "([B)I"),
  .static (MethodName.mk "java/lang/String" "checkBoundsBeginEnd" "(III)V"),
  .static (MethodName.mk "jdk/internal/util/Preconditions" "checkFromToIndex" "(IIILjava/util/function/BiFunction;)I"),
  .static (MethodName.mk "java/lang/StringUTF16" "indexOfCharUnsafe" "([BIII)I"),
  .static (MethodName.mk "java/lang/StringUTF16" "getChar" "([BI)C"),
  .static (MethodName.mk "java/lang/StringUTF16" "indexOfSupplementary" "([BIII)I"),
  .static (MethodName.mk "java/lang/Character" "isValidCodePoint" "(I)Z"),
  .static (MethodName.mk "java/lang/Character" "highSurrogate" "(I)C"),
  .static (MethodName.mk "java/lang/Character" "lowSurrogate" "(I)C"),
  .static (MethodName.mk "java/util/Arrays" "copyOf" "([II)[I"),
  .static (MethodName.mk "PostVotes$Judge" "joined" "(III)I"),
  .static (MethodName.mk "PostVotes$Judge" "bounded" "(J)I"),
  .static (MethodName.mk "java/lang/Math" "min" "(JJ)J"),
  .static (MethodName.mk "java/lang/Math" "max" "(JJ)J"),
  .static (MethodName.mk "PostVotes" "isMinute" "(I)Z"),
  .static (MethodName.mk "PostVotes$Van" "goOn" "(LPostVotes$Van;IIII)V"),
  .static (MethodName.mk "PostVotesLaw" "letter" "(LPostVotes;III[J)I"),
  .static (MethodName.mk "PostVotesModel" "in" "(III)Z"),
  .static (MethodName.mk "PostVotesModel" "isShire" "(I)Z"),
  .static (MethodName.mk "PostVotesModel" "byteOf" "(IIIIII)I"),
  .static (MethodName.mk "PostVotesModel" "isLetter" "(I)Z"),
  .static (MethodName.mk "PostVotesModel" "isDigit" "(I)Z"),
  .static (MethodName.mk "PostVotesModel" "bounded" "(J)I"),
  .static (MethodName.mk "PostVotesModel" "both" "(III)I")]
set_option maxRecDepth 100000 in
theorem ge_static : tables_1.filter gp_static = gc_static := by decide +kernel
def gp_initialized : Cond → Bool := fun c => match c with | .initialized .. => true | _ => false
def gc_initialized : List Cond := [.initialized "PostVotesLaw",
  .initialized "PostVotes",
  .initialized "PostVotes$Post",
  .initialized "java/util/AbstractCollection",
  .initialized "java/util/AbstractList",
  .initialized "java/util/ArrayList",
  .initialized "PostVotes$Judge",
  .initialized "PostVotes$Tape",
  .initialized "PostVotes$Press",
  .initialized "PostVotes$Van",
  .initialized "java/util/Arrays",
  .initialized "PostVotesModel",
  .initialized "PostVotes$Voter",
  .initialized "jdk/internal/util/ArraysSupport",
  .initialized "java/lang/Math",
  .initialized "java/lang/System",
  .initialized "java/util/Objects",
  .initialized "jdk/internal/util/Preconditions",
  .initialized "PostVotes$Told",
  .initialized "PostVotes$Envelope",
  .initialized "java/lang/String",
  .initialized "java/lang/StringLatin1",
  .initialized "java/lang/StringUTF16",
  .initialized "java/lang/Character",
  .initialized "PostVotes$Law",
  .initialized "java/lang/Throwable",
  .initialized "java/lang/Exception",
  .initialized "java/lang/RuntimeException",
  .initialized "java/util/NoSuchElementException",
  .initialized "PostVotes$Heap"]
set_option maxRecDepth 100000 in
theorem ge_initialized : tables_1.filter gp_initialized = gc_initialized := by decide +kernel
def gp_classLink : Cond → Bool := fun c => match c with | .classLink .. => true | _ => false
def gc_classLink : List Cond := [.classLink "PostVotesLaw" 8 "PostVotes",
  .classLink "PostVotes" 13 "PostVotes$Post",
  .classLink "PostVotes$Post" 9 "java/util/ArrayList",
  .classLink "PostVotes$Post" 24 "PostVotes$Judge",
  .classLink "PostVotes$Judge" 9 "java/util/ArrayList",
  .classLink "PostVotes" 20 "PostVotes$Tape",
  .classLink "PostVotes" 27 "PostVotes$Press",
  .classLink "PostVotes" 34 "PostVotes$Van",
  .classLink "PostVotes" 41 "java/util/ArrayList",
  .classLink "PostVotes" 87 "PostVotes$Voter",
  .classLink "PostVotes$Voter" 9 "java/util/ArrayList",
  .classLink "java/util/Arrays" 110 "[Ljava/lang/Object;",
  .classLink "java/util/Arrays" 2 "java/lang/Object",
  .classLink "java/util/ArrayList" 7 "java/lang/Object",
  .classLink "PostVotes$Post" 46 "PostVotes$Voter",
  .classLink "PostVotes" 109 "PostVotes$Told",
  .classLink "PostVotes$Voter" 45 "PostVotes$Told",
  .classLink "PostVotes" 127 "PostVotes$Envelope",
  .classLink "PostVotes$Envelope" 9 "java/util/ArrayList",
  .classLink "PostVotes$Post" 48 "PostVotes$Envelope",
  .classLink "PostVotes$Envelope" 80 "PostVotes$Told",
  .classLink "PostVotes$Post" 69 "PostVotes$Told",
  .classLink "PostVotes" 195 "PostVotes$Law",
  .classLink "java/util/Arrays" 317 "[I",
  .classLink "PostVotes$Judge" 30 "PostVotes$Law",
  .classLink "PostVotes" 327 "PostVotes$Heap",
  .classLink "PostVotesLaw" 13 "java/util/NoSuchElementException",
  .classLink "PostVotes" 211 "java/util/NoSuchElementException",
  .classLink "PostVotesLaw" 16 "PostVotesModel"]
set_option maxRecDepth 100000 in
theorem ge_classLink : tables_1.filter gp_classLink = gc_classLink := by decide +kernel
def gp_instantiable : Cond → Bool := fun c => match c with | .instantiable .. => true | _ => false
def gc_instantiable : List Cond := [.instantiable "PostVotes" 10,
  .instantiable "PostVotes$Post" 10,
  .instantiable "java/util/ArrayList" 3,
  .instantiable "PostVotes$Judge" 3,
  .instantiable "PostVotes$Tape" 8,
  .instantiable "PostVotes$Press" 7,
  .instantiable "PostVotes$Van" 11,
  .instantiable "PostVotes$Voter" 9,
  .instantiable "PostVotes$Told" 4,
  .instantiable "PostVotes$Envelope" 15,
  .instantiable "PostVotes$Law" 7,
  .instantiable "PostVotes$Heap" 4,
  .instantiable "java/util/NoSuchElementException" 6,
  .instantiable "java/lang/Throwable" 6,
  .instantiable "PostVotesModel" 95]
set_option maxRecDepth 100000 in
theorem ge_instantiable : tables_1.filter gp_instantiable = gc_instantiable := by decide +kernel
def gp_constant : Cond → Bool := fun c => match c with | .constant .. => true | _ => false
def gc_constant : List Cond := [.constant "PostVotes" 360 (99999999),
  .constant "jdk/internal/util/ArraysSupport" 200 (2147483639),
  .constant "java/lang/StringUTF16" 227 (65536),
  .constant "java/lang/Character" 110 (55232),
  .constant "java/lang/Character" 76 (56320),
  .constant "PostVotes$Van" 60 (1000000),
  .constant "PostVotesModel" 227 (99999999)]
set_option maxRecDepth 100000 in
theorem ge_constant : tables_1.filter gp_constant = gc_constant := by decide +kernel
def gp_constantLong : Cond → Bool := fun c => match c with | .constantLong .. => true | _ => false
def gc_constantLong : List Cond := [.constantLong "PostVotes$Judge" 122 (-1000000),
  .constantLong "PostVotes$Judge" 124 (1000000),
  .constantLong "PostVotes" 257 (6364136223846793005),
  .constantLong "PostVotes" 259 (1442695040888963407),
  .constantLong "PostVotesModel" 388 (-1000000),
  .constantLong "PostVotesModel" 390 (1000000),
  .constantLong "PostVotesModel" 455 (6364136223846793005),
  .constantLong "PostVotesModel" 457 (1442695040888963407),
  .constantLong "PostVotesLaw" 137 (4294967295)]
set_option maxRecDepth 100000 in
theorem ge_constantLong : tables_1.filter gp_constantLong = gc_constantLong := by decide +kernel
def gp_castable : Cond → Bool := fun c => match c with | .castable .. => true | _ => false
def gc_castable : List Cond := [.castable "[I" "java/lang/Cloneable",
  .castable "java/util/NoSuchElementException" "java/util/NoSuchElementException",
  .castable "PostVotes" "java/lang/Object",
  .castable "PostVotes$Post" "java/lang/Object",
  .castable "java/util/ArrayList" "java/lang/Object",
  .castable "PostVotes$Judge" "java/lang/Object",
  .castable "PostVotes$Tape" "java/lang/Object",
  .castable "PostVotes$Press" "java/lang/Object",
  .castable "PostVotes$Van" "java/lang/Object",
  .castable "PostVotesModel" "java/lang/Object",
  .castable "PostVotes$Voter" "java/lang/Object",
  .castable "PostVotes$Told" "java/lang/Object",
  .castable "PostVotes$Envelope" "java/lang/Object",
  .castable "PostVotes$Law" "java/lang/Object",
  .castable "java/util/NoSuchElementException" "java/lang/Object",
  .castable "PostVotes$Heap" "java/lang/Object",
  .castable "java/lang/Throwable" "java/lang/Object",
  .castable "java/lang/String" "java/lang/Object",
  .castable "[I" "java/lang/Object",
  .castable "[Ljava/lang/Object;" "java/lang/Object",
  .castable "[B" "java/lang/Object",
  .castable "[Z" "java/lang/Object",
  .castable "[J" "java/lang/Object"]
set_option maxRecDepth 100000 in
theorem ge_castable : tables_1.filter gp_castable = gc_castable := by decide +kernel
def gp_arrayClass : Cond → Bool := fun c => match c with | .arrayClass .. => true | _ => false
def gc_arrayClass : List Cond := [.arrayClass FieldType.int,
  .arrayClass FieldType.byte,
  .arrayClass FieldType.boolean,
  .arrayClass FieldType.long]
set_option maxRecDepth 100000 in
theorem ge_arrayClass : tables_1.filter gp_arrayClass = gc_arrayClass := by decide +kernel
def gp_selects : Cond → Bool := fun c => match c with | .selects .. => true | _ => false
def gc_selects : List Cond := [.selects "PostVotes" (MethodName.mk "PostVotes" "days" "(I)I") (MethodName.mk "PostVotes" "days" "(I)I"),
  .selects "PostVotes" (MethodName.mk "PostVotes" "voter" "(III)I") (MethodName.mk "PostVotes" "voter" "(III)I"),
  .selects "java/util/ArrayList" (MethodName.mk "java/util/ArrayList" "size" "()I") (MethodName.mk "java/util/ArrayList" "size" "()I"),
  .selects "java/util/ArrayList" (MethodName.mk "java/util/ArrayList" "add" "(Ljava/lang/Object;)Z") (MethodName.mk "java/util/ArrayList" "add" "(Ljava/lang/Object;)Z"),
  .selects "PostVotes" (MethodName.mk "java/lang/Object" "getClass" "()Ljava/lang/Class;") (MethodName.mk "java/lang/Object" "getClass" "()Ljava/lang/Class;"),
  .selects "PostVotes$Envelope" (MethodName.mk "java/lang/Object" "getClass" "()Ljava/lang/Class;") (MethodName.mk "java/lang/Object" "getClass" "()Ljava/lang/Class;"),
  .selects "PostVotes$Heap" (MethodName.mk "java/lang/Object" "getClass" "()Ljava/lang/Class;") (MethodName.mk "java/lang/Object" "getClass" "()Ljava/lang/Class;"),
  .selects "PostVotes$Judge" (MethodName.mk "java/lang/Object" "getClass" "()Ljava/lang/Class;") (MethodName.mk "java/lang/Object" "getClass" "()Ljava/lang/Class;"),
  .selects "PostVotes$Law" (MethodName.mk "java/lang/Object" "getClass" "()Ljava/lang/Class;") (MethodName.mk "java/lang/Object" "getClass" "()Ljava/lang/Class;"),
  .selects "PostVotes$Post" (MethodName.mk "java/lang/Object" "getClass" "()Ljava/lang/Class;") (MethodName.mk "java/lang/Object" "getClass" "()Ljava/lang/Class;"),
  .selects "PostVotes$Press" (MethodName.mk "java/lang/Object" "getClass" "()Ljava/lang/Class;") (MethodName.mk "java/lang/Object" "getClass" "()Ljava/lang/Class;"),
  .selects "PostVotes$Tape" (MethodName.mk "java/lang/Object" "getClass" "()Ljava/lang/Class;") (MethodName.mk "java/lang/Object" "getClass" "()Ljava/lang/Class;"),
  .selects "PostVotes$Told" (MethodName.mk "java/lang/Object" "getClass" "()Ljava/lang/Class;") (MethodName.mk "java/lang/Object" "getClass" "()Ljava/lang/Class;"),
  .selects "PostVotes$Van" (MethodName.mk "java/lang/Object" "getClass" "()Ljava/lang/Class;") (MethodName.mk "java/lang/Object" "getClass" "()Ljava/lang/Class;"),
  .selects "PostVotes$Voter" (MethodName.mk "java/lang/Object" "getClass" "()Ljava/lang/Class;") (MethodName.mk "java/lang/Object" "getClass" "()Ljava/lang/Class;"),
  .selects "PostVotesModel" (MethodName.mk "java/lang/Object" "getClass" "()Ljava/lang/Class;") (MethodName.mk "java/lang/Object" "getClass" "()Ljava/lang/Class;"),
  .selects "java/util/ArrayList" (MethodName.mk "java/lang/Object" "getClass" "()Ljava/lang/Class;") (MethodName.mk "java/lang/Object" "getClass" "()Ljava/lang/Class;"),
  .selects "java/util/NoSuchElementException" (MethodName.mk "java/lang/Object" "getClass" "()Ljava/lang/Class;") (MethodName.mk "java/lang/Object" "getClass" "()Ljava/lang/Class;"),
  .selects "PostVotes" (MethodName.mk "PostVotes" "move" "(III)Z") (MethodName.mk "PostVotes" "move" "(III)Z"),
  .selects "PostVotes$Post" (MethodName.mk "PostVotes$Post" "voterAt" "(I)LPostVotes$Voter;") (MethodName.mk "PostVotes$Post" "voterAt" "(I)LPostVotes$Voter;"),
  .selects "java/util/ArrayList" (MethodName.mk "java/util/ArrayList" "get" "(I)Ljava/lang/Object;") (MethodName.mk "java/util/ArrayList" "get" "(I)Ljava/lang/Object;"),
  .selects "java/util/ArrayList" (MethodName.mk "java/util/ArrayList" "elementData" "(I)Ljava/lang/Object;") (MethodName.mk "java/util/ArrayList" "elementData" "(I)Ljava/lang/Object;"),
  .selects "PostVotes" (MethodName.mk "PostVotes" "shire" "(III)I") (MethodName.mk "PostVotes" "shire" "(III)I"),
  .selects "PostVotes$Voter" (MethodName.mk "PostVotes$Voter" "shireOn" "(II)I") (MethodName.mk "PostVotes$Voter" "shireOn" "(II)I"),
  .selects "PostVotes" (MethodName.mk "PostVotes" "send" "(III)I") (MethodName.mk "PostVotes" "send" "(III)I"),
  .selects "PostVotes" (MethodName.mk "PostVotes" "event" "(IIII)Z") (MethodName.mk "PostVotes" "event" "(IIII)Z"),
  .selects "PostVotes$Post" (MethodName.mk "PostVotes$Post" "envelopeAt" "(I)LPostVotes$Envelope;") (MethodName.mk "PostVotes$Post" "envelopeAt" "(I)LPostVotes$Envelope;"),
  .selects "PostVotes" (MethodName.mk "PostVotes" "empty" "(III)I") (MethodName.mk "PostVotes" "empty" "(III)I"),
  .selects "PostVotes" (MethodName.mk "PostVotes" "sealed" "(II)I") (MethodName.mk "PostVotes" "sealed" "(II)I"),
  .selects "PostVotes$Post" (MethodName.mk "PostVotes$Post" "manyBy" "(II)I") (MethodName.mk "PostVotes$Post" "manyBy" "(II)I"),
  .selects "PostVotes$Post" (MethodName.mk "PostVotes$Post" "settle" "(LPostVotes$Envelope;I)V") (MethodName.mk "PostVotes$Post" "settle" "(LPostVotes$Envelope;I)V"),
  .selects "PostVotes$Envelope" (MethodName.mk "PostVotes$Envelope" "learn" "(I)V") (MethodName.mk "PostVotes$Envelope" "learn" "(I)V"),
  .selects "PostVotes$Envelope" (MethodName.mk "PostVotes$Envelope" "forget" "()V") (MethodName.mk "PostVotes$Envelope" "forget" "()V"),
  .selects "PostVotes$Post" (MethodName.mk "PostVotes$Post" "firstEmptying" "(III)I") (MethodName.mk "PostVotes$Post" "firstEmptying" "(III)I"),
  .selects "PostVotes" (MethodName.mk "PostVotes" "read" "(II)Z") (MethodName.mk "PostVotes" "read" "(II)Z"),
  .selects "PostVotes" (MethodName.mk "PostVotes" "hand" "(IIZ)Z") (MethodName.mk "PostVotes" "hand" "(IIZ)Z"),
  .selects "PostVotes" (MethodName.mk "PostVotes" "booth" "(II)Z") (MethodName.mk "PostVotes" "booth" "(II)Z"),
  .selects "PostVotes" (MethodName.mk "PostVotes" "feed" "(IIIII)I") (MethodName.mk "PostVotes" "feed" "(IIIII)I"),
  .selects "PostVotes$Tape" (MethodName.mk "PostVotes$Tape" "take4" "(I)V") (MethodName.mk "PostVotes$Tape" "take4" "(I)V"),
  .selects "PostVotes" (MethodName.mk "PostVotes" "end" "(I)Z") (MethodName.mk "PostVotes" "end" "(I)Z"),
  .selects "PostVotes" (MethodName.mk "PostVotes" "fault" "()I") (MethodName.mk "PostVotes" "fault" "()I"),
  .selects "PostVotes$Tape" (MethodName.mk "PostVotes$Tape" "firstFault" "()I") (MethodName.mk "PostVotes$Tape" "firstFault" "()I"),
  .selects "PostVotes$Tape" (MethodName.mk "PostVotes$Tape" "readRule" "()Z") (MethodName.mk "PostVotes$Tape" "readRule" "()Z"),
  .selects "PostVotes$Tape" (MethodName.mk "PostVotes$Tape" "nextSign" "()I") (MethodName.mk "PostVotes$Tape" "nextSign" "()I"),
  .selects "PostVotes$Tape" (MethodName.mk "PostVotes$Tape" "readComparison" "(I)Z") (MethodName.mk "PostVotes$Tape" "readComparison" "(I)Z"),
  .selects "java/lang/String" (MethodName.mk "java/lang/String" "indexOf" "(I)I") (MethodName.mk "java/lang/String" "indexOf" "(I)I"),
  .selects "java/lang/String" (MethodName.mk "java/lang/String" "indexOf" "(II)I") (MethodName.mk "java/lang/String" "indexOf" "(II)I"),
  .selects "java/lang/String" (MethodName.mk "java/lang/String" "isLatin1" "()Z") (MethodName.mk "java/lang/String" "isLatin1" "()Z"),
  .selects "java/lang/String" (MethodName.mk "java/lang/String" "length" "()I") (MethodName.mk "java/lang/String" "length" "()I"),
  .selects "java/lang/String" (MethodName.mk "java/lang/String" "coder" "()B") (MethodName.mk "java/lang/String" "coder" "()B"),
  .selects "PostVotes$Tape" (MethodName.mk "PostVotes$Tape" "write" "(I)V") (MethodName.mk "PostVotes$Tape" "write" "(I)V"),
  .selects "PostVotes$Tape" (MethodName.mk "PostVotes$Tape" "readNumber" "()Z") (MethodName.mk "PostVotes$Tape" "readNumber" "()Z"),
  .selects "PostVotes$Tape" (MethodName.mk "PostVotes$Tape" "takes" "(I)Z") (MethodName.mk "PostVotes$Tape" "takes" "(I)Z"),
  .selects "PostVotes$Tape" (MethodName.mk "PostVotes$Tape" "readVerdict" "()Z") (MethodName.mk "PostVotes$Tape" "readVerdict" "()Z"),
  .selects "PostVotes" (MethodName.mk "PostVotes" "law" "(II)I") (MethodName.mk "PostVotes" "law" "(II)I"),
  .selects "[I" (MethodName.mk "[I" "clone" "()Ljava/lang/Object;") (MethodName.mk "java/lang/Object" "clone" "()Ljava/lang/Object;"),
  .selects "PostVotes" (MethodName.mk "PostVotes" "lawful" "(III)I") (MethodName.mk "PostVotes" "lawful" "(III)I"),
  .selects "PostVotes$Judge" (MethodName.mk "PostVotes$Judge" "inForce" "(III)I") (MethodName.mk "PostVotes$Judge" "inForce" "(III)I"),
  .selects "PostVotes" (MethodName.mk "PostVotes" "state" "(II)I") (MethodName.mk "PostVotes" "state" "(II)I"),
  .selects "PostVotes$Post" (MethodName.mk "PostVotes$Post" "judgeOf" "(LPostVotes$Voter;I)V") (MethodName.mk "PostVotes$Post" "judgeOf" "(LPostVotes$Voter;I)V"),
  .selects "PostVotes$Voter" (MethodName.mk "PostVotes$Voter" "learn" "(I)V") (MethodName.mk "PostVotes$Voter" "learn" "(I)V"),
  .selects "java/util/ArrayList" (MethodName.mk "java/util/ArrayList" "clear" "()V") (MethodName.mk "java/util/ArrayList" "clear" "()V"),
  .selects "PostVotes$Post" (MethodName.mk "PostVotes$Post" "putInOrder" "(LPostVotes$Envelope;)V") (MethodName.mk "PostVotes$Post" "putInOrder" "(LPostVotes$Envelope;)V"),
  .selects "java/util/ArrayList" (MethodName.mk "java/util/ArrayList" "add" "(ILjava/lang/Object;)V") (MethodName.mk "java/util/ArrayList" "add" "(ILjava/lang/Object;)V"),
  .selects "PostVotes$Judge" (MethodName.mk "PostVotes$Judge" "decide" "(LPostVotes$Envelope;I)V") (MethodName.mk "PostVotes$Judge" "decide" "(LPostVotes$Envelope;I)V"),
  .selects "PostVotes$Envelope" (MethodName.mk "PostVotes$Envelope" "shireOf" "(I)I") (MethodName.mk "PostVotes$Envelope" "shireOf" "(I)I"),
  .selects "PostVotes$Judge" (MethodName.mk "PostVotes$Judge" "valueOf" "(LPostVotes$Law;ILPostVotes$Envelope;I)I") (MethodName.mk "PostVotes$Judge" "valueOf" "(LPostVotes$Law;ILPostVotes$Envelope;I)I"),
  .selects "PostVotes$Judge" (MethodName.mk "PostVotes$Judge" "push" "(I)V") (MethodName.mk "PostVotes$Judge" "push" "(I)V"),
  .selects "PostVotes$Envelope" (MethodName.mk "PostVotes$Envelope" "numberOf" "(II)I") (MethodName.mk "PostVotes$Envelope" "numberOf" "(II)I"),
  .selects "PostVotes$Envelope" (MethodName.mk "PostVotes$Envelope" "unlikeFigures" "()I") (MethodName.mk "PostVotes$Envelope" "unlikeFigures" "()I"),
  .selects "PostVotes$Envelope" (MethodName.mk "PostVotes$Envelope" "handsThatTold" "(I)I") (MethodName.mk "PostVotes$Envelope" "handsThatTold" "(I)I"),
  .selects "PostVotes$Judge" (MethodName.mk "PostVotes$Judge" "pop" "()I") (MethodName.mk "PostVotes$Judge" "pop" "()I"),
  .selects "PostVotes$Judge" (MethodName.mk "PostVotes$Judge" "pass" "(LPostVotes$Envelope;III)V") (MethodName.mk "PostVotes$Judge" "pass" "(LPostVotes$Envelope;III)V"),
  .selects "PostVotes$Judge" (MethodName.mk "PostVotes$Judge" "awaitCure" "(LPostVotes$Envelope;II)V") (MethodName.mk "PostVotes$Judge" "awaitCure" "(LPostVotes$Envelope;II)V"),
  .selects "PostVotes" (MethodName.mk "PostVotes" "reason" "(II)I") (MethodName.mk "PostVotes" "reason" "(II)I"),
  .selects "PostVotes" (MethodName.mk "PostVotes" "ruled" "(II)I") (MethodName.mk "PostVotes" "ruled" "(II)I"),
  .selects "PostVotes" (MethodName.mk "PostVotes" "first" "(II)I") (MethodName.mk "PostVotes" "first" "(II)I"),
  .selects "PostVotes" (MethodName.mk "PostVotes" "doubles" "(I)I") (MethodName.mk "PostVotes" "doubles" "(I)I"),
  .selects "PostVotes$Post" (MethodName.mk "PostVotes$Post" "judgeAll" "(I)V") (MethodName.mk "PostVotes$Post" "judgeAll" "(I)V"),
  .selects "PostVotes" (MethodName.mk "PostVotes" "many" "(III)I") (MethodName.mk "PostVotes" "many" "(III)I"),
  .selects "PostVotes" (MethodName.mk "PostVotes" "habit" "(III)I") (MethodName.mk "PostVotes" "habit" "(III)I"),
  .selects "PostVotes$Post" (MethodName.mk "PostVotes$Post" "doublesOf" "(IIII)I") (MethodName.mk "PostVotes$Post" "doublesOf" "(IIII)I"),
  .selects "PostVotes$Envelope" (MethodName.mk "PostVotes$Envelope" "doublesOf" "(II)I") (MethodName.mk "PostVotes$Envelope" "doublesOf" "(II)I"),
  .selects "PostVotes" (MethodName.mk "PostVotes" "harshest" "()I") (MethodName.mk "PostVotes" "harshest" "()I"),
  .selects "PostVotes" (MethodName.mk "PostVotes" "size" "(I)Z") (MethodName.mk "PostVotes" "size" "(I)Z"),
  .selects "java/util/ArrayList" (MethodName.mk "java/util/ArrayList" "isEmpty" "()Z") (MethodName.mk "java/util/ArrayList" "isEmpty" "()Z"),
  .selects "PostVotes" (MethodName.mk "PostVotes" "recheck" "(IIJ)I") (MethodName.mk "PostVotes" "recheck" "(IIJ)I"),
  .selects "PostVotes$Envelope" (MethodName.mk "PostVotes$Envelope" "isCounted" "()Z") (MethodName.mk "PostVotes$Envelope" "isCounted" "()Z"),
  .selects "PostVotes" (MethodName.mk "PostVotes" "wave" "(III)I") (MethodName.mk "PostVotes" "wave" "(III)I"),
  .selects "PostVotes$Press" (MethodName.mk "PostVotes$Press" "order" "(III)I") (MethodName.mk "PostVotes$Press" "order" "(III)I"),
  .selects "PostVotes" (MethodName.mk "PostVotes" "press" "(I)Z") (MethodName.mk "PostVotes" "press" "(I)Z"),
  .selects "PostVotes" (MethodName.mk "PostVotes" "printed" "(I)I") (MethodName.mk "PostVotes" "printed" "(I)I"),
  .selects "PostVotes$Press" (MethodName.mk "PostVotes$Press" "plan" "()V") (MethodName.mk "PostVotes$Press" "plan" "()V"),
  .selects "PostVotes$Press" (MethodName.mk "PostVotes$Press" "mostUrgent" "(I)I") (MethodName.mk "PostVotes$Press" "mostUrgent" "(I)I"),
  .selects "PostVotes$Press" (MethodName.mk "PostVotes$Press" "nextReady" "(I)I") (MethodName.mk "PostVotes$Press" "nextReady" "(I)I"),
  .selects "PostVotes$Press" (MethodName.mk "PostVotes$Press" "wholeDays" "(III)I") (MethodName.mk "PostVotes$Press" "wholeDays" "(III)I"),
  .selects "PostVotes" (MethodName.mk "PostVotes" "latest" "()I") (MethodName.mk "PostVotes" "latest" "()I"),
  .selects "PostVotes" (MethodName.mk "PostVotes" "stand" "(III)Z") (MethodName.mk "PostVotes" "stand" "(III)Z"),
  .selects "PostVotes$Van" (MethodName.mk "PostVotes$Van" "setBox" "(III)V") (MethodName.mk "PostVotes$Van" "setBox" "(III)V"),
  .selects "PostVotes" (MethodName.mk "PostVotes" "road" "(III)Z") (MethodName.mk "PostVotes" "road" "(III)Z"),
  .selects "PostVotes$Van" (MethodName.mk "PostVotes$Van" "setRoad" "(III)V") (MethodName.mk "PostVotes$Van" "setRoad" "(III)V"),
  .selects "PostVotes" (MethodName.mk "PostVotes" "stops" "(I)Z") (MethodName.mk "PostVotes" "stops" "(I)Z"),
  .selects "PostVotes$Van" (MethodName.mk "PostVotes$Van" "setStop" "(I)V") (MethodName.mk "PostVotes$Van" "setStop" "(I)V"),
  .selects "PostVotes" (MethodName.mk "PostVotes" "round" "(I)I") (MethodName.mk "PostVotes" "round" "(I)I"),
  .selects "PostVotes$Van" (MethodName.mk "PostVotes$Van" "plan" "(I)V") (MethodName.mk "PostVotes$Van" "plan" "(I)V"),
  .selects "PostVotes$Van" (MethodName.mk "PostVotes$Van" "comeHome" "(I)V") (MethodName.mk "PostVotes$Van" "comeHome" "(I)V"),
  .selects "PostVotes" (MethodName.mk "PostVotes" "route" "(II)I") (MethodName.mk "PostVotes" "route" "(II)I"),
  .selects "PostVotes$Van" (MethodName.mk "PostVotes$Van" "boxAt" "(I)I") (MethodName.mk "PostVotes$Van" "boxAt" "(I)I"),
  .selects "PostVotes" (MethodName.mk "PostVotes" "usual" "(II)I") (MethodName.mk "PostVotes" "usual" "(II)I"),
  .selects "PostVotes" (MethodName.mk "PostVotes" "ends" "(II)Z") (MethodName.mk "PostVotes" "ends" "(II)Z"),
  .selects "PostVotes" (MethodName.mk "PostVotes" "late" "(I)I") (MethodName.mk "PostVotes" "late" "(I)I"),
  .selects "PostVotes" (MethodName.mk "PostVotes" "open" "(I)I") (MethodName.mk "PostVotes" "open" "(I)I"),
  .selects "PostVotes$Heap" (MethodName.mk "PostVotes$Heap" "lay" "(LPostVotes$Envelope;)V") (MethodName.mk "PostVotes$Heap" "lay" "(LPostVotes$Envelope;)V"),
  .selects "PostVotes" (MethodName.mk "PostVotes" "heap" "(II)I") (MethodName.mk "PostVotes" "heap" "(II)I"),
  .selects "PostVotes" (MethodName.mk "PostVotes" "street" "(III)I") (MethodName.mk "PostVotes" "street" "(III)I"),
  .selects "PostVotes" (MethodName.mk "PostVotes" "count" "(I)I") (MethodName.mk "PostVotes" "count" "(I)I"),
  .selects "PostVotes" (MethodName.mk "PostVotes" "letter" "(III)I") (MethodName.mk "PostVotes" "letter" "(III)I"),
  .selects "java/util/NoSuchElementException" (MethodName.mk "java/lang/Throwable" "fillInStackTrace" "(I)Ljava/lang/Throwable;") (MethodName.mk "java/lang/Throwable" "fillInStackTrace" "(I)Ljava/lang/Throwable;"),
  .selects "java/util/NoSuchElementException" (MethodName.mk "java/lang/Throwable" "fillInStackTrace" "()Ljava/lang/Throwable;") (MethodName.mk "java/lang/Throwable" "fillInStackTrace" "()Ljava/lang/Throwable;"),
  .selects "PostVotesModel" (MethodName.mk "PostVotesModel" "days" "(I)I") (MethodName.mk "PostVotesModel" "days" "(I)I"),
  .selects "PostVotesModel" (MethodName.mk "PostVotesModel" "voter" "(III)I") (MethodName.mk "PostVotesModel" "voter" "(III)I"),
  .selects "PostVotesModel" (MethodName.mk "PostVotesModel" "move" "(III)Z") (MethodName.mk "PostVotesModel" "move" "(III)Z"),
  .selects "PostVotesModel" (MethodName.mk "PostVotesModel" "shire" "(III)I") (MethodName.mk "PostVotesModel" "shire" "(III)I"),
  .selects "PostVotesModel" (MethodName.mk "PostVotesModel" "send" "(III)I") (MethodName.mk "PostVotesModel" "send" "(III)I"),
  .selects "PostVotesModel" (MethodName.mk "PostVotesModel" "event" "(IIII)Z") (MethodName.mk "PostVotesModel" "event" "(IIII)Z"),
  .selects "PostVotesModel" (MethodName.mk "PostVotesModel" "empty" "(III)I") (MethodName.mk "PostVotesModel" "empty" "(III)I"),
  .selects "PostVotesModel" (MethodName.mk "PostVotesModel" "sealed" "(II)I") (MethodName.mk "PostVotesModel" "sealed" "(II)I"),
  .selects "PostVotesModel" (MethodName.mk "PostVotesModel" "read" "(II)Z") (MethodName.mk "PostVotesModel" "read" "(II)Z"),
  .selects "PostVotesModel" (MethodName.mk "PostVotesModel" "hand" "(IIZ)Z") (MethodName.mk "PostVotesModel" "hand" "(IIZ)Z"),
  .selects "PostVotesModel" (MethodName.mk "PostVotesModel" "booth" "(II)Z") (MethodName.mk "PostVotesModel" "booth" "(II)Z"),
  .selects "PostVotesModel" (MethodName.mk "PostVotesModel" "feed" "(IIIII)I") (MethodName.mk "PostVotesModel" "feed" "(IIIII)I"),
  .selects "PostVotesModel" (MethodName.mk "PostVotesModel" "end" "(I)Z") (MethodName.mk "PostVotesModel" "end" "(I)Z"),
  .selects "PostVotesModel" (MethodName.mk "PostVotesModel" "fault" "()I") (MethodName.mk "PostVotesModel" "fault" "()I"),
  .selects "PostVotesModel" (MethodName.mk "PostVotesModel" "law" "(II)I") (MethodName.mk "PostVotesModel" "law" "(II)I"),
  .selects "PostVotesModel" (MethodName.mk "PostVotesModel" "lawful" "(III)I") (MethodName.mk "PostVotesModel" "lawful" "(III)I"),
  .selects "PostVotesModel" (MethodName.mk "PostVotesModel" "thrown" "()I") (MethodName.mk "PostVotesModel" "thrown" "()I"),
  .selects "PostVotesModel" (MethodName.mk "PostVotesModel" "letter" "(III)I") (MethodName.mk "PostVotesModel" "letter" "(III)I"),
  .selects "PostVotesModel" (MethodName.mk "PostVotesModel" "state" "(II)I") (MethodName.mk "PostVotesModel" "state" "(II)I"),
  .selects "PostVotesModel" (MethodName.mk "PostVotesModel" "reason" "(II)I") (MethodName.mk "PostVotesModel" "reason" "(II)I"),
  .selects "PostVotesModel" (MethodName.mk "PostVotesModel" "ruled" "(II)I") (MethodName.mk "PostVotesModel" "ruled" "(II)I"),
  .selects "PostVotesModel" (MethodName.mk "PostVotesModel" "first" "(II)I") (MethodName.mk "PostVotesModel" "first" "(II)I"),
  .selects "PostVotesModel" (MethodName.mk "PostVotesModel" "doubles" "(I)I") (MethodName.mk "PostVotesModel" "doubles" "(I)I"),
  .selects "PostVotesModel" (MethodName.mk "PostVotesModel" "many" "(III)I") (MethodName.mk "PostVotesModel" "many" "(III)I"),
  .selects "PostVotesModel" (MethodName.mk "PostVotesModel" "habit" "(III)I") (MethodName.mk "PostVotesModel" "habit" "(III)I"),
  .selects "PostVotesModel" (MethodName.mk "PostVotesModel" "harshest" "()I") (MethodName.mk "PostVotesModel" "harshest" "()I"),
  .selects "PostVotesModel" (MethodName.mk "PostVotesModel" "size" "(I)Z") (MethodName.mk "PostVotesModel" "size" "(I)Z"),
  .selects "PostVotesModel" (MethodName.mk "PostVotesModel" "recheck" "(IIJ)I") (MethodName.mk "PostVotesModel" "recheck" "(IIJ)I"),
  .selects "PostVotesModel" (MethodName.mk "PostVotesModel" "wave" "(III)I") (MethodName.mk "PostVotesModel" "wave" "(III)I"),
  .selects "PostVotesModel" (MethodName.mk "PostVotesModel" "press" "(I)Z") (MethodName.mk "PostVotesModel" "press" "(I)Z"),
  .selects "PostVotesModel" (MethodName.mk "PostVotesModel" "printed" "(I)I") (MethodName.mk "PostVotesModel" "printed" "(I)I"),
  .selects "PostVotesModel" (MethodName.mk "PostVotesModel" "latest" "()I") (MethodName.mk "PostVotesModel" "latest" "()I"),
  .selects "PostVotesModel" (MethodName.mk "PostVotesModel" "stand" "(III)Z") (MethodName.mk "PostVotesModel" "stand" "(III)Z"),
  .selects "PostVotesModel" (MethodName.mk "PostVotesModel" "road" "(III)Z") (MethodName.mk "PostVotesModel" "road" "(III)Z"),
  .selects "PostVotesModel" (MethodName.mk "PostVotesModel" "stops" "(I)Z") (MethodName.mk "PostVotesModel" "stops" "(I)Z"),
  .selects "PostVotesModel" (MethodName.mk "PostVotesModel" "round" "(I)I") (MethodName.mk "PostVotesModel" "round" "(I)I"),
  .selects "PostVotesModel" (MethodName.mk "PostVotesModel" "route" "(II)I") (MethodName.mk "PostVotesModel" "route" "(II)I"),
  .selects "PostVotesModel" (MethodName.mk "PostVotesModel" "usual" "(II)I") (MethodName.mk "PostVotesModel" "usual" "(II)I"),
  .selects "PostVotesModel" (MethodName.mk "PostVotesModel" "ends" "(II)Z") (MethodName.mk "PostVotesModel" "ends" "(II)Z"),
  .selects "PostVotesModel" (MethodName.mk "PostVotesModel" "late" "(I)I") (MethodName.mk "PostVotesModel" "late" "(I)I"),
  .selects "PostVotesModel" (MethodName.mk "PostVotesModel" "open" "(I)I") (MethodName.mk "PostVotesModel" "open" "(I)I"),
  .selects "PostVotesModel" (MethodName.mk "PostVotesModel" "heap" "(II)I") (MethodName.mk "PostVotesModel" "heap" "(II)I"),
  .selects "PostVotesModel" (MethodName.mk "PostVotesModel" "street" "(III)I") (MethodName.mk "PostVotesModel" "street" "(III)I"),
  .selects "PostVotesModel" (MethodName.mk "PostVotesModel" "count" "(I)I") (MethodName.mk "PostVotesModel" "count" "(I)I"),
  .selects "[Ljava/lang/Object;" (MethodName.mk "java/lang/Object" "getClass" "()Ljava/lang/Class;") (MethodName.mk "java/lang/Object" "getClass" "()Ljava/lang/Class;")]
set_option maxRecDepth 100000 in
theorem ge_selects : tables_1.filter gp_selects = gc_selects := by decide +kernel
def gp_superclass : Cond → Bool := fun c => match c with | .superclass .. => true | _ => false
def gc_superclass : List Cond := [.superclass "java/util/ArrayList" "java/util/AbstractList",
  .superclass "PostVotes$Judge" "java/lang/Object",
  .superclass "PostVotes$Post" "java/lang/Object",
  .superclass "PostVotes$Tape" "java/lang/Object",
  .superclass "PostVotes$Press" "java/lang/Object",
  .superclass "PostVotes$Van" "java/lang/Object",
  .superclass "PostVotes" "java/lang/Object",
  .superclass "PostVotes$Voter" "java/lang/Object",
  .superclass "PostVotes$Told" "java/lang/Object",
  .superclass "PostVotes$Envelope" "java/lang/Object",
  .superclass "PostVotes$Law" "java/lang/Object",
  .superclass "PostVotes$Heap" "java/lang/Object",
  .superclass "java/lang/Throwable" "java/lang/Object",
  .superclass "java/util/NoSuchElementException" "java/lang/RuntimeException",
  .superclass "PostVotesModel" "java/lang/Object"]
set_option maxRecDepth 100000 in
theorem ge_superclass : tables_1.filter gp_superclass = gc_superclass := by decide +kernel
def gp_sameField : Cond → Bool := fun c => match c with | .sameField .. => true | _ => false
def gc_sameField : List Cond := [.sameField "java/util/ArrayList" "java/util/AbstractList" "modCount" "I"]
set_option maxRecDepth 100000 in
theorem ge_sameField : tables_1.filter gp_sameField = gc_sameField := by decide +kernel
def gp_sameMethod : Cond → Bool := fun c => match c with | .sameMethod .. => true | _ => false
def gc_sameMethod : List Cond := [.sameMethod "java/lang/Object" "java/lang/Object" "getClass" "()Ljava/lang/Class;",
  .sameMethod "[I" "java/lang/Object" "clone" "()Ljava/lang/Object;",
  .sameMethod "java/lang/Throwable" "java/lang/Throwable" "fillInStackTrace" "()Ljava/lang/Throwable;",
  .sameMethod "java/lang/Throwable" "java/lang/Throwable" "fillInStackTrace" "(I)Ljava/lang/Throwable;",
  .sameMethod "[Ljava/lang/Object;" "java/lang/Object" "getClass" "()Ljava/lang/Class;"]
set_option maxRecDepth 100000 in
theorem ge_sameMethod : tables_1.filter gp_sameMethod = gc_sameMethod := by decide +kernel
def gp_native : Cond → Bool := fun c => match c with | .native .. => true | _ => false
def gc_native : List Cond := [.native (MethodName.mk "java/lang/Object" "getClass" "()Ljava/lang/Class;"),
  .native (MethodName.mk "java/lang/System" "arraycopy" "(Ljava/lang/Object;ILjava/lang/Object;II)V"),
  .native (MethodName.mk "java/lang/Object" "clone" "()Ljava/lang/Object;"),
  .native (MethodName.mk "java/lang/Throwable" "fillInStackTrace" "(I)Ljava/lang/Throwable;")]
set_option maxRecDepth 100000 in
theorem ge_native : tables_1.filter gp_native = gc_native := by decide +kernel
def gp_methodLinkNest : Cond → Bool := fun c => match c with | .methodLinkNest .. => true | _ => false
def gc_methodLinkNest : List Cond := [.methodLinkNest "PostVotes" 15 (MethodName.mk "PostVotes$Post" "<init>" "()V") "PostVotes",
  .methodLinkNest "PostVotes$Post" 26 (MethodName.mk "PostVotes$Judge" "<init>" "()V") "PostVotes",
  .methodLinkNest "PostVotes" 22 (MethodName.mk "PostVotes$Tape" "<init>" "()V") "PostVotes",
  .methodLinkNest "PostVotes" 29 (MethodName.mk "PostVotes$Press" "<init>" "()V") "PostVotes",
  .methodLinkNest "PostVotes$Post" 38 (MethodName.mk "PostVotes" "isWithin" "(III)Z") "PostVotes",
  .methodLinkNest "PostVotes$Envelope" 86 (MethodName.mk "PostVotes" "isWithin" "(III)Z") "PostVotes",
  .methodLinkNest "PostVotes$Tape" 80 (MethodName.mk "PostVotes" "isLetter" "(I)Z") "PostVotes",
  .methodLinkNest "PostVotes$Tape" 83 (MethodName.mk "PostVotes" "isWithin" "(III)Z") "PostVotes",
  .methodLinkNest "PostVotes$Judge" 55 (MethodName.mk "PostVotes" "isWithin" "(III)Z") "PostVotes",
  .methodLinkNest "PostVotes$Judge" 102 (MethodName.mk "PostVotes" "isLetter" "(I)Z") "PostVotes",
  .methodLinkNest "PostVotes$Envelope" 108 (MethodName.mk "PostVotes" "isHand" "(I)Z") "PostVotes",
  .methodLinkNest "PostVotes$Van" 46 (MethodName.mk "PostVotes" "isBox" "(I)Z") "PostVotes",
  .methodLinkNest "PostVotes$Van" 56 (MethodName.mk "PostVotes" "isWithin" "(III)Z") "PostVotes",
  .methodLinkNest "PostVotes$Heap" 27 (MethodName.mk "PostVotes" "isChoice" "(I)Z") "PostVotes"]
set_option maxRecDepth 100000 in
theorem ge_methodLinkNest : tables_1.filter gp_methodLinkNest = gc_methodLinkNest := by decide +kernel
