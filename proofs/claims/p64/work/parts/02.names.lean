def RX0 : String := "EchoCensus$Changes"
def TX0 : u_T := fun k => match k with
  | _ => ("", "", "", false)
def tyX0 : Nat → FieldType := fun k => match k with
  | _ => .int
abbrev wsX00 : List Cond := u_ws RX0 TX0 0
theorem nmX0 : ∀ a, a < 0 → ∀ b, b < 0 → a ≠ b → (TX0 a).2.1 ≠ (TX0 b).2.1 := by decide +kernel
theorem tyX0_ok : ∀ k, k < 0 → parseFieldDescriptor (TX0 k).2.2.1 = some (tyX0 k) := by decide +kernel
abbrev cX0_carryOut : ByteArray := prog_2_method_2_code
def yX0_carryOut : MethodName := ⟨RX0, "carryOut", "(LEchoCensus$Theatre;III)I"⟩
abbrev cX0_openRow : ByteArray := prog_2_method_3_code
def yX0_openRow : MethodName := ⟨RX0, "openRow", "(LEchoCensus$Theatre;I)I"⟩
abbrev cX0_changePhantoms : ByteArray := prog_2_method_4_code
def yX0_changePhantoms : MethodName := ⟨RX0, "changePhantoms", "(LEchoCensus$Theatre;II)I"⟩
abbrev cX0_addEcho : ByteArray := prog_2_method_5_code
def yX0_addEcho : MethodName := ⟨RX0, "addEcho", "(LEchoCensus$Theatre;II)I"⟩
abbrev cX0_moveSlot : ByteArray := prog_2_method_6_code
def yX0_moveSlot : MethodName := ⟨RX0, "moveSlot", "(LEchoCensus$Theatre;II)I"⟩
abbrev cX0_removeSlot : ByteArray := prog_2_method_7_code
def yX0_removeSlot : MethodName := ⟨RX0, "removeSlot", "(LEchoCensus$Theatre;I)I"⟩
abbrev cX0_bequeath : ByteArray := prog_2_method_8_code
def yX0_bequeath : MethodName := ⟨RX0, "bequeath", "(LEchoCensus$Theatre;I)I"⟩
abbrev cX0_passOnBequeathers : ByteArray := prog_2_method_9_code
def yX0_passOnBequeathers : MethodName := ⟨RX0, "passOnBequeathers", "(LEchoCensus$Theatre;I)V"⟩
abbrev cX0_closeGap : ByteArray := prog_2_method_10_code
def yX0_closeGap : MethodName := ⟨RX0, "closeGap", "(LEchoCensus$Theatre;I)V"⟩
abbrev cX0_replaceHeir : ByteArray := prog_2_method_11_code
def yX0_replaceHeir : MethodName := ⟨RX0, "replaceHeir", "(LEchoCensus$Theatre;II)I"⟩
abbrev cX0_setLocked : ByteArray := prog_2_method_12_code
def yX0_setLocked : MethodName := ⟨RX0, "setLocked", "(LEchoCensus$Theatre;IZ)I"⟩
abbrev cX0_nameByBox : ByteArray := prog_2_method_13_code
def yX0_nameByBox : MethodName := ⟨RX0, "nameByBox", "(LEchoCensus$Theatre;II)I"⟩
abbrev cX0_spreadOut : ByteArray := prog_2_method_14_code
def yX0_spreadOut : MethodName := ⟨RX0, "spreadOut", "(LEchoCensus$Theatre;I)I"⟩
def RX1 : String := "EchoCensus$FenwickTree"
def TX1 : u_T := fun k => match k with
  | _ => ("EchoCensus$FenwickTree", "sums", "[I", true)
def tyX1 : Nat → FieldType := fun k => match k with
  | _ => .array .int
abbrev wsX10 : List Cond := u_ws RX1 TX1 1
theorem nmX1 : ∀ a, a < 1 → ∀ b, b < 1 → a ≠ b → (TX1 a).2.1 ≠ (TX1 b).2.1 := by decide +kernel
theorem tyX1_ok : ∀ k, k < 1 → parseFieldDescriptor (TX1 k).2.2.1 = some (tyX1 k) := by decide +kernel
abbrev cX1_init : ByteArray := prog_3_method_1_code
def yX1_init : MethodName := ⟨RX1, "<init>", "()V"⟩
abbrev cX1_fillFrom : ByteArray := prog_3_method_2_code
def yX1_fillFrom : MethodName := ⟨RX1, "fillFrom", "(LEchoCensus$Theatre;)V"⟩
abbrev cX1_count : ByteArray := prog_3_method_3_code
def yX1_count : MethodName := ⟨RX1, "count", "(II)V"⟩
abbrev cX1_sumOfFirst : ByteArray := prog_3_method_4_code
def yX1_sumOfFirst : MethodName := ⟨RX1, "sumOfFirst", "(I)I"⟩
abbrev cX1_sumBetween : ByteArray := prog_3_method_5_code
def yX1_sumBetween : MethodName := ⟨RX1, "sumBetween", "(II)I"⟩
abbrev cX1_rowWithRank : ByteArray := prog_3_method_6_code
def yX1_rowWithRank : MethodName := ⟨RX1, "rowWithRank", "(I)I"⟩
def RX2 : String := "EchoCensus$HeirTables"
def TX2 : u_T := fun k => match k with
  | _ => ("EchoCensus$HeirTables", "heirSlots", "[[I", true)
def tyX2 : Nat → FieldType := fun k => match k with
  | _ => .array (.array .int)
abbrev wsX20 : List Cond := u_ws RX2 TX2 1
theorem nmX2 : ∀ a, a < 1 → ∀ b, b < 1 → a ≠ b → (TX2 a).2.1 ≠ (TX2 b).2.1 := by decide +kernel
theorem tyX2_ok : ∀ k, k < 1 → parseFieldDescriptor (TX2 k).2.2.1 = some (tyX2 k) := by decide +kernel
abbrev cX2_init : ByteArray := prog_4_method_1_code
def yX2_init : MethodName := ⟨RX2, "<init>", "()V"⟩
abbrev cX2_fillFrom : ByteArray := prog_4_method_2_code
def yX2_fillFrom : MethodName := ⟨RX2, "fillFrom", "(LEchoCensus$Theatre;)V"⟩
abbrev cX2_endOfChainFrom : ByteArray := prog_4_method_3_code
def yX2_endOfChainFrom : MethodName := ⟨RX2, "endOfChainFrom", "(I)I"⟩
def RX3 : String := "EchoCensus$History"
def TX3 : u_T := fun k => match k with
  | 0 => ("EchoCensus$History", "ring", "[LEchoCensus$Theatre;", true)
  | 1 => ("EchoCensus$History", "now", "I", false)
  | _ => ("EchoCensus$History", "undoable", "I", false)
def tyX3 : Nat → FieldType := fun k => match k with
  | 0 => .array (.object "EchoCensus$Theatre")
  | 1 => .int
  | _ => .int
abbrev wsX30 : List Cond := u_ws RX3 TX3 3
theorem nmX3 : ∀ a, a < 3 → ∀ b, b < 3 → a ≠ b → (TX3 a).2.1 ≠ (TX3 b).2.1 := by decide +kernel
theorem tyX3_ok : ∀ k, k < 3 → parseFieldDescriptor (TX3 k).2.2.1 = some (tyX3 k) := by decide +kernel
abbrev cX3_init : ByteArray := prog_5_method_1_code
def yX3_init : MethodName := ⟨RX3, "<init>", "()V"⟩
abbrev cX3_present : ByteArray := prog_5_method_2_code
def yX3_present : MethodName := ⟨RX3, "present", "()LEchoCensus$Theatre;"⟩
abbrev cX3_draft : ByteArray := prog_5_method_3_code
def yX3_draft : MethodName := ⟨RX3, "draft", "()LEchoCensus$Theatre;"⟩
abbrev cX3_keepDraft : ByteArray := prog_5_method_4_code
def yX3_keepDraft : MethodName := ⟨RX3, "keepDraft", "()V"⟩
abbrev cX3_stepBack : ByteArray := prog_5_method_5_code
def yX3_stepBack : MethodName := ⟨RX3, "stepBack", "()V"⟩
abbrev cX3_startAgainFrom : ByteArray := prog_5_method_6_code
def yX3_startAgainFrom : MethodName := ⟨RX3, "startAgainFrom", "(LEchoCensus$Theatre;)V"⟩
abbrev cX3_placeAfter : ByteArray := prog_5_method_7_code
def yX3_placeAfter : MethodName := ⟨RX3, "placeAfter", "(I)I"⟩
def RX4 : String := "EchoCensus$Program"
def TX4 : u_T := fun k => match k with
  | 0 => ("EchoCensus$Program", "kinds", "[I", true)
  | 1 => ("EchoCensus$Program", "firsts", "[I", true)
  | 2 => ("EchoCensus$Program", "seconds", "[I", true)
  | 3 => ("EchoCensus$Program", "size", "I", false)
  | _ => ("EchoCensus$Program", "at", "I", false)
def tyX4 : Nat → FieldType := fun k => match k with
  | 0 => .array .int
  | 1 => .array .int
  | 2 => .array .int
  | 3 => .int
  | _ => .int
abbrev wsX40 : List Cond := u_ws RX4 TX4 5
theorem nmX4 : ∀ a, a < 5 → ∀ b, b < 5 → a ≠ b → (TX4 a).2.1 ≠ (TX4 b).2.1 := by decide +kernel
theorem tyX4_ok : ∀ k, k < 5 → parseFieldDescriptor (TX4 k).2.2.1 = some (tyX4 k) := by decide +kernel
abbrev cX4_init : ByteArray := prog_6_method_1_code
def yX4_init : MethodName := ⟨RX4, "<init>", "()V"⟩
abbrev cX4_parse : ByteArray := prog_6_method_2_code
def yX4_parse : MethodName := ⟨RX4, "parse", "(Ljava/lang/StringBuilder;)I"⟩
abbrev cX4_carryOut : ByteArray := prog_6_method_3_code
def yX4_carryOut : MethodName := ⟨RX4, "carryOut", "(LEchoCensus$Theatre;)I"⟩
abbrev cX4_readCommand : ByteArray := prog_6_method_4_code
def yX4_readCommand : MethodName := ⟨RX4, "readCommand", "(Ljava/lang/StringBuilder;)Z"⟩
abbrev cX4_readKeyword : ByteArray := prog_6_method_5_code
def yX4_readKeyword : MethodName := ⟨RX4, "readKeyword", "(Ljava/lang/StringBuilder;)I"⟩
abbrev cX4_matchedLetters : ByteArray := prog_6_method_6_code
def yX4_matchedLetters : MethodName := ⟨RX4, "matchedLetters", "(Ljava/lang/StringBuilder;Ljava/lang/String;)I"⟩
abbrev cX4_readSign : ByteArray := prog_6_method_7_code
def yX4_readSign : MethodName := ⟨RX4, "readSign", "(Ljava/lang/StringBuilder;C)Z"⟩
abbrev cX4_readArgument : ByteArray := prog_6_method_8_code
def yX4_readArgument : MethodName := ⟨RX4, "readArgument", "(Ljava/lang/StringBuilder;C)I"⟩
abbrev cX4_readNumber : ByteArray := prog_6_method_9_code
def yX4_readNumber : MethodName := ⟨RX4, "readNumber", "(Ljava/lang/StringBuilder;I)I"⟩
abbrev cX4_isDigit : ByteArray := prog_6_method_10_code
def yX4_isDigit : MethodName := ⟨RX4, "isDigit", "(C)Z"⟩
abbrev cX4_readBoxName : ByteArray := prog_6_method_11_code
def yX4_readBoxName : MethodName := ⟨RX4, "readBoxName", "(Ljava/lang/StringBuilder;)I"⟩
abbrev cX4_keyword : ByteArray := prog_6_method_12_code
def yX4_keyword : MethodName := ⟨RX4, "keyword", "(I)Ljava/lang/String;"⟩
abbrev cX4_argumentForms : ByteArray := prog_6_method_13_code
def yX4_argumentForms : MethodName := ⟨RX4, "argumentForms", "(I)Ljava/lang/String;"⟩
def RX5 : String := "EchoCensus$Rules"
def TX5 : u_T := fun k => match k with
  | _ => ("", "", "", false)
def tyX5 : Nat → FieldType := fun k => match k with
  | _ => .int
abbrev wsX50 : List Cond := u_ws RX5 TX5 0
theorem nmX5 : ∀ a, a < 0 → ∀ b, b < 0 → a ≠ b → (TX5 a).2.1 ≠ (TX5 b).2.1 := by decide +kernel
theorem tyX5_ok : ∀ k, k < 0 → parseFieldDescriptor (TX5 k).2.2.1 = some (tyX5 k) := by decide +kernel
abbrev cX5_refusal : ByteArray := prog_7_method_2_code
def yX5_refusal : MethodName := ⟨RX5, "refusal", "(LEchoCensus$Theatre;III)I"⟩
abbrev cX5_acceptedIf : ByteArray := prog_7_method_3_code
def yX5_acceptedIf : MethodName := ⟨RX5, "acceptedIf", "(Z)I"⟩
abbrev cX5_within : ByteArray := prog_7_method_4_code
def yX5_within : MethodName := ⟨RX5, "within", "(II)Z"⟩
abbrev cX5_refusalOfRow : ByteArray := prog_7_method_5_code
def yX5_refusalOfRow : MethodName := ⟨RX5, "refusalOfRow", "(LEchoCensus$Theatre;I)I"⟩
abbrev cX5_refusalOfPhantoms : ByteArray := prog_7_method_6_code
def yX5_refusalOfPhantoms : MethodName := ⟨RX5, "refusalOfPhantoms", "(LEchoCensus$Theatre;II)I"⟩
abbrev cX5_refusalOfDismissal : ByteArray := prog_7_method_7_code
def yX5_refusalOfDismissal : MethodName := ⟨RX5, "refusalOfDismissal", "(LEchoCensus$Theatre;II)I"⟩
abbrev cX5_refusalOfEcho : ByteArray := prog_7_method_8_code
def yX5_refusalOfEcho : MethodName := ⟨RX5, "refusalOfEcho", "(LEchoCensus$Theatre;II)I"⟩
abbrev cX5_refusalOfMove : ByteArray := prog_7_method_9_code
def yX5_refusalOfMove : MethodName := ⟨RX5, "refusalOfMove", "(LEchoCensus$Theatre;II)I"⟩
abbrev cX5_refusalOfRemoval : ByteArray := prog_7_method_10_code
def yX5_refusalOfRemoval : MethodName := ⟨RX5, "refusalOfRemoval", "(LEchoCensus$Theatre;I)I"⟩
abbrev cX5_refusalOfHeir : ByteArray := prog_7_method_11_code
def yX5_refusalOfHeir : MethodName := ⟨RX5, "refusalOfHeir", "(LEchoCensus$Theatre;II)I"⟩
abbrev cX5_refusalOfDisowning : ByteArray := prog_7_method_12_code
def yX5_refusalOfDisowning : MethodName := ⟨RX5, "refusalOfDisowning", "(LEchoCensus$Theatre;I)I"⟩
abbrev cX5_refusalUnlessLockIs : ByteArray := prog_7_method_13_code
def yX5_refusalUnlessLockIs : MethodName := ⟨RX5, "refusalUnlessLockIs", "(LEchoCensus$Theatre;IZ)I"⟩
abbrev cX5_refusalOfNaming : ByteArray := prog_7_method_14_code
def yX5_refusalOfNaming : MethodName := ⟨RX5, "refusalOfNaming", "(LEchoCensus$Theatre;II)I"⟩
def RX6 : String := "EchoCensus$Theatre"
def TX6 : u_T := fun k => match k with
  | 0 => ("EchoCensus$Theatre", "realSeats", "[I", true)
  | 1 => ("EchoCensus$Theatre", "phantomSeats", "[I", true)
  | 2 => ("EchoCensus$Theatre", "locked", "[Z", true)
  | 3 => ("EchoCensus$Theatre", "boxRows", "[I", true)
  | 4 => ("EchoCensus$Theatre", "rows", "I", false)
  | 5 => ("EchoCensus$Theatre", "ids", "[I", true)
  | 6 => ("EchoCensus$Theatre", "places", "[I", true)
  | 7 => ("EchoCensus$Theatre", "loudnesses", "[I", true)
  | 8 => ("EchoCensus$Theatre", "heirIds", "[I", true)
  | 9 => ("EchoCensus$Theatre", "active", "I", false)
  | 10 => ("EchoCensus$Theatre", "nextId", "I", false)
  | 11 => ("EchoCensus$Theatre", "moves", "I", false)
  | 12 => ("EchoCensus$Theatre", "removals", "I", false)
  | 13 => ("EchoCensus$Theatre", "loudnessAdded", "J", false)
  | _ => ("EchoCensus$Theatre", "loudnessLost", "J", false)
def tyX6 : Nat → FieldType := fun k => match k with
  | 0 => .array .int
  | 1 => .array .int
  | 2 => .array .boolean
  | 3 => .array .int
  | 4 => .int
  | 5 => .array .int
  | 6 => .array .int
  | 7 => .array .int
  | 8 => .array .int
  | 9 => .int
  | 10 => .int
  | 11 => .int
  | 12 => .int
  | 13 => .long
  | _ => .long
abbrev wsX60 : List Cond := u_ws RX6 TX6 15
theorem nmX6 : ∀ a, a < 15 → ∀ b, b < 15 → a ≠ b → (TX6 a).2.1 ≠ (TX6 b).2.1 := by decide +kernel
theorem tyX6_ok : ∀ k, k < 15 → parseFieldDescriptor (TX6 k).2.2.1 = some (tyX6 k) := by decide +kernel
abbrev cX6_init : ByteArray := prog_8_method_1_code
def yX6_init : MethodName := ⟨RX6, "<init>", "()V"⟩
abbrev cX6_copyFrom : ByteArray := prog_8_method_2_code
def yX6_copyFrom : MethodName := ⟨RX6, "copyFrom", "(LEchoCensus$Theatre;)V"⟩
abbrev cX6_copySlot : ByteArray := prog_8_method_3_code
def yX6_copySlot : MethodName := ⟨RX6, "copySlot", "(ILEchoCensus$Theatre;I)V"⟩
abbrev cX6_isBoxName : ByteArray := prog_8_method_4_code
def yX6_isBoxName : MethodName := ⟨RX6, "isBoxName", "(I)Z"⟩
abbrev cX6_hasRow : ByteArray := prog_8_method_5_code
def yX6_hasRow : MethodName := ⟨RX6, "hasRow", "(I)Z"⟩
abbrev cX6_slotOf : ByteArray := prog_8_method_6_code
def yX6_slotOf : MethodName := ⟨RX6, "slotOf", "(I)I"⟩
abbrev cX6_echoesIn : ByteArray := prog_8_method_7_code
def yX6_echoesIn : MethodName := ⟨RX6, "echoesIn", "(I)I"⟩
abbrev cX6_echoesBetween : ByteArray := prog_8_method_8_code
def yX6_echoesBetween : MethodName := ⟨RX6, "echoesBetween", "(II)I"⟩
abbrev cX6_emptySeatsIn : ByteArray := prog_8_method_9_code
def yX6_emptySeatsIn : MethodName := ⟨RX6, "emptySeatsIn", "(I)I"⟩
abbrev cX6_overfull : ByteArray := prog_8_method_10_code
def yX6_overfull : MethodName := ⟨RX6, "overfull", "(I)Z"⟩
abbrev cX6_seatsSuffice : ByteArray := prog_8_method_11_code
def yX6_seatsSuffice : MethodName := ⟨RX6, "seatsSuffice", "()Z"⟩
abbrev cX6_lockedRows : ByteArray := prog_8_method_13_code
def yX6_lockedRows : MethodName := ⟨RX6, "lockedRows", "()I"⟩
abbrev cX6_boxesNaming : ByteArray := prog_8_method_14_code
def yX6_boxesNaming : MethodName := ⟨RX6, "boxesNaming", "(I)I"⟩
abbrev cX6_loudnessOfAll : ByteArray := prog_8_method_16_code
def yX6_loudnessOfAll : MethodName := ⟨RX6, "loudnessOfAll", "()J"⟩
abbrev cX6_loudestSlot : ByteArray := prog_8_method_18_code
def yX6_loudestSlot : MethodName := ⟨RX6, "loudestSlot", "(II)I"⟩
abbrev cX6_idAt : ByteArray := prog_8_method_19_code
def yX6_idAt : MethodName := ⟨RX6, "idAt", "(II)I"⟩
abbrev cX6_positionOf : ByteArray := prog_8_method_20_code
def yX6_positionOf : MethodName := ⟨RX6, "positionOf", "(I)I"⟩
abbrev cX6_rankOf : ByteArray := prog_8_method_21_code
def yX6_rankOf : MethodName := ⟨RX6, "rankOf", "(I)I"⟩
abbrev cX6_idRanked : ByteArray := prog_8_method_22_code
def yX6_idRanked : MethodName := ⟨RX6, "idRanked", "(I)I"⟩
abbrev cX6_heirSlotOf : ByteArray := prog_8_method_23_code
def yX6_heirSlotOf : MethodName := ⟨RX6, "heirSlotOf", "(I)I"⟩
abbrev cX6_lastSlotFrom : ByteArray := prog_8_method_24_code
def yX6_lastSlotFrom : MethodName := ⟨RX6, "lastSlotFrom", "(I)I"⟩
abbrev cX6_chainLengthFrom : ByteArray := prog_8_method_25_code
def yX6_chainLengthFrom : MethodName := ⟨RX6, "chainLengthFrom", "(I)I"⟩
abbrev cX6_chainPasses : ByteArray := prog_8_method_26_code
def yX6_chainPasses : MethodName := ⟨RX6, "chainPasses", "(II)Z"⟩
abbrev cX6_echoesWithHeir : ByteArray := prog_8_method_27_code
def yX6_echoesWithHeir : MethodName := ⟨RX6, "echoesWithHeir", "(I)I"⟩
abbrev cX6_rowForSpreading : ByteArray := prog_8_method_28_code
def yX6_rowForSpreading : MethodName := ⟨RX6, "rowForSpreading", "(I)I"⟩
def RX7 : String := "EchoCensus"
def TX7 : u_T := fun k => match k with
  | 0 => ("EchoCensus", "history", "LEchoCensus$History;", true)
  | 1 => ("EchoCensus", "saved", "LEchoCensus$Theatre;", true)
  | 2 => ("EchoCensus", "tree", "LEchoCensus$FenwickTree;", true)
  | 3 => ("EchoCensus", "heirTables", "LEchoCensus$HeirTables;", true)
  | 4 => ("EchoCensus", "program", "LEchoCensus$Program;", true)
  | 5 => ("EchoCensus", "input", "Ljava/lang/StringBuilder;", true)
  | 6 => ("EchoCensus", "line", "Ljava/lang/StringBuilder;", true)
  | 7 => ("EchoCensus", "hasSaved", "Z", false)
  | 8 => ("EchoCensus", "storedError", "I", false)
  | _ => ("EchoCensus", "storedFailure", "I", false)
def tyX7 : Nat → FieldType := fun k => match k with
  | 0 => .object "EchoCensus$History"
  | 1 => .object "EchoCensus$Theatre"
  | 2 => .object "EchoCensus$FenwickTree"
  | 3 => .object "EchoCensus$HeirTables"
  | 4 => .object "EchoCensus$Program"
  | 5 => .object "java/lang/StringBuilder"
  | 6 => .object "java/lang/StringBuilder"
  | 7 => .boolean
  | 8 => .int
  | _ => .int
abbrev wsX70 : List Cond := u_ws RX7 TX7 10
theorem nmX7 : ∀ a, a < 10 → ∀ b, b < 10 → a ≠ b → (TX7 a).2.1 ≠ (TX7 b).2.1 := by decide +kernel
theorem tyX7_ok : ∀ k, k < 10 → parseFieldDescriptor (TX7 k).2.2.1 = some (tyX7 k) := by decide +kernel
abbrev cX7_init : ByteArray := prog_1_method_1_code
def yX7_init : MethodName := ⟨RX7, "<init>", "()V"⟩
abbrev cX7_addRow : ByteArray := prog_1_method_2_code
def yX7_addRow : MethodName := ⟨RX7, "addRow", "(I)I"⟩
abbrev cX7_addPhantoms : ByteArray := prog_1_method_3_code
def yX7_addPhantoms : MethodName := ⟨RX7, "addPhantoms", "(II)I"⟩
abbrev cX7_removePhantoms : ByteArray := prog_1_method_4_code
def yX7_removePhantoms : MethodName := ⟨RX7, "removePhantoms", "(II)I"⟩
abbrev cX7_add : ByteArray := prog_1_method_5_code
def yX7_add : MethodName := ⟨RX7, "add", "(II)I"⟩
abbrev cX7_move : ByteArray := prog_1_method_6_code
def yX7_move : MethodName := ⟨RX7, "move", "(II)I"⟩
abbrev cX7_remove : ByteArray := prog_1_method_7_code
def yX7_remove : MethodName := ⟨RX7, "remove", "(I)I"⟩
abbrev cX7_setHeir : ByteArray := prog_1_method_8_code
def yX7_setHeir : MethodName := ⟨RX7, "setHeir", "(II)I"⟩
abbrev cX7_clearHeir : ByteArray := prog_1_method_9_code
def yX7_clearHeir : MethodName := ⟨RX7, "clearHeir", "(I)I"⟩
abbrev cX7_lock : ByteArray := prog_1_method_10_code
def yX7_lock : MethodName := ⟨RX7, "lock", "(I)I"⟩
abbrev cX7_unlock : ByteArray := prog_1_method_11_code
def yX7_unlock : MethodName := ⟨RX7, "unlock", "(I)I"⟩
abbrev cX7_nameRow : ByteArray := prog_1_method_12_code
def yX7_nameRow : MethodName := ⟨RX7, "nameRow", "(CI)I"⟩
abbrev cX7_spread : ByteArray := prog_1_method_13_code
def yX7_spread : MethodName := ⟨RX7, "spread", "(I)I"⟩
abbrev cX7_change : ByteArray := prog_1_method_14_code
def yX7_change : MethodName := ⟨RX7, "change", "(III)I"⟩
abbrev cX7_throwRefusal : ByteArray := prog_1_method_15_code
def yX7_throwRefusal : MethodName := ⟨RX7, "throwRefusal", "(I)V"⟩
abbrev cX7_rowCount : ByteArray := prog_1_method_16_code
def yX7_rowCount : MethodName := ⟨RX7, "rowCount", "()I"⟩
abbrev cX7_capacity : ByteArray := prog_1_method_17_code
def yX7_capacity : MethodName := ⟨RX7, "capacity", "(I)I"⟩
abbrev cX7_occupancy : ByteArray := prog_1_method_19_code
def yX7_occupancy : MethodName := ⟨RX7, "occupancy", "(I)I"⟩
abbrev cX7_isLocked : ByteArray := prog_1_method_22_code
def yX7_isLocked : MethodName := ⟨RX7, "isLocked", "(I)Z"⟩
abbrev cX7_isCrowded : ByteArray := prog_1_method_23_code
def yX7_isCrowded : MethodName := ⟨RX7, "isCrowded", "(I)Z"⟩
abbrev cX7_idInRow : ByteArray := prog_1_method_24_code
def yX7_idInRow : MethodName := ⟨RX7, "idInRow", "(II)I"⟩
abbrev cX7_theatreWithRow : ByteArray := prog_1_method_25_code
def yX7_theatreWithRow : MethodName := ⟨RX7, "theatreWithRow", "(I)LEchoCensus$Theatre;"⟩
abbrev cX7_echoCount : ByteArray := prog_1_method_26_code
def yX7_echoCount : MethodName := ⟨RX7, "echoCount", "()I"⟩
abbrev cX7_isActive : ByteArray := prog_1_method_27_code
def yX7_isActive : MethodName := ⟨RX7, "isActive", "(I)Z"⟩
abbrev cX7_rowOf : ByteArray := prog_1_method_28_code
def yX7_rowOf : MethodName := ⟨RX7, "rowOf", "(I)I"⟩
abbrev cX7_loudness : ByteArray := prog_1_method_29_code
def yX7_loudness : MethodName := ⟨RX7, "loudness", "(I)I"⟩
abbrev cX7_positionInRow : ByteArray := prog_1_method_30_code
def yX7_positionInRow : MethodName := ⟨RX7, "positionInRow", "(I)I"⟩
abbrev cX7_heir : ByteArray := prog_1_method_32_code
def yX7_heir : MethodName := ⟨RX7, "heir", "(I)I"⟩
abbrev cX7_lastHeir : ByteArray := prog_1_method_33_code
def yX7_lastHeir : MethodName := ⟨RX7, "lastHeir", "(I)I"⟩
abbrev cX7_lastHeirByDoubling : ByteArray := prog_1_method_34_code
def yX7_lastHeirByDoubling : MethodName := ⟨RX7, "lastHeirByDoubling", "(I)I"⟩
abbrev cX7_stepsToLastHeir : ByteArray := prog_1_method_35_code
def yX7_stepsToLastHeir : MethodName := ⟨RX7, "stepsToLastHeir", "(I)I"⟩
abbrev cX7_bequeathers : ByteArray := prog_1_method_36_code
def yX7_bequeathers : MethodName := ⟨RX7, "bequeathers", "(I)I"⟩
abbrev cX7_slotOfActive : ByteArray := prog_1_method_37_code
def yX7_slotOfActive : MethodName := ⟨RX7, "slotOfActive", "(I)I"⟩
abbrev cX7_countInRows : ByteArray := prog_1_method_38_code
def yX7_countInRows : MethodName := ⟨RX7, "countInRows", "(II)I"⟩
abbrev cX7_countInRowsByTree : ByteArray := prog_1_method_39_code
def yX7_countInRowsByTree : MethodName := ⟨RX7, "countInRowsByTree", "(II)I"⟩
abbrev cX7_idByRank : ByteArray := prog_1_method_40_code
def yX7_idByRank : MethodName := ⟨RX7, "idByRank", "(I)I"⟩
abbrev cX7_idByRankByTree : ByteArray := prog_1_method_41_code
def yX7_idByRankByTree : MethodName := ⟨RX7, "idByRankByTree", "(I)I"⟩
abbrev cX7_rank : ByteArray := prog_1_method_42_code
def yX7_rank : MethodName := ⟨RX7, "rank", "(I)I"⟩
abbrev cX7_loudest : ByteArray := prog_1_method_43_code
def yX7_loudest : MethodName := ⟨RX7, "loudest", "()I"⟩
abbrev cX7_theatreWithRange : ByteArray := prog_1_method_45_code
def yX7_theatreWithRange : MethodName := ⟨RX7, "theatreWithRange", "(II)LEchoCensus$Theatre;"⟩
abbrev cX7_theatreWithRank : ByteArray := prog_1_method_46_code
def yX7_theatreWithRank : MethodName := ⟨RX7, "theatreWithRank", "(I)LEchoCensus$Theatre;"⟩
abbrev cX7_idRankedByTree : ByteArray := prog_1_method_47_code
def yX7_idRankedByTree : MethodName := ⟨RX7, "idRankedByTree", "(LEchoCensus$Theatre;I)I"⟩
abbrev cX7_namedRow : ByteArray := prog_1_method_49_code
def yX7_namedRow : MethodName := ⟨RX7, "namedRow", "(C)I"⟩
abbrev cX7_boxCount : ByteArray := prog_1_method_50_code
def yX7_boxCount : MethodName := ⟨RX7, "boxCount", "(I)I"⟩
abbrev cX7_rowNamedBy : ByteArray := prog_1_method_51_code
def yX7_rowNamedBy : MethodName := ⟨RX7, "rowNamedBy", "(C)I"⟩
abbrev cX7_moveCount : ByteArray := prog_1_method_52_code
def yX7_moveCount : MethodName := ⟨RX7, "moveCount", "()I"⟩
abbrev cX7_removeCount : ByteArray := prog_1_method_53_code
def yX7_removeCount : MethodName := ⟨RX7, "removeCount", "()I"⟩
abbrev cX7_addedLoudness : ByteArray := prog_1_method_54_code
def yX7_addedLoudness : MethodName := ⟨RX7, "addedLoudness", "()J"⟩
abbrev cX7_lostLoudness : ByteArray := prog_1_method_55_code
def yX7_lostLoudness : MethodName := ⟨RX7, "lostLoudness", "()J"⟩
abbrev cX7_activeLoudness : ByteArray := prog_1_method_56_code
def yX7_activeLoudness : MethodName := ⟨RX7, "activeLoudness", "()J"⟩
abbrev cX7_isConsistent : ByteArray := prog_1_method_59_code
def yX7_isConsistent : MethodName := ⟨RX7, "isConsistent", "()Z"⟩
abbrev cX7_lastHeirsAgree : ByteArray := prog_1_method_60_code
def yX7_lastHeirsAgree : MethodName := ⟨RX7, "lastHeirsAgree", "(LEchoCensus$Theatre;)Z"⟩
abbrev cX7_ranksAgree : ByteArray := prog_1_method_61_code
def yX7_ranksAgree : MethodName := ⟨RX7, "ranksAgree", "(LEchoCensus$Theatre;)Z"⟩
abbrev cX7_rangesAgree : ByteArray := prog_1_method_62_code
def yX7_rangesAgree : MethodName := ⟨RX7, "rangesAgree", "(LEchoCensus$Theatre;)Z"⟩
abbrev cX7_formatRow : ByteArray := prog_1_method_63_code
def yX7_formatRow : MethodName := ⟨RX7, "formatRow", "(I)I"⟩
abbrev cX7_appendEchoesOf : ByteArray := prog_1_method_64_code
def yX7_appendEchoesOf : MethodName := ⟨RX7, "appendEchoesOf", "(LEchoCensus$Theatre;I)V"⟩
abbrev cX7_formatEcho : ByteArray := prog_1_method_65_code
def yX7_formatEcho : MethodName := ⟨RX7, "formatEcho", "(I)I"⟩
abbrev cX7_lineChar : ByteArray := prog_1_method_66_code
def yX7_lineChar : MethodName := ⟨RX7, "lineChar", "(I)C"⟩
abbrev cX7_append : ByteArray := prog_1_method_67_code
def yX7_append : MethodName := ⟨RX7, "append", "(C)I"⟩
abbrev cX7_run : ByteArray := prog_1_method_68_code
def yX7_run : MethodName := ⟨RX7, "run", "()I"⟩
abbrev cX7_undoableCount : ByteArray := prog_1_method_71_code
def yX7_undoableCount : MethodName := ⟨RX7, "undoableCount", "()I"⟩
abbrev cX7_undo : ByteArray := prog_1_method_72_code
def yX7_undo : MethodName := ⟨RX7, "undo", "()I"⟩
abbrev cX7_save : ByteArray := prog_1_method_73_code
def yX7_save : MethodName := ⟨RX7, "save", "()I"⟩
abbrev cX7_restore : ByteArray := prog_1_method_74_code
def yX7_restore : MethodName := ⟨RX7, "restore", "()I"⟩
def RX8 : String := "EchoCensusModel"
def TX8 : u_T := fun k => match k with
  | _ => ("", "", "", false)
def tyX8 : Nat → FieldType := fun k => match k with
  | _ => .int
abbrev wsX80 : List Cond := u_ws RX8 TX8 0
theorem nmX8 : ∀ a, a < 0 → ∀ b, b < 0 → a ≠ b → (TX8 a).2.1 ≠ (TX8 b).2.1 := by decide +kernel
theorem tyX8_ok : ∀ k, k < 0 → parseFieldDescriptor (TX8 k).2.2.1 = some (tyX8 k) := by decide +kernel
def RJx145de : String := "java/io/Serializable"
def TJx145de : u_T := fun k => match k with
  | _ => ("", "", "", false)
def tyJx145de : Nat → FieldType := fun k => match k with
  | _ => .int
abbrev wsJx145de0 : List Cond := u_ws RJx145de TJx145de 0
theorem nmJx145de : ∀ a, a < 0 → ∀ b, b < 0 → a ≠ b → (TJx145de a).2.1 ≠ (TJx145de b).2.1 := by decide +kernel
theorem tyJx145de_ok : ∀ k, k < 0 → parseFieldDescriptor (TJx145de k).2.2.1 = some (tyJx145de k) := by decide +kernel
def RJ5 : String := "java/lang/AbstractStringBuilder"
def TJ5 : u_T := fun k => match k with
  | _ => ("", "", "", false)
def tyJ5 : Nat → FieldType := fun k => match k with
  | _ => .int
abbrev wsJ50 : List Cond := u_ws RJ5 TJ5 0
theorem nmJ5 : ∀ a, a < 0 → ∀ b, b < 0 → a ≠ b → (TJ5 a).2.1 ≠ (TJ5 b).2.1 := by decide +kernel
theorem tyJ5_ok : ∀ k, k < 0 → parseFieldDescriptor (TJ5 k).2.2.1 = some (tyJ5 k) := by decide +kernel
abbrev cJ5_init_d00df : ByteArray := prog_12_method_2_code
def yJ5_init_d00df : MethodName := ⟨RJ5, "<init>", "(I)V"⟩
abbrev cJ5_length_8abf5 : ByteArray := prog_12_method_6_code
def yJ5_length_8abf5 : MethodName := ⟨RJ5, "length", "()I"⟩
abbrev cJ5_ensureCapacityInternal_d00df : ByteArray := prog_12_method_9_code
def yJ5_ensureCapacityInternal_d00df : MethodName := ⟨RJ5, "ensureCapacityInternal", "(I)V"⟩
abbrev cJ5_newCapacity_0f7a4 : ByteArray := prog_12_method_10_code
def yJ5_newCapacity_0f7a4 : MethodName := ⟨RJ5, "newCapacity", "(I)I"⟩
abbrev cJ5_inflate_da8c8 : ByteArray := prog_12_method_11_code
def yJ5_inflate_da8c8 : MethodName := ⟨RJ5, "inflate", "()V"⟩
abbrev cJ5_setLength_d00df : ByteArray := prog_12_method_13_code
def yJ5_setLength_d00df : MethodName := ⟨RJ5, "setLength", "(I)V"⟩
abbrev cJ5_charAt_5068e : ByteArray := prog_12_method_14_code
def yJ5_charAt_5068e : MethodName := ⟨RJ5, "charAt", "(I)C"⟩
abbrev cJ5_append_cf1ce : ByteArray := prog_12_method_22_code
def yJ5_append_cf1ce : MethodName := ⟨RJ5, "append", "(Ljava/lang/String;)Ljava/lang/AbstractStringBuilder;"⟩
abbrev cJ5_appendNull_278bc : ByteArray := prog_12_method_26_code
def yJ5_appendNull_278bc : MethodName := ⟨RJ5, "appendNull", "()Ljava/lang/AbstractStringBuilder;"⟩
abbrev cJ5_append_3fe6f : ByteArray := prog_12_method_31_code
def yJ5_append_3fe6f : MethodName := ⟨RJ5, "append", "(C)Ljava/lang/AbstractStringBuilder;"⟩
abbrev cJ5_append_c97b9 : ByteArray := prog_12_method_32_code
def yJ5_append_c97b9 : MethodName := ⟨RJ5, "append", "(I)Ljava/lang/AbstractStringBuilder;"⟩
abbrev cJ5_getValue_6d5f1 : ByteArray := prog_12_method_64_code
def yJ5_getValue_6d5f1 : MethodName := ⟨RJ5, "getValue", "()[B"⟩
abbrev cJ5_isLatin1_aae02 : ByteArray := prog_12_method_68_code
def yJ5_isLatin1_aae02 : MethodName := ⟨RJ5, "isLatin1", "()Z"⟩
abbrev cJ5_inflateIfNeededFor_a7421 : ByteArray := prog_12_method_71_code
def yJ5_inflateIfNeededFor_a7421 : MethodName := ⟨RJ5, "inflateIfNeededFor", "(Ljava/lang/String;)V"⟩
abbrev cJ5_putStringAt_47b60 : ByteArray := prog_12_method_73_code
def yJ5_putStringAt_47b60 : MethodName := ⟨RJ5, "putStringAt", "(ILjava/lang/String;)V"⟩
def RJx2cfe8 : String := "java/lang/Appendable"
def TJx2cfe8 : u_T := fun k => match k with
  | _ => ("", "", "", false)
def tyJx2cfe8 : Nat → FieldType := fun k => match k with
  | _ => .int
abbrev wsJx2cfe80 : List Cond := u_ws RJx2cfe8 TJx2cfe8 0
theorem nmJx2cfe8 : ∀ a, a < 0 → ∀ b, b < 0 → a ≠ b → (TJx2cfe8 a).2.1 ≠ (TJx2cfe8 b).2.1 := by decide +kernel
theorem tyJx2cfe8_ok : ∀ k, k < 0 → parseFieldDescriptor (TJx2cfe8 k).2.2.1 = some (tyJx2cfe8 k) := by decide +kernel
def RJx00060 : String := "java/lang/ArrayIndexOutOfBoundsException"
def TJx00060 : u_T := fun k => match k with
  | 0 => ("java/lang/Throwable", "backtrace", "Ljava/lang/Object;", false)
  | 1 => ("java/lang/Throwable", "detailMessage", "Ljava/lang/String;", false)
  | 2 => ("java/lang/Throwable", "cause", "Ljava/lang/Throwable;", false)
  | 3 => ("java/lang/Throwable", "stackTrace", "[Ljava/lang/StackTraceElement;", false)
  | 4 => ("java/lang/Throwable", "depth", "I", false)
  | _ => ("java/lang/Throwable", "suppressedExceptions", "Ljava/util/List;", false)
def tyJx00060 : Nat → FieldType := fun k => match k with
  | 0 => .object "java/lang/Object"
  | 1 => .object "java/lang/String"
  | 2 => .object "java/lang/Throwable"
  | 3 => .array (.object "java/lang/StackTraceElement")
  | 4 => .int
  | _ => .object "java/util/List"
abbrev wsJx000600 : List Cond := u_ws RJx00060 TJx00060 6
theorem nmJx00060 : ∀ a, a < 6 → ∀ b, b < 6 → a ≠ b → (TJx00060 a).2.1 ≠ (TJx00060 b).2.1 := by decide +kernel
theorem tyJx00060_ok : ∀ k, k < 6 → parseFieldDescriptor (TJx00060 k).2.2.1 = some (tyJx00060 k) := by decide +kernel
abbrev cJx00060_init_a7421 : ByteArray := prog_14_method_2_code
def yJx00060_init_a7421 : MethodName := ⟨RJx00060, "<init>", "(Ljava/lang/String;)V"⟩
abbrev cJx00060_init_d00df : ByteArray := prog_14_method_3_code
def yJx00060_init_d00df : MethodName := ⟨RJx00060, "<init>", "(I)V"⟩
def RJx9f9b0 : String := "java/lang/CharSequence"
def TJx9f9b0 : u_T := fun k => match k with
  | _ => ("", "", "", false)
def tyJx9f9b0 : Nat → FieldType := fun k => match k with
  | _ => .int
abbrev wsJx9f9b00 : List Cond := u_ws RJx9f9b0 TJx9f9b0 0
theorem nmJx9f9b0 : ∀ a, a < 0 → ∀ b, b < 0 → a ≠ b → (TJx9f9b0 a).2.1 ≠ (TJx9f9b0 b).2.1 := by decide +kernel
theorem tyJx9f9b0_ok : ∀ k, k < 0 → parseFieldDescriptor (TJx9f9b0 k).2.2.1 = some (tyJx9f9b0 k) := by decide +kernel
def RJx8e188 : String := "java/lang/Cloneable"
def TJx8e188 : u_T := fun k => match k with
  | _ => ("", "", "", false)
def tyJx8e188 : Nat → FieldType := fun k => match k with
  | _ => .int
abbrev wsJx8e1880 : List Cond := u_ws RJx8e188 TJx8e188 0
theorem nmJx8e188 : ∀ a, a < 0 → ∀ b, b < 0 → a ≠ b → (TJx8e188 a).2.1 ≠ (TJx8e188 b).2.1 := by decide +kernel
theorem tyJx8e188_ok : ∀ k, k < 0 → parseFieldDescriptor (TJx8e188 k).2.2.1 = some (tyJx8e188 k) := by decide +kernel
def RJxb160c : String := "java/lang/Comparable"
def TJxb160c : u_T := fun k => match k with
  | _ => ("", "", "", false)
def tyJxb160c : Nat → FieldType := fun k => match k with
  | _ => .int
abbrev wsJxb160c0 : List Cond := u_ws RJxb160c TJxb160c 0
theorem nmJxb160c : ∀ a, a < 0 → ∀ b, b < 0 → a ≠ b → (TJxb160c a).2.1 ≠ (TJxb160c b).2.1 := by decide +kernel
theorem tyJxb160c_ok : ∀ k, k < 0 → parseFieldDescriptor (TJxb160c k).2.2.1 = some (tyJxb160c k) := by decide +kernel
def RJ6 : String := "java/lang/Integer"
def TJ6 : u_T := fun k => match k with
  | _ => ("", "", "", false)
def tyJ6 : Nat → FieldType := fun k => match k with
  | _ => .int
abbrev wsJ60 : List Cond := u_ws RJ6 TJ6 0
theorem nmJ6 : ∀ a, a < 0 → ∀ b, b < 0 → a ≠ b → (TJ6 a).2.1 ≠ (TJ6 b).2.1 := by decide +kernel
theorem tyJ6_ok : ∀ k, k < 0 → parseFieldDescriptor (TJ6 k).2.2.1 = some (tyJ6 k) := by decide +kernel
abbrev cJ6_getChars_ba4f3 : ByteArray := prog_22_method_12_code
def yJ6_getChars_ba4f3 : MethodName := ⟨RJ6, "getChars", "(II[B)I"⟩
abbrev cJ6_stringSize_0f7a4 : ByteArray := prog_22_method_13_code
def yJ6_stringSize_0f7a4 : MethodName := ⟨RJ6, "stringSize", "(I)I"⟩
def RJ9 : String := "java/lang/Math"
def TJ9 : u_T := fun k => match k with
  | _ => ("", "", "", false)
def tyJ9 : Nat → FieldType := fun k => match k with
  | _ => .int
abbrev wsJ90 : List Cond := u_ws RJ9 TJ9 0
theorem nmJ9 : ∀ a, a < 0 → ∀ b, b < 0 → a ≠ b → (TJ9 a).2.1 ≠ (TJ9 b).2.1 := by decide +kernel
theorem tyJ9_ok : ∀ k, k < 0 → parseFieldDescriptor (TJ9 k).2.2.1 = some (tyJ9 k) := by decide +kernel
abbrev cJ9_max_7cf53 : ByteArray := prog_23_method_65_code
def yJ9_max_7cf53 : MethodName := ⟨RJ9, "max", "(II)I"⟩
abbrev cJ9_min_7cf53 : ByteArray := prog_23_method_69_code
def yJ9_min_7cf53 : MethodName := ⟨RJ9, "min", "(II)I"⟩
abbrev cJ9_min_f86c9 : ByteArray := prog_23_method_70_code
def yJ9_min_f86c9 : MethodName := ⟨RJ9, "min", "(JJ)J"⟩
def RJxd2413 : String := "java/lang/Number"
def TJxd2413 : u_T := fun k => match k with
  | _ => ("", "", "", false)
def tyJxd2413 : Nat → FieldType := fun k => match k with
  | _ => .int
abbrev wsJxd24130 : List Cond := u_ws RJxd2413 TJxd2413 0
theorem nmJxd2413 : ∀ a, a < 0 → ∀ b, b < 0 → a ≠ b → (TJxd2413 a).2.1 ≠ (TJxd2413 b).2.1 := by decide +kernel
theorem tyJxd2413_ok : ∀ k, k < 0 → parseFieldDescriptor (TJxd2413 k).2.2.1 = some (tyJxd2413 k) := by decide +kernel
def RJ0 : String := "java/lang/String"
def TJ0 : u_T := fun k => match k with
  | 0 => ("java/lang/String", "value", "[B", true)
  | 1 => ("java/lang/String", "coder", "B", true)
  | 2 => ("java/lang/String", "hash", "I", false)
  | _ => ("java/lang/String", "hashIsZero", "Z", false)
def tyJ0 : Nat → FieldType := fun k => match k with
  | 0 => .array .byte
  | 1 => .byte
  | 2 => .int
  | _ => .boolean
abbrev wsJ00 : List Cond := u_ws RJ0 TJ0 4
theorem nmJ0 : ∀ a, a < 4 → ∀ b, b < 4 → a ≠ b → (TJ0 a).2.1 ≠ (TJ0 b).2.1 := by decide +kernel
theorem tyJ0_ok : ∀ k, k < 4 → parseFieldDescriptor (TJ0 k).2.2.1 = some (tyJ0 k) := by decide +kernel
abbrev cJ0_init_81219 : ByteArray := prog_26_method_53_code
def yJ0_init_81219 : MethodName := ⟨RJ0, "<init>", "(Ljava/lang/StringBuilder;)V"⟩
abbrev cJ0_length_8abf5 : ByteArray := prog_26_method_54_code
def yJ0_length_8abf5 : MethodName := ⟨RJ0, "length", "()I"⟩
abbrev cJ0_charAt_5068e : ByteArray := prog_26_method_56_code
def yJ0_charAt_5068e : MethodName := ⟨RJ0, "charAt", "(I)C"⟩
abbrev cJ0_getBytes_840e7 : ByteArray := prog_26_method_147_code
def yJ0_getBytes_840e7 : MethodName := ⟨RJ0, "getBytes", "([BIB)V"⟩
abbrev cJ0_init_db425 : ByteArray := prog_26_method_150_code
def yJ0_init_db425 : MethodName := ⟨RJ0, "<init>", "(Ljava/lang/AbstractStringBuilder;Ljava/lang/Void;)V"⟩
abbrev cJ0_coder_7d493 : ByteArray := prog_26_method_152_code
def yJ0_coder_7d493 : MethodName := ⟨RJ0, "coder", "()B"⟩
abbrev cJ0_isLatin1_aae02 : ByteArray := prog_26_method_154_code
def yJ0_isLatin1_aae02 : MethodName := ⟨RJ0, "isLatin1", "()Z"⟩
abbrev cJ0_checkIndex_df160 : ByteArray := prog_26_method_155_code
def yJ0_checkIndex_df160 : MethodName := ⟨RJ0, "checkIndex", "(II)V"⟩
abbrev cJ0_checkBoundsOffCount_cabcc : ByteArray := prog_26_method_157_code
def yJ0_checkBoundsOffCount_cabcc : MethodName := ⟨RJ0, "checkBoundsOffCount", "(III)I"⟩
abbrev cJ0_checkBoundsBeginEnd_23922 : ByteArray := prog_26_method_158_code
def yJ0_checkBoundsBeginEnd_23922 : MethodName := ⟨RJ0, "checkBoundsBeginEnd", "(III)V"⟩
def RJ4 : String := "java/lang/StringBuilder"
def TJ4 : u_T := fun k => match k with
  | 0 => ("java/lang/AbstractStringBuilder", "value", "[B", false)
  | 1 => ("java/lang/AbstractStringBuilder", "coder", "B", false)
  | 2 => ("java/lang/AbstractStringBuilder", "maybeLatin1", "Z", false)
  | _ => ("java/lang/AbstractStringBuilder", "count", "I", false)
def tyJ4 : Nat → FieldType := fun k => match k with
  | 0 => .array .byte
  | 1 => .byte
  | 2 => .boolean
  | _ => .int
abbrev wsJ40 : List Cond := u_ws RJ4 TJ4 4
theorem nmJ4 : ∀ a, a < 4 → ∀ b, b < 4 → a ≠ b → (TJ4 a).2.1 ≠ (TJ4 b).2.1 := by decide +kernel
theorem tyJ4_ok : ∀ k, k < 4 → parseFieldDescriptor (TJ4 k).2.2.1 = some (tyJ4 k) := by decide +kernel
abbrev cJ4_init_da8c8 : ByteArray := prog_27_method_1_code
def yJ4_init_da8c8 : MethodName := ⟨RJ4, "<init>", "()V"⟩
abbrev cJ4_append_15ec4 : ByteArray := prog_27_method_7_code
def yJ4_append_15ec4 : MethodName := ⟨RJ4, "append", "(Ljava/lang/String;)Ljava/lang/StringBuilder;"⟩
abbrev cJ4_append_cf468 : ByteArray := prog_27_method_14_code
def yJ4_append_cf468 : MethodName := ⟨RJ4, "append", "(C)Ljava/lang/StringBuilder;"⟩
abbrev cJ4_append_bf812 : ByteArray := prog_27_method_15_code
def yJ4_append_bf812 : MethodName := ⟨RJ4, "append", "(I)Ljava/lang/StringBuilder;"⟩
abbrev cJ4_toString_0e30d : ByteArray := prog_27_method_42_code
def yJ4_toString_0e30d : MethodName := ⟨RJ4, "toString", "()Ljava/lang/String;"⟩
abbrev cJ4_charAt_5068e : ByteArray := prog_27_method_88_code
def yJ4_charAt_5068e : MethodName := ⟨RJ4, "charAt", "(I)C"⟩
abbrev cJ4_setLength_d00df : ByteArray := prog_27_method_89_code
def yJ4_setLength_d00df : MethodName := ⟨RJ4, "setLength", "(I)V"⟩
abbrev cJ4_length_8abf5 : ByteArray := prog_27_method_93_code
def yJ4_length_8abf5 : MethodName := ⟨RJ4, "length", "()I"⟩
def RJx7c733 : String := "java/lang/StringIndexOutOfBoundsException"
def TJx7c733 : u_T := fun k => match k with
  | 0 => ("java/lang/Throwable", "backtrace", "Ljava/lang/Object;", false)
  | 1 => ("java/lang/Throwable", "detailMessage", "Ljava/lang/String;", false)
  | 2 => ("java/lang/Throwable", "cause", "Ljava/lang/Throwable;", false)
  | 3 => ("java/lang/Throwable", "stackTrace", "[Ljava/lang/StackTraceElement;", false)
  | 4 => ("java/lang/Throwable", "depth", "I", false)
  | _ => ("java/lang/Throwable", "suppressedExceptions", "Ljava/util/List;", false)
def tyJx7c733 : Nat → FieldType := fun k => match k with
  | 0 => .object "java/lang/Object"
  | 1 => .object "java/lang/String"
  | 2 => .object "java/lang/Throwable"
  | 3 => .array (.object "java/lang/StackTraceElement")
  | 4 => .int
  | _ => .object "java/util/List"
abbrev wsJx7c7330 : List Cond := u_ws RJx7c733 TJx7c733 6
theorem nmJx7c733 : ∀ a, a < 6 → ∀ b, b < 6 → a ≠ b → (TJx7c733 a).2.1 ≠ (TJx7c733 b).2.1 := by decide +kernel
theorem tyJx7c733_ok : ∀ k, k < 6 → parseFieldDescriptor (TJx7c733 k).2.2.1 = some (tyJx7c733 k) := by decide +kernel
abbrev cJx7c733_init_d00df : ByteArray := prog_28_method_3_code
def yJx7c733_init_d00df : MethodName := ⟨RJx7c733, "<init>", "(I)V"⟩
def RJ1 : String := "java/lang/StringLatin1"
def TJ1 : u_T := fun k => match k with
  | _ => ("", "", "", false)
def tyJ1 : Nat → FieldType := fun k => match k with
  | _ => .int
abbrev wsJ10 : List Cond := u_ws RJ1 TJ1 0
theorem nmJ1 : ∀ a, a < 0 → ∀ b, b < 0 → a ≠ b → (TJ1 a).2.1 ≠ (TJ1 b).2.1 := by decide +kernel
theorem tyJ1_ok : ∀ k, k < 0 → parseFieldDescriptor (TJ1 k).2.2.1 = some (tyJ1 k) := by decide +kernel
abbrev cJ1_charAt_3b067 : ByteArray := prog_29_method_2_code
def yJ1_charAt_3b067 : MethodName := ⟨RJ1, "charAt", "([BI)C"⟩
abbrev cJ1_canEncode_fc78d : ByteArray := prog_29_method_3_code
def yJ1_canEncode_fc78d : MethodName := ⟨RJ1, "canEncode", "(C)Z"⟩
abbrev cJ1_fillNull_b72d1 : ByteArray := prog_29_method_48_code
def yJ1_fillNull_b72d1 : MethodName := ⟨RJ1, "fillNull", "([BII)V"⟩
abbrev cJ1_inflate_0e8fd : ByteArray := prog_29_method_50_code
def yJ1_inflate_0e8fd : MethodName := ⟨RJ1, "inflate", "([BI[BII)V"⟩
def RJ2 : String := "java/lang/StringUTF16"
def TJ2 : u_T := fun k => match k with
  | _ => ("", "", "", false)
def tyJ2 : Nat → FieldType := fun k => match k with
  | _ => .int
abbrev wsJ20 : List Cond := u_ws RJ2 TJ2 0
theorem nmJ2 : ∀ a, a < 0 → ∀ b, b < 0 → a ≠ b → (TJ2 a).2.1 ≠ (TJ2 b).2.1 := by decide +kernel
theorem tyJ2_ok : ∀ k, k < 0 → parseFieldDescriptor (TJ2 k).2.2.1 = some (tyJ2 k) := by decide +kernel
abbrev cJ2_newBytesFor_77867 : ByteArray := prog_30_method_2_code
def yJ2_newBytesFor_77867 : MethodName := ⟨RJ2, "newBytesFor", "(I)[B"⟩
abbrev cJ2_newBytesLength_0f7a4 : ByteArray := prog_30_method_3_code
def yJ2_newBytesLength_0f7a4 : MethodName := ⟨RJ2, "newBytesLength", "(I)I"⟩
abbrev cJ2_putChar_b72d1 : ByteArray := prog_30_method_4_code
def yJ2_putChar_b72d1 : MethodName := ⟨RJ2, "putChar", "([BII)V"⟩
abbrev cJ2_getChar_3b067 : ByteArray := prog_30_method_5_code
def yJ2_getChar_3b067 : MethodName := ⟨RJ2, "getChar", "([BI)C"⟩
abbrev cJ2_length_9d52b : ByteArray := prog_30_method_6_code
def yJ2_length_9d52b : MethodName := ⟨RJ2, "length", "([B)I"⟩
abbrev cJ2_coderFromArrayLen_85cad : ByteArray := prog_30_method_15_code
def yJ2_coderFromArrayLen_85cad : MethodName := ⟨RJ2, "coderFromArrayLen", "([BI)B"⟩
abbrev cJ2_compress_39247 : ByteArray := prog_30_method_17_code
def yJ2_compress_39247 : MethodName := ⟨RJ2, "compress", "([BII)[B"⟩
abbrev cJ2_compress_5af95 : ByteArray := prog_30_method_22_code
def yJ2_compress_5af95 : MethodName := ⟨RJ2, "compress", "([BI[BII)I"⟩
abbrev cJ2_fillNull_b72d1 : ByteArray := prog_30_method_70_code
def yJ2_fillNull_b72d1 : MethodName := ⟨RJ2, "fillNull", "([BII)V"⟩
abbrev cJ2_putCharSB_b72d1 : ByteArray := prog_30_method_71_code
def yJ2_putCharSB_b72d1 : MethodName := ⟨RJ2, "putCharSB", "([BII)V"⟩
abbrev cJ2_getChars_46870 : ByteArray := prog_30_method_77_code
def yJ2_getChars_46870 : MethodName := ⟨RJ2, "getChars", "(III[B)I"⟩
abbrev cJ2_putCharsAt_cd4e5 : ByteArray := prog_30_method_81_code
def yJ2_putCharsAt_cd4e5 : MethodName := ⟨RJ2, "putCharsAt", "([BICCCC)I"⟩
abbrev cJ2_charAt_3b067 : ByteArray := prog_30_method_83_code
def yJ2_charAt_3b067 : MethodName := ⟨RJ2, "charAt", "([BI)C"⟩
abbrev cJ2_inflate_0e8fd : ByteArray := prog_30_method_86_code
def yJ2_inflate_0e8fd : MethodName := ⟨RJ2, "inflate", "([BI[BII)V"⟩
abbrev cJ2_getChars_ba4f3 : ByteArray := prog_30_method_89_code
def yJ2_getChars_ba4f3 : MethodName := ⟨RJ2, "getChars", "(II[B)I"⟩
abbrev cJ2_checkIndex_2214a : ByteArray := prog_30_method_91_code
def yJ2_checkIndex_2214a : MethodName := ⟨RJ2, "checkIndex", "(I[B)V"⟩
abbrev cJ2_checkBoundsBeginEnd_d044e : ByteArray := prog_30_method_93_code
def yJ2_checkBoundsBeginEnd_d044e : MethodName := ⟨RJ2, "checkBoundsBeginEnd", "(II[B)V"⟩
abbrev cJ2_checkBoundsOffCount_d044e : ByteArray := prog_30_method_94_code
def yJ2_checkBoundsOffCount_d044e : MethodName := ⟨RJ2, "checkBoundsOffCount", "(II[B)V"⟩
def RJ10 : String := "java/lang/System"
def TJ10 : u_T := fun k => match k with
  | _ => ("", "", "", false)
def tyJ10 : Nat → FieldType := fun k => match k with
  | _ => .int
abbrev wsJ100 : List Cond := u_ws RJ10 TJ10 0
theorem nmJ10 : ∀ a, a < 0 → ∀ b, b < 0 → a ≠ b → (TJ10 a).2.1 ≠ (TJ10 b).2.1 := by decide +kernel
theorem tyJ10_ok : ∀ k, k < 0 → parseFieldDescriptor (TJ10 k).2.2.1 = some (tyJ10 k) := by decide +kernel
def RJxfd54e : String := "java/lang/constant/Constable"
def TJxfd54e : u_T := fun k => match k with
  | _ => ("", "", "", false)
def tyJxfd54e : Nat → FieldType := fun k => match k with
  | _ => .int
abbrev wsJxfd54e0 : List Cond := u_ws RJxfd54e TJxfd54e 0
theorem nmJxfd54e : ∀ a, a < 0 → ∀ b, b < 0 → a ≠ b → (TJxfd54e a).2.1 ≠ (TJxfd54e b).2.1 := by decide +kernel
theorem tyJxfd54e_ok : ∀ k, k < 0 → parseFieldDescriptor (TJxfd54e k).2.2.1 = some (tyJxfd54e k) := by decide +kernel
def RJx3cf43 : String := "java/lang/constant/ConstantDesc"
def TJx3cf43 : u_T := fun k => match k with
  | _ => ("", "", "", false)
def tyJx3cf43 : Nat → FieldType := fun k => match k with
  | _ => .int
abbrev wsJx3cf430 : List Cond := u_ws RJx3cf43 TJx3cf43 0
theorem nmJx3cf43 : ∀ a, a < 0 → ∀ b, b < 0 → a ≠ b → (TJx3cf43 a).2.1 ≠ (TJx3cf43 b).2.1 := by decide +kernel
theorem tyJx3cf43_ok : ∀ k, k < 0 → parseFieldDescriptor (TJx3cf43 k).2.2.1 = some (tyJx3cf43 k) := by decide +kernel
def RJ7 : String := "java/util/Arrays"
def TJ7 : u_T := fun k => match k with
  | _ => ("", "", "", false)
def tyJ7 : Nat → FieldType := fun k => match k with
  | _ => .int
abbrev wsJ70 : List Cond := u_ws RJ7 TJ7 0
theorem nmJ7 : ∀ a, a < 0 → ∀ b, b < 0 → a ≠ b → (TJ7 a).2.1 ≠ (TJ7 b).2.1 := by decide +kernel
theorem tyJ7_ok : ∀ k, k < 0 → parseFieldDescriptor (TJ7 k).2.2.1 = some (tyJ7 k) := by decide +kernel
abbrev cJ7_rangeCheck_23922 : ByteArray := prog_35_method_30_code
def yJ7_rangeCheck_23922 : MethodName := ⟨RJ7, "rangeCheck", "(III)V"⟩
abbrev cJ7_fill_eb02e : ByteArray := prog_35_method_110_code
def yJ7_fill_eb02e : MethodName := ⟨RJ7, "fill", "([BIIB)V"⟩
abbrev cJ7_copyOf_9075b : ByteArray := prog_35_method_121_code
def yJ7_copyOf_9075b : MethodName := ⟨RJ7, "copyOf", "([BI)[B"⟩
abbrev cJ7_checkLength_df160 : ByteArray := prog_35_method_131_code
def yJ7_checkLength_df160 : MethodName := ⟨RJ7, "checkLength", "(II)V"⟩
abbrev cJ7_copyOfRange_39247 : ByteArray := prog_35_method_132_code
def yJ7_copyOfRange_39247 : MethodName := ⟨RJ7, "copyOfRange", "([BII)[B"⟩
abbrev cJ7_copyOfRangeByte_39247 : ByteArray := prog_35_method_133_code
def yJ7_copyOfRangeByte_39247 : MethodName := ⟨RJ7, "copyOfRangeByte", "([BII)[B"⟩
def RJ8 : String := "jdk/internal/util/ArraysSupport"
def TJ8 : u_T := fun k => match k with
  | _ => ("", "", "", false)
def tyJ8 : Nat → FieldType := fun k => match k with
  | _ => .int
abbrev wsJ80 : List Cond := u_ws RJ8 TJ8 0
theorem nmJ8 : ∀ a, a < 0 → ∀ b, b < 0 → a ≠ b → (TJ8 a).2.1 ≠ (TJ8 b).2.1 := by decide +kernel
theorem tyJ8_ok : ∀ k, k < 0 → parseFieldDescriptor (TJ8 k).2.2.1 = some (tyJ8 k) := by decide +kernel
abbrev cJ8_newLength_cabcc : ByteArray := prog_37_method_27_code
def yJ8_newLength_cabcc : MethodName := ⟨RJ8, "newLength", "(III)I"⟩
abbrev cJ8_hugeLength_7cf53 : ByteArray := prog_37_method_28_code
def yJ8_hugeLength_7cf53 : MethodName := ⟨RJ8, "hugeLength", "(II)I"⟩
def RJ3 : String := "jdk/internal/util/Preconditions"
def TJ3 : u_T := fun k => match k with
  | _ => ("", "", "", false)
def tyJ3 : Nat → FieldType := fun k => match k with
  | _ => .int
abbrev wsJ30 : List Cond := u_ws RJ3 TJ3 0
theorem nmJ3 : ∀ a, a < 0 → ∀ b, b < 0 → a ≠ b → (TJ3 a).2.1 ≠ (TJ3 b).2.1 := by decide +kernel
theorem tyJ3_ok : ∀ k, k < 0 → parseFieldDescriptor (TJ3 k).2.2.1 = some (tyJ3 k) := by decide +kernel
abbrev cJ3_checkIndex_8e157 : ByteArray := prog_38_method_11_code
def yJ3_checkIndex_8e157 : MethodName := ⟨RJ3, "checkIndex", "(IILjava/util/function/BiFunction;)I"⟩
abbrev cJ3_checkFromToIndex_8c36e : ByteArray := prog_38_method_12_code
def yJ3_checkFromToIndex_8c36e : MethodName := ⟨RJ3, "checkFromToIndex", "(IIILjava/util/function/BiFunction;)I"⟩
abbrev cJ3_checkFromIndexSize_8c36e : ByteArray := prog_38_method_13_code
def yJ3_checkFromIndexSize_8c36e : MethodName := ⟨RJ3, "checkFromIndexSize", "(IIILjava/util/function/BiFunction;)I"⟩
def RL : String := "EchoCensusLaw"
abbrev cL_addRow : ByteArray := method_2_code
def yL_addRow : MethodName := ⟨RL, "addRow", "(LEchoCensus;I)J"⟩
abbrev cL_addPhantoms : ByteArray := method_3_code
def yL_addPhantoms : MethodName := ⟨RL, "addPhantoms", "(LEchoCensus;II)J"⟩
abbrev cL_removePhantoms : ByteArray := method_4_code
def yL_removePhantoms : MethodName := ⟨RL, "removePhantoms", "(LEchoCensus;II)J"⟩
abbrev cL_add : ByteArray := method_5_code
def yL_add : MethodName := ⟨RL, "add", "(LEchoCensus;II)J"⟩
abbrev cL_move : ByteArray := method_6_code
def yL_move : MethodName := ⟨RL, "move", "(LEchoCensus;II)J"⟩
abbrev cL_remove : ByteArray := method_7_code
def yL_remove : MethodName := ⟨RL, "remove", "(LEchoCensus;I)J"⟩
abbrev cL_setHeir : ByteArray := method_8_code
def yL_setHeir : MethodName := ⟨RL, "setHeir", "(LEchoCensus;II)J"⟩
abbrev cL_clearHeir : ByteArray := method_9_code
def yL_clearHeir : MethodName := ⟨RL, "clearHeir", "(LEchoCensus;I)J"⟩
abbrev cL_lock : ByteArray := method_10_code
def yL_lock : MethodName := ⟨RL, "lock", "(LEchoCensus;I)J"⟩
abbrev cL_unlock : ByteArray := method_11_code
def yL_unlock : MethodName := ⟨RL, "unlock", "(LEchoCensus;I)J"⟩
abbrev cL_nameRow : ByteArray := method_12_code
def yL_nameRow : MethodName := ⟨RL, "nameRow", "(LEchoCensus;CI)J"⟩
abbrev cL_spread : ByteArray := method_13_code
def yL_spread : MethodName := ⟨RL, "spread", "(LEchoCensus;I)J"⟩
abbrev cL_capacity : ByteArray := method_15_code
def yL_capacity : MethodName := ⟨RL, "capacity", "(LEchoCensus;I)J"⟩
abbrev cL_occupancy : ByteArray := method_17_code
def yL_occupancy : MethodName := ⟨RL, "occupancy", "(LEchoCensus;I)J"⟩
abbrev cL_isLocked : ByteArray := method_20_code
def yL_isLocked : MethodName := ⟨RL, "isLocked", "(LEchoCensus;I)J"⟩
abbrev cL_isCrowded : ByteArray := method_21_code
def yL_isCrowded : MethodName := ⟨RL, "isCrowded", "(LEchoCensus;I)J"⟩
abbrev cL_idInRow : ByteArray := method_22_code
def yL_idInRow : MethodName := ⟨RL, "idInRow", "(LEchoCensus;II)J"⟩
abbrev cL_rowOf : ByteArray := method_25_code
def yL_rowOf : MethodName := ⟨RL, "rowOf", "(LEchoCensus;I)J"⟩
abbrev cL_loudness : ByteArray := method_26_code
def yL_loudness : MethodName := ⟨RL, "loudness", "(LEchoCensus;I)J"⟩
abbrev cL_positionInRow : ByteArray := method_27_code
def yL_positionInRow : MethodName := ⟨RL, "positionInRow", "(LEchoCensus;I)J"⟩
abbrev cL_heir : ByteArray := method_29_code
def yL_heir : MethodName := ⟨RL, "heir", "(LEchoCensus;I)J"⟩
abbrev cL_lastHeir : ByteArray := method_30_code
def yL_lastHeir : MethodName := ⟨RL, "lastHeir", "(LEchoCensus;I)J"⟩
abbrev cL_lastHeirByDoubling : ByteArray := method_31_code
def yL_lastHeirByDoubling : MethodName := ⟨RL, "lastHeirByDoubling", "(LEchoCensus;I)J"⟩
abbrev cL_stepsToLastHeir : ByteArray := method_32_code
def yL_stepsToLastHeir : MethodName := ⟨RL, "stepsToLastHeir", "(LEchoCensus;I)J"⟩
abbrev cL_bequeathers : ByteArray := method_33_code
def yL_bequeathers : MethodName := ⟨RL, "bequeathers", "(LEchoCensus;I)J"⟩
abbrev cL_countInRows : ByteArray := method_34_code
def yL_countInRows : MethodName := ⟨RL, "countInRows", "(LEchoCensus;II)J"⟩
abbrev cL_countInRowsByTree : ByteArray := method_35_code
def yL_countInRowsByTree : MethodName := ⟨RL, "countInRowsByTree", "(LEchoCensus;II)J"⟩
abbrev cL_idByRank : ByteArray := method_36_code
def yL_idByRank : MethodName := ⟨RL, "idByRank", "(LEchoCensus;I)J"⟩
abbrev cL_idByRankByTree : ByteArray := method_37_code
def yL_idByRankByTree : MethodName := ⟨RL, "idByRankByTree", "(LEchoCensus;I)J"⟩
abbrev cL_rank : ByteArray := method_38_code
def yL_rank : MethodName := ⟨RL, "rank", "(LEchoCensus;I)J"⟩
abbrev cL_loudest : ByteArray := method_39_code
def yL_loudest : MethodName := ⟨RL, "loudest", "(LEchoCensus;)J"⟩
abbrev cL_namedRow : ByteArray := method_42_code
def yL_namedRow : MethodName := ⟨RL, "namedRow", "(LEchoCensus;C)J"⟩
abbrev cL_boxCount : ByteArray := method_43_code
def yL_boxCount : MethodName := ⟨RL, "boxCount", "(LEchoCensus;I)J"⟩
abbrev cL_formatRow : ByteArray := method_52_code
def yL_formatRow : MethodName := ⟨RL, "formatRow", "(LEchoCensus;I)J"⟩
abbrev cL_formatEcho : ByteArray := method_53_code
def yL_formatEcho : MethodName := ⟨RL, "formatEcho", "(LEchoCensus;I)J"⟩
abbrev cL_lineChar : ByteArray := method_54_code
def yL_lineChar : MethodName := ⟨RL, "lineChar", "(LEchoCensus;I)J"⟩
abbrev cL_append : ByteArray := method_55_code
def yL_append : MethodName := ⟨RL, "append", "(LEchoCensus;C)J"⟩
abbrev cL_run : ByteArray := method_56_code
def yL_run : MethodName := ⟨RL, "run", "(LEchoCensus;)J"⟩
abbrev cL_undo : ByteArray := method_60_code
def yL_undo : MethodName := ⟨RL, "undo", "(LEchoCensus;)J"⟩
abbrev cL_restore : ByteArray := method_62_code
def yL_restore : MethodName := ⟨RL, "restore", "(LEchoCensus;)J"⟩
abbrev cL_cell : ByteArray := method_63_code
def yL_cell : MethodName := ⟨RL, "cell", "([II)I"⟩
abbrev cL_chosen : ByteArray := method_64_code
def yL_chosen : MethodName := ⟨RL, "chosen", "(II)I"⟩
abbrev cL_runs : ByteArray := method_65_code
def yL_runs : MethodName := ⟨RL, "runs", "(LEchoCensus;Ljava/lang/String;)J"⟩
abbrev cL_mark : ByteArray := method_66_code
def yL_mark : MethodName := ⟨RL, "mark", "(LEchoCensus;)J"⟩
abbrev cL_anId : ByteArray := method_67_code
def yL_anId : MethodName := ⟨RL, "anId", "(LEchoCensus;I)I"⟩
abbrev cL_acts : ByteArray := method_68_code
def yL_acts : MethodName := ⟨RL, "acts", "(LEchoCensus;I)J"⟩
abbrev cL_spreads : ByteArray := method_69_code
def yL_spreads : MethodName := ⟨RL, "spreads", "(LEchoCensus;I)Z"⟩
abbrev cL_removes : ByteArray := method_70_code
def yL_removes : MethodName := ⟨RL, "removes", "(LEchoCensus;I)Z"⟩
abbrev cL_fits : ByteArray := method_71_code
def yL_fits : MethodName := ⟨RL, "fits", "(LEchoCensus;I)Z"⟩
abbrev cL_law : ByteArray := code
def yL_law : MethodName := ⟨RL, "law", "([I)Z"⟩
