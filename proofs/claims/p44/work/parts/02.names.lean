/-! ===== BEGIN printed: names, fields, word lists, decode rows ===== -/
def RX0 : String := "CaptionLoom$Bytes"
def TX0 : u_T := fun k => match k with
  | 0 => ("CaptionLoom$Bytes", "bytes", "[I", true)
  | _ => ("CaptionLoom$Bytes", "length", "I", false)
def tyX0 : Nat → FieldType := fun k => match k with
  | 0 => .array .int
  | _ => .int
abbrev wsX00 : List Cond := u_ws RX0 TX0 2
theorem nmX0 : ∀ a, a < 2 → ∀ b, b < 2 → a ≠ b → (TX0 a).2.1 ≠ (TX0 b).2.1 := by decide +kernel
theorem tyX0_ok : ∀ k, k < 2 → parseFieldDescriptor (TX0 k).2.2.1 = some (tyX0 k) := by decide +kernel
abbrev cX0_init : ByteArray := prog_2_method_1_code
def yX0_init : MethodName := ⟨RX0, "<init>", "()V"⟩
abbrev cX0_size : ByteArray := prog_2_method_2_code
def yX0_size : MethodName := ⟨RX0, "size", "()I"⟩
abbrev cX0_cutTo : ByteArray := prog_2_method_3_code
def yX0_cutTo : MethodName := ⟨RX0, "cutTo", "(I)V"⟩
abbrev cX0_addByte : ByteArray := prog_2_method_4_code
def yX0_addByte : MethodName := ⟨RX0, "addByte", "(I)V"⟩
abbrev cX0_byteAt : ByteArray := prog_2_method_5_code
def yX0_byteAt : MethodName := ⟨RX0, "byteAt", "(I)I"⟩
def RX1 : String := "CaptionLoom$Caption"
def TX1 : u_T := fun k => match k with
  | 0 => ("CaptionLoom$Caption", "word", "[I", true)
  | 1 => ("CaptionLoom$Caption", "letters", "I", false)
  | 2 => ("CaptionLoom$Caption", "side", "I", false)
  | 3 => ("CaptionLoom$Caption", "x", "I", false)
  | 4 => ("CaptionLoom$Caption", "y", "I", false)
  | _ => ("CaptionLoom$Caption", "colour", "I", false)
def tyX1 : Nat → FieldType := fun k => match k with
  | 0 => .array .int
  | 1 => .int
  | 2 => .int
  | 3 => .int
  | 4 => .int
  | _ => .int
abbrev wsX10 : List Cond := u_ws RX1 TX1 6
theorem nmX1 : ∀ a, a < 6 → ∀ b, b < 6 → a ≠ b → (TX1 a).2.1 ≠ (TX1 b).2.1 := by decide +kernel
theorem tyX1_ok : ∀ k, k < 6 → parseFieldDescriptor (TX1 k).2.2.1 = some (tyX1 k) := by decide +kernel
abbrev cX1_init : ByteArray := prog_3_method_1_code
def yX1_init : MethodName := ⟨RX1, "<init>", "()V"⟩
abbrev cX1_copyFrom : ByteArray := prog_3_method_2_code
def yX1_copyFrom : MethodName := ⟨RX1, "copyFrom", "(LCaptionLoom$Caption;)V"⟩
abbrev cX1_takeWord : ByteArray := prog_3_method_3_code
def yX1_takeWord : MethodName := ⟨RX1, "takeWord", "(LCaptionLoom$Bytes;II)V"⟩
abbrev cX1_putAt : ByteArray := prog_3_method_4_code
def yX1_putAt : MethodName := ⟨RX1, "putAt", "(II)V"⟩
abbrev cX1_letterAt : ByteArray := prog_3_method_5_code
def yX1_letterAt : MethodName := ⟨RX1, "letterAt", "(I)I"⟩
abbrev cX1_glyphAt : ByteArray := prog_3_method_6_code
def yX1_glyphAt : MethodName := ⟨RX1, "glyphAt", "(I)I"⟩
abbrev cX1_boxWidth : ByteArray := prog_3_method_7_code
def yX1_boxWidth : MethodName := ⟨RX1, "boxWidth", "()I"⟩
abbrev cX1_leftColumn : ByteArray := prog_3_method_8_code
def yX1_leftColumn : MethodName := ⟨RX1, "leftColumn", "(I)I"⟩
abbrev cX1_meets : ByteArray := prog_3_method_9_code
def yX1_meets : MethodName := ⟨RX1, "meets", "(LCaptionLoom$Caption;I)Z"⟩
abbrev cX1_isMirrored : ByteArray := prog_3_method_10_code
def yX1_isMirrored : MethodName := ⟨RX1, "isMirrored", "()Z"⟩
def RX2 : String := "CaptionLoom$DesignReader"
def TX2 : u_T := fun k => match k with
  | 0 => ("CaptionLoom$DesignReader", "reader", "LCaptionLoom$Reader;", true)
  | 1 => ("CaptionLoom$DesignReader", "box", "LCaptionLoom$Caption;", true)
  | 2 => ("CaptionLoom$DesignReader", "coloursTold", "I", false)
  | _ => ("CaptionLoom$DesignReader", "isDelayTold", "Z", false)
def tyX2 : Nat → FieldType := fun k => match k with
  | 0 => .object "CaptionLoom$Reader"
  | 1 => .object "CaptionLoom$Caption"
  | 2 => .int
  | _ => .boolean
abbrev wsX20 : List Cond := u_ws RX2 TX2 4
theorem nmX2 : ∀ a, a < 4 → ∀ b, b < 4 → a ≠ b → (TX2 a).2.1 ≠ (TX2 b).2.1 := by decide +kernel
theorem tyX2_ok : ∀ k, k < 4 → parseFieldDescriptor (TX2 k).2.2.1 = some (tyX2 k) := by decide +kernel
abbrev cX2_init : ByteArray := prog_4_method_1_code
def yX2_init : MethodName := ⟨RX2, "<init>", "(LCaptionLoom$Reader;)V"⟩
abbrev cX2_readInto : ByteArray := prog_4_method_2_code
def yX2_readInto : MethodName := ⟨RX2, "readInto", "(LCaptionLoom$Loom;)Z"⟩
abbrev cX2_readSize : ByteArray := prog_4_method_3_code
def yX2_readSize : MethodName := ⟨RX2, "readSize", "(LCaptionLoom$Loom;)Z"⟩
abbrev cX2_readStatement : ByteArray := prog_4_method_4_code
def yX2_readStatement : MethodName := ⟨RX2, "readStatement", "(LCaptionLoom$Loom;)Z"⟩
abbrev cX2_readCaption : ByteArray := prog_4_method_5_code
def yX2_readCaption : MethodName := ⟨RX2, "readCaption", "(LCaptionLoom$Loom;)Z"⟩
abbrev cX2_readCaptionWord : ByteArray := prog_4_method_6_code
def yX2_readCaptionWord : MethodName := ⟨RX2, "readCaptionWord", "()Z"⟩
abbrev cX2_readCaptionPlace : ByteArray := prog_4_method_7_code
def yX2_readCaptionPlace : MethodName := ⟨RX2, "readCaptionPlace", "(LCaptionLoom$Loom;)Z"⟩
abbrev cX2_readStock : ByteArray := prog_4_method_8_code
def yX2_readStock : MethodName := ⟨RX2, "readStock", "(LCaptionLoom$Loom;)Z"⟩
abbrev cX2_readDelay : ByteArray := prog_4_method_9_code
def yX2_readDelay : MethodName := ⟨RX2, "readDelay", "(LCaptionLoom$Loom;)Z"⟩
def RX3 : String := "CaptionLoom$Grid"
def TX3 : u_T := fun k => match k with
  | _ => ("CaptionLoom$Grid", "words", "[J", true)
def tyX3 : Nat → FieldType := fun k => match k with
  | _ => .array .long
abbrev wsX30 : List Cond := u_ws RX3 TX3 1
theorem nmX3 : ∀ a, a < 1 → ∀ b, b < 1 → a ≠ b → (TX3 a).2.1 ≠ (TX3 b).2.1 := by decide +kernel
theorem tyX3_ok : ∀ k, k < 1 → parseFieldDescriptor (TX3 k).2.2.1 = some (tyX3 k) := by decide +kernel
abbrev cX3_init : ByteArray := prog_5_method_1_code
def yX3_init : MethodName := ⟨RX3, "<init>", "()V"⟩
abbrev cX3_copyFrom : ByteArray := prog_5_method_2_code
def yX3_copyFrom : MethodName := ⟨RX3, "copyFrom", "(LCaptionLoom$Grid;)V"⟩
abbrev cX3_get : ByteArray := prog_5_method_3_code
def yX3_get : MethodName := ⟨RX3, "get", "(II)I"⟩
abbrev cX3_set : ByteArray := prog_5_method_4_code
def yX3_set : MethodName := ⟨RX3, "set", "(III)V"⟩
abbrev cX3_clearToGround : ByteArray := prog_5_method_5_code
def yX3_clearToGround : MethodName := ⟨RX3, "clearToGround", "()V"⟩
abbrev cX3_clearFrom : ByteArray := prog_5_method_6_code
def yX3_clearFrom : MethodName := ⟨RX3, "clearFrom", "(I)V"⟩
abbrev cX3_isCell : ByteArray := prog_5_method_7_code
def yX3_isCell : MethodName := ⟨RX3, "isCell", "(II)Z"⟩
abbrev cX3_shiftOf : ByteArray := prog_5_method_8_code
def yX3_shiftOf : MethodName := ⟨RX3, "shiftOf", "(I)I"⟩
def RX4 : String := "CaptionLoom$History"
def TX4 : u_T := fun k => match k with
  | 0 => ("CaptionLoom$History", "looms", "[LCaptionLoom$Loom;", true)
  | 1 => ("CaptionLoom$History", "next", "I", false)
  | _ => ("CaptionLoom$History", "size", "I", false)
def tyX4 : Nat → FieldType := fun k => match k with
  | 0 => .array (.object "CaptionLoom$Loom")
  | 1 => .int
  | _ => .int
abbrev wsX40 : List Cond := u_ws RX4 TX4 3
theorem nmX4 : ∀ a, a < 3 → ∀ b, b < 3 → a ≠ b → (TX4 a).2.1 ≠ (TX4 b).2.1 := by decide +kernel
theorem tyX4_ok : ∀ k, k < 3 → parseFieldDescriptor (TX4 k).2.2.1 = some (tyX4 k) := by decide +kernel
abbrev cX4_init : ByteArray := prog_6_method_1_code
def yX4_init : MethodName := ⟨RX4, "<init>", "()V"⟩
abbrev cX4_clear : ByteArray := prog_6_method_2_code
def yX4_clear : MethodName := ⟨RX4, "clear", "()V"⟩
abbrev cX4_keep : ByteArray := prog_6_method_3_code
def yX4_keep : MethodName := ⟨RX4, "keep", "(LCaptionLoom$Loom;)V"⟩
abbrev cX4_takeLatest : ByteArray := prog_6_method_4_code
def yX4_takeLatest : MethodName := ⟨RX4, "takeLatest", "()LCaptionLoom$Loom;"⟩
def RX5 : String := "CaptionLoom$Loom"
def TX5 : u_T := fun k => match k with
  | 0 => ("CaptionLoom$Loom", "cloth", "LCaptionLoom$Grid;", true)
  | 1 => ("CaptionLoom$Loom", "plan", "LCaptionLoom$Grid;", true)
  | 2 => ("CaptionLoom$Loom", "stocks", "[I", true)
  | 3 => ("CaptionLoom$Loom", "captions", "[LCaptionLoom$Caption;", true)
  | 4 => ("CaptionLoom$Loom", "noCaption", "LCaptionLoom$Caption;", true)
  | 5 => ("CaptionLoom$Loom", "captionCount", "I", false)
  | 6 => ("CaptionLoom$Loom", "width", "I", false)
  | 7 => ("CaptionLoom$Loom", "height", "I", false)
  | 8 => ("CaptionLoom$Loom", "finished", "I", false)
  | 9 => ("CaptionLoom$Loom", "looked", "I", false)
  | _ => ("CaptionLoom$Loom", "delay", "I", false)
def tyX5 : Nat → FieldType := fun k => match k with
  | 0 => .object "CaptionLoom$Grid"
  | 1 => .object "CaptionLoom$Grid"
  | 2 => .array .int
  | 3 => .array (.object "CaptionLoom$Caption")
  | 4 => .object "CaptionLoom$Caption"
  | 5 => .int
  | 6 => .int
  | 7 => .int
  | 8 => .int
  | 9 => .int
  | _ => .int
abbrev wsX50 : List Cond := u_ws RX5 TX5 11
theorem nmX5 : ∀ a, a < 11 → ∀ b, b < 11 → a ≠ b → (TX5 a).2.1 ≠ (TX5 b).2.1 := by decide +kernel
theorem tyX5_ok : ∀ k, k < 11 → parseFieldDescriptor (TX5 k).2.2.1 = some (tyX5 k) := by decide +kernel
abbrev cX5_init : ByteArray := prog_7_method_1_code
def yX5_init : MethodName := ⟨RX5, "<init>", "()V"⟩
abbrev cX5_reset : ByteArray := prog_7_method_2_code
def yX5_reset : MethodName := ⟨RX5, "reset", "(II)V"⟩
abbrev cX5_copyFrom : ByteArray := prog_7_method_3_code
def yX5_copyFrom : MethodName := ⟨RX5, "copyFrom", "(LCaptionLoom$Loom;)V"⟩
abbrev cX5_hasColumn : ByteArray := prog_7_method_4_code
def yX5_hasColumn : MethodName := ⟨RX5, "hasColumn", "(I)Z"⟩
abbrev cX5_hasRow : ByteArray := prog_7_method_5_code
def yX5_hasRow : MethodName := ⟨RX5, "hasRow", "(I)Z"⟩
abbrev cX5_isOpen : ByteArray := prog_7_method_6_code
def yX5_isOpen : MethodName := ⟨RX5, "isOpen", "()Z"⟩
abbrev cX5_turned : ByteArray := prog_7_method_7_code
def yX5_turned : MethodName := ⟨RX5, "turned", "(I)I"⟩
abbrev cX5_stockOf : ByteArray := prog_7_method_8_code
def yX5_stockOf : MethodName := ⟨RX5, "stockOf", "(I)I"⟩
abbrev cX5_captionAt : ByteArray := prog_7_method_9_code
def yX5_captionAt : MethodName := ⟨RX5, "captionAt", "(I)LCaptionLoom$Caption;"⟩
abbrev cX5_allLetters : ByteArray := prog_7_method_10_code
def yX5_allLetters : MethodName := ⟨RX5, "allLetters", "()I"⟩
abbrev cX5_holds : ByteArray := prog_7_method_11_code
def yX5_holds : MethodName := ⟨RX5, "holds", "(LCaptionLoom$Caption;)Z"⟩
abbrev cX5_isFree : ByteArray := prog_7_method_12_code
def yX5_isFree : MethodName := ⟨RX5, "isFree", "(LCaptionLoom$Caption;I)Z"⟩
abbrev cX5_hang : ByteArray := prog_7_method_13_code
def yX5_hang : MethodName := ⟨RX5, "hang", "(LCaptionLoom$Caption;)V"⟩
abbrev cX5_takeAway : ByteArray := prog_7_method_14_code
def yX5_takeAway : MethodName := ⟨RX5, "takeAway", "(I)V"⟩
abbrev cX5_paint : ByteArray := prog_7_method_15_code
def yX5_paint : MethodName := ⟨RX5, "paint", "()V"⟩
abbrev cX5_paintLetter : ByteArray := prog_7_method_16_code
def yX5_paintLetter : MethodName := ⟨RX5, "paintLetter", "(LCaptionLoom$Caption;I)V"⟩
abbrev cX5_columnOfBit : ByteArray := prog_7_method_17_code
def yX5_columnOfBit : MethodName := ⟨RX5, "columnOfBit", "(LCaptionLoom$Caption;II)I"⟩
abbrev cX5_rowOfBit : ByteArray := prog_7_method_18_code
def yX5_rowOfBit : MethodName := ⟨RX5, "rowOfBit", "(LCaptionLoom$Caption;I)I"⟩
abbrev cX5_picture : ByteArray := prog_7_method_19_code
def yX5_picture : MethodName := ⟨RX5, "picture", "(LCaptionLoom$Caption;I)I"⟩
abbrev cX5_ghost : ByteArray := prog_7_method_20_code
def yX5_ghost : MethodName := ⟨RX5, "ghost", "(LCaptionLoom$Caption;I)I"⟩
abbrev cX5_finishedRowsOf : ByteArray := prog_7_method_21_code
def yX5_finishedRowsOf : MethodName := ⟨RX5, "finishedRowsOf", "(LCaptionLoom$Caption;)I"⟩
abbrev cX5_isReadable : ByteArray := prog_7_method_22_code
def yX5_isReadable : MethodName := ⟨RX5, "isReadable", "(LCaptionLoom$Caption;)Z"⟩
abbrev cX5_read : ByteArray := prog_7_method_23_code
def yX5_read : MethodName := ⟨RX5, "read", "(LCaptionLoom$Caption;I)I"⟩
abbrev cX5_readTurned : ByteArray := prog_7_method_24_code
def yX5_readTurned : MethodName := ⟨RX5, "readTurned", "(LCaptionLoom$Caption;I)I"⟩
abbrev cX5_lettersRead : ByteArray := prog_7_method_25_code
def yX5_lettersRead : MethodName := ⟨RX5, "lettersRead", "(LCaptionLoom$Caption;)I"⟩
abbrev cX5_lettersReadTurned : ByteArray := prog_7_method_26_code
def yX5_lettersReadTurned : MethodName := ⟨RX5, "lettersReadTurned", "(LCaptionLoom$Caption;)I"⟩
abbrev cX5_ghostsShown : ByteArray := prog_7_method_27_code
def yX5_ghostsShown : MethodName := ⟨RX5, "ghostsShown", "(LCaptionLoom$Caption;)I"⟩
abbrev cX5_mistakesInBox : ByteArray := prog_7_method_28_code
def yX5_mistakesInBox : MethodName := ⟨RX5, "mistakesInBox", "(LCaptionLoom$Caption;)I"⟩
abbrev cX5_isEmpty : ByteArray := prog_7_method_29_code
def yX5_isEmpty : MethodName := ⟨RX5, "isEmpty", "(II)Z"⟩
abbrev cX5_filledCells : ByteArray := prog_7_method_30_code
def yX5_filledCells : MethodName := ⟨RX5, "filledCells", "()I"⟩
abbrev cX5_wovenCells : ByteArray := prog_7_method_31_code
def yX5_wovenCells : MethodName := ⟨RX5, "wovenCells", "(III)I"⟩
abbrev cX5_plannedCells : ByteArray := prog_7_method_32_code
def yX5_plannedCells : MethodName := ⟨RX5, "plannedCells", "(I)I"⟩
abbrev cX5_cellsToWeave : ByteArray := prog_7_method_33_code
def yX5_cellsToWeave : MethodName := ⟨RX5, "cellsToWeave", "(I)I"⟩
abbrev cX5_planned : ByteArray := prog_7_method_34_code
def yX5_planned : MethodName := ⟨RX5, "planned", "(IIZ)I"⟩
abbrev cX5_addNeeds : ByteArray := prog_7_method_35_code
def yX5_addNeeds : MethodName := ⟨RX5, "addNeeds", "([IIZ)V"⟩
abbrev cX5_suffices : ByteArray := prog_7_method_36_code
def yX5_suffices : MethodName := ⟨RX5, "suffices", "([I)Z"⟩
abbrev cX5_giveCell : ByteArray := prog_7_method_37_code
def yX5_giveCell : MethodName := ⟨RX5, "giveCell", "(III)V"⟩
abbrev cX5_fillRow : ByteArray := prog_7_method_38_code
def yX5_fillRow : MethodName := ⟨RX5, "fillRow", "(IZ)V"⟩
abbrev cX5_clearFrom : ByteArray := prog_7_method_39_code
def yX5_clearFrom : MethodName := ⟨RX5, "clearFrom", "(I)V"⟩
abbrev cX5_isMistake : ByteArray := prog_7_method_40_code
def yX5_isMistake : MethodName := ⟨RX5, "isMistake", "(II)Z"⟩
abbrev cX5_isSeen : ByteArray := prog_7_method_41_code
def yX5_isSeen : MethodName := ⟨RX5, "isSeen", "(I)Z"⟩
abbrev cX5_mistakesOf : ByteArray := prog_7_method_42_code
def yX5_mistakesOf : MethodName := ⟨RX5, "mistakesOf", "(I)I"⟩
abbrev cX5_mistakesFrom : ByteArray := prog_7_method_43_code
def yX5_mistakesFrom : MethodName := ⟨RX5, "mistakesFrom", "(I)I"⟩
abbrev cX5_seenMistakes : ByteArray := prog_7_method_44_code
def yX5_seenMistakes : MethodName := ⟨RX5, "seenMistakes", "()I"⟩
abbrev cX5_faultyRows : ByteArray := prog_7_method_45_code
def yX5_faultyRows : MethodName := ⟨RX5, "faultyRows", "()I"⟩
abbrev cX5_lowestFaultyRow : ByteArray := prog_7_method_46_code
def yX5_lowestFaultyRow : MethodName := ⟨RX5, "lowestFaultyRow", "(Z)I"⟩
abbrev cX5_rowsDownTo : ByteArray := prog_7_method_47_code
def yX5_rowsDownTo : MethodName := ⟨RX5, "rowsDownTo", "(I)I"⟩
abbrev cX5_colourWhenWoven : ByteArray := prog_7_method_48_code
def yX5_colourWhenWoven : MethodName := ⟨RX5, "colourWhenWoven", "(II)I"⟩
abbrev cX5_joinsOf : ByteArray := prog_7_method_49_code
def yX5_joinsOf : MethodName := ⟨RX5, "joinsOf", "(I)I"⟩
abbrev cX5_isJoin : ByteArray := prog_7_method_50_code
def yX5_isJoin : MethodName := ⟨RX5, "isJoin", "(II)Z"⟩
abbrev cX5_minutesFor : ByteArray := prog_7_method_51_code
def yX5_minutesFor : MethodName := ⟨RX5, "minutesFor", "(I)I"⟩
abbrev cX5_slitsOf : ByteArray := prog_7_method_52_code
def yX5_slitsOf : MethodName := ⟨RX5, "slitsOf", "(I)I"⟩
abbrev cX5_longestRun : ByteArray := prog_7_method_53_code
def yX5_longestRun : MethodName := ⟨RX5, "longestRun", "()I"⟩
def RX6 : String := "CaptionLoom$Reader"
def TX6 : u_T := fun k => match k with
  | 0 => ("CaptionLoom$Reader", "text", "LCaptionLoom$Bytes;", true)
  | 1 => ("CaptionLoom$Reader", "kind", "I", false)
  | 2 => ("CaptionLoom$Reader", "start", "I", false)
  | 3 => ("CaptionLoom$Reader", "behind", "I", false)
  | 4 => ("CaptionLoom$Reader", "value", "I", false)
  | 5 => ("CaptionLoom$Reader", "number", "I", false)
  | 6 => ("CaptionLoom$Reader", "code", "I", false)
  | _ => ("CaptionLoom$Reader", "position", "I", false)
def tyX6 : Nat → FieldType := fun k => match k with
  | 0 => .object "CaptionLoom$Bytes"
  | 1 => .int
  | 2 => .int
  | 3 => .int
  | 4 => .int
  | 5 => .int
  | 6 => .int
  | _ => .int
abbrev wsX60 : List Cond := u_ws RX6 TX6 8
theorem nmX6 : ∀ a, a < 8 → ∀ b, b < 8 → a ≠ b → (TX6 a).2.1 ≠ (TX6 b).2.1 := by decide +kernel
theorem tyX6_ok : ∀ k, k < 8 → parseFieldDescriptor (TX6 k).2.2.1 = some (tyX6 k) := by decide +kernel
abbrev cX6_init : ByteArray := prog_8_method_1_code
def yX6_init : MethodName := ⟨RX6, "<init>", "(LCaptionLoom$Bytes;)V"⟩
abbrev cX6_begin : ByteArray := prog_8_method_2_code
def yX6_begin : MethodName := ⟨RX6, "begin", "()V"⟩
abbrev cX6_fail : ByteArray := prog_8_method_3_code
def yX6_fail : MethodName := ⟨RX6, "fail", "(I)Z"⟩
abbrev cX6_step : ByteArray := prog_8_method_4_code
def yX6_step : MethodName := ⟨RX6, "step", "()V"⟩
abbrev cX6_isBlank : ByteArray := prog_8_method_5_code
def yX6_isBlank : MethodName := ⟨RX6, "isBlank", "(I)Z"⟩
abbrev cX6_isWord : ByteArray := prog_8_method_6_code
def yX6_isWord : MethodName := ⟨RX6, "isWord", "(Ljava/lang/String;)Z"⟩
abbrev cX6_takeWord : ByteArray := prog_8_method_7_code
def yX6_takeWord : MethodName := ⟨RX6, "takeWord", "(Ljava/lang/String;)Z"⟩
abbrev cX6_takeMark : ByteArray := prog_8_method_8_code
def yX6_takeMark : MethodName := ⟨RX6, "takeMark", "(I)Z"⟩
abbrev cX6_seesNumber : ByteArray := prog_8_method_9_code
def yX6_seesNumber : MethodName := ⟨RX6, "seesNumber", "(II)Z"⟩
abbrev cX6_takeNumber : ByteArray := prog_8_method_10_code
def yX6_takeNumber : MethodName := ⟨RX6, "takeNumber", "(II)Z"⟩
def RX7 : String := "CaptionLoom$Script"
def TX7 : u_T := fun k => match k with
  | 0 => ("CaptionLoom$Script", "reader", "LCaptionLoom$Reader;", true)
  | 1 => ("CaptionLoom$Script", "kinds", "[I", true)
  | 2 => ("CaptionLoom$Script", "arguments", "[I", true)
  | 3 => ("CaptionLoom$Script", "timesLeft", "[I", true)
  | 4 => ("CaptionLoom$Script", "steps", "I", false)
  | 5 => ("CaptionLoom$Script", "commands", "I", false)
  | 6 => ("CaptionLoom$Script", "acts", "I", false)
  | 7 => ("CaptionLoom$Script", "openRepeats", "[I", true)
  | 8 => ("CaptionLoom$Script", "actsAhead", "[I", true)
  | 9 => ("CaptionLoom$Script", "depth", "I", false)
  | _ => ("CaptionLoom$Script", "present", "I", false)
def tyX7 : Nat → FieldType := fun k => match k with
  | 0 => .object "CaptionLoom$Reader"
  | 1 => .array .int
  | 2 => .array .int
  | 3 => .array .int
  | 4 => .int
  | 5 => .int
  | 6 => .int
  | 7 => .array .int
  | 8 => .array .int
  | 9 => .int
  | _ => .int
abbrev wsX70 : List Cond := u_ws RX7 TX7 11
theorem nmX7 : ∀ a, a < 11 → ∀ b, b < 11 → a ≠ b → (TX7 a).2.1 ≠ (TX7 b).2.1 := by decide +kernel
theorem tyX7_ok : ∀ k, k < 11 → parseFieldDescriptor (TX7 k).2.2.1 = some (tyX7 k) := by decide +kernel
abbrev cX7_init : ByteArray := prog_9_method_1_code
def yX7_init : MethodName := ⟨RX7, "<init>", "(LCaptionLoom$Reader;)V"⟩
abbrev cX7_compile : ByteArray := prog_9_method_2_code
def yX7_compile : MethodName := ⟨RX7, "compile", "(I)Z"⟩
abbrev cX7_commandKind : ByteArray := prog_9_method_3_code
def yX7_commandKind : MethodName := ⟨RX7, "commandKind", "()I"⟩
abbrev cX7_readCommand : ByteArray := prog_9_method_4_code
def yX7_readCommand : MethodName := ⟨RX7, "readCommand", "(I)Z"⟩
abbrev cX7_addStep : ByteArray := prog_9_method_5_code
def yX7_addStep : MethodName := ⟨RX7, "addStep", "(I)V"⟩
abbrev cX7_readArguments : ByteArray := prog_9_method_6_code
def yX7_readArguments : MethodName := ⟨RX7, "readArguments", "(II)Z"⟩
abbrev cX7_readArgument : ByteArray := prog_9_method_7_code
def yX7_readArgument : MethodName := ⟨RX7, "readArgument", "(III)Z"⟩
abbrev cX7_readBlind : ByteArray := prog_9_method_8_code
def yX7_readBlind : MethodName := ⟨RX7, "readBlind", "()Z"⟩
abbrev cX7_readRepeat : ByteArray := prog_9_method_9_code
def yX7_readRepeat : MethodName := ⟨RX7, "readRepeat", "()Z"⟩
abbrev cX7_readClose : ByteArray := prog_9_method_10_code
def yX7_readClose : MethodName := ⟨RX7, "readClose", "()Z"⟩
abbrev cX7_setArgument : ByteArray := prog_9_method_11_code
def yX7_setArgument : MethodName := ⟨RX7, "setArgument", "(III)V"⟩
abbrev cX7_argumentOf : ByteArray := prog_9_method_12_code
def yX7_argumentOf : MethodName := ⟨RX7, "argumentOf", "(II)I"⟩
abbrev cX7_rewind : ByteArray := prog_9_method_13_code
def yX7_rewind : MethodName := ⟨RX7, "rewind", "()V"⟩
abbrev cX7_advance : ByteArray := prog_9_method_14_code
def yX7_advance : MethodName := ⟨RX7, "advance", "()Z"⟩
abbrev cX7_enterRepeat : ByteArray := prog_9_method_15_code
def yX7_enterRepeat : MethodName := ⟨RX7, "enterRepeat", "()V"⟩
abbrev cX7_goRound : ByteArray := prog_9_method_16_code
def yX7_goRound : MethodName := ⟨RX7, "goRound", "()V"⟩
abbrev cX7_kind : ByteArray := prog_9_method_17_code
def yX7_kind : MethodName := ⟨RX7, "kind", "()I"⟩
abbrev cX7_argument : ByteArray := prog_9_method_18_code
def yX7_argument : MethodName := ⟨RX7, "argument", "(I)I"⟩
def RX8 : String := "CaptionLoom"
def TX8 : u_T := fun k => match k with
  | 0 => ("CaptionLoom", "now", "LCaptionLoom$Loom;", true)
  | 1 => ("CaptionLoom", "draft", "LCaptionLoom$Loom;", true)
  | 2 => ("CaptionLoom", "box", "LCaptionLoom$Caption;", true)
  | 3 => ("CaptionLoom", "history", "LCaptionLoom$History;", true)
  | 4 => ("CaptionLoom", "savedFirst", "LCaptionLoom$Loom;", true)
  | 5 => ("CaptionLoom", "savedSecond", "LCaptionLoom$Loom;", true)
  | 6 => ("CaptionLoom", "slotsInUse", "I", false)
  | 7 => ("CaptionLoom", "accounts", "[I", true)
  | 8 => ("CaptionLoom", "amounts", "[I", true)
  | 9 => ("CaptionLoom", "text", "LCaptionLoom$Bytes;", true)
  | 10 => ("CaptionLoom", "written", "LCaptionLoom$Bytes;", true)
  | 11 => ("CaptionLoom", "reader", "LCaptionLoom$Reader;", true)
  | 12 => ("CaptionLoom", "designReader", "LCaptionLoom$DesignReader;", true)
  | _ => ("CaptionLoom", "script", "LCaptionLoom$Script;", true)
def tyX8 : Nat → FieldType := fun k => match k with
  | 0 => .object "CaptionLoom$Loom"
  | 1 => .object "CaptionLoom$Loom"
  | 2 => .object "CaptionLoom$Caption"
  | 3 => .object "CaptionLoom$History"
  | 4 => .object "CaptionLoom$Loom"
  | 5 => .object "CaptionLoom$Loom"
  | 6 => .int
  | 7 => .array .int
  | 8 => .array .int
  | 9 => .object "CaptionLoom$Bytes"
  | 10 => .object "CaptionLoom$Bytes"
  | 11 => .object "CaptionLoom$Reader"
  | 12 => .object "CaptionLoom$DesignReader"
  | _ => .object "CaptionLoom$Script"
abbrev wsX80 : List Cond := u_ws RX8 TX8 14
theorem nmX8 : ∀ a, a < 14 → ∀ b, b < 14 → a ≠ b → (TX8 a).2.1 ≠ (TX8 b).2.1 := by decide +kernel
theorem tyX8_ok : ∀ k, k < 14 → parseFieldDescriptor (TX8 k).2.2.1 = some (tyX8 k) := by decide +kernel
abbrev cX8_init : ByteArray := prog_1_method_1_code
def yX8_init : MethodName := ⟨RX8, "<init>", "()V"⟩
abbrev cX8_append : ByteArray := prog_1_method_2_code
def yX8_append : MethodName := ⟨RX8, "append", "(IIIII)I"⟩
abbrev cX8_truncate : ByteArray := prog_1_method_3_code
def yX8_truncate : MethodName := ⟨RX8, "truncate", "(I)I"⟩
abbrev cX8_load : ByteArray := prog_1_method_4_code
def yX8_load : MethodName := ⟨RX8, "load", "()I"⟩
abbrev cX8_play : ByteArray := prog_1_method_5_code
def yX8_play : MethodName := ⟨RX8, "play", "()I"⟩
abbrev cX8_errorCode : ByteArray := prog_1_method_6_code
def yX8_errorCode : MethodName := ⟨RX8, "errorCode", "()I"⟩
abbrev cX8_count : ByteArray := prog_1_method_8_code
def yX8_count : MethodName := ⟨RX8, "count", "(I)I"⟩
abbrev cX8_caption : ByteArray := prog_1_method_9_code
def yX8_caption : MethodName := ⟨RX8, "caption", "(II)I"⟩
abbrev cX8_letter : ByteArray := prog_1_method_10_code
def yX8_letter : MethodName := ⟨RX8, "letter", "(III)I"⟩
abbrev cX8_cell : ByteArray := prog_1_method_11_code
def yX8_cell : MethodName := ⟨RX8, "cell", "(II)I"⟩
abbrev cX8_design : ByteArray := prog_1_method_12_code
def yX8_design : MethodName := ⟨RX8, "design", "(II)I"⟩
abbrev cX8_colour : ByteArray := prog_1_method_13_code
def yX8_colour : MethodName := ⟨RX8, "colour", "(II)I"⟩
abbrev cX8_mistakes : ByteArray := prog_1_method_14_code
def yX8_mistakes : MethodName := ⟨RX8, "mistakes", "(I)I"⟩
abbrev cX8_fits : ByteArray := prog_1_method_15_code
def yX8_fits : MethodName := ⟨RX8, "fits", "()Z"⟩
abbrev cX8_isAlike : ByteArray := prog_1_method_16_code
def yX8_isAlike : MethodName := ⟨RX8, "isAlike", "(I)Z"⟩
abbrev cX8_joins : ByteArray := prog_1_method_17_code
def yX8_joins : MethodName := ⟨RX8, "joins", "(I)I"⟩
abbrev cX8_slits : ByteArray := prog_1_method_18_code
def yX8_slits : MethodName := ⟨RX8, "slits", "(I)I"⟩
abbrev cX8_longestSlit : ByteArray := prog_1_method_19_code
def yX8_longestSlit : MethodName := ⟨RX8, "longestSlit", "()I"⟩
abbrev cX8_account : ByteArray := prog_1_method_20_code
def yX8_account : MethodName := ⟨RX8, "account", "(I)I"⟩
abbrev cX8_lasts : ByteArray := prog_1_method_21_code
def yX8_lasts : MethodName := ⟨RX8, "lasts", "()I"⟩
abbrev cX8_minutes : ByteArray := prog_1_method_22_code
def yX8_minutes : MethodName := ⟨RX8, "minutes", "(I)I"⟩
abbrev cX8_wouldErr : ByteArray := prog_1_method_23_code
def yX8_wouldErr : MethodName := ⟨RX8, "wouldErr", "(I)I"⟩
abbrev cX8_place : ByteArray := prog_1_method_24_code
def yX8_place : MethodName := ⟨RX8, "place", "(II)I"⟩
abbrev cX8_meanJoins : ByteArray := prog_1_method_26_code
def yX8_meanJoins : MethodName := ⟨RX8, "meanJoins", "()D"⟩
abbrev cX8_pass : ByteArray := prog_1_method_27_code
def yX8_pass : MethodName := ⟨RX8, "pass", "(III)I"⟩
abbrev cX8_beat : ByteArray := prog_1_method_28_code
def yX8_beat : MethodName := ⟨RX8, "beat", "()I"⟩
abbrev cX8_weave : ByteArray := prog_1_method_29_code
def yX8_weave : MethodName := ⟨RX8, "weave", "(IZ)I"⟩
abbrev cX8_unpick : ByteArray := prog_1_method_30_code
def yX8_unpick : MethodName := ⟨RX8, "unpick", "(I)I"⟩
abbrev cX8_look : ByteArray := prog_1_method_31_code
def yX8_look : MethodName := ⟨RX8, "look", "()I"⟩
abbrev cX8_add : ByteArray := prog_1_method_32_code
def yX8_add : MethodName := ⟨RX8, "add", "(IIII)I"⟩
abbrev cX8_drop : ByteArray := prog_1_method_33_code
def yX8_drop : MethodName := ⟨RX8, "drop", "(I)I"⟩
abbrev cX8_move : ByteArray := prog_1_method_34_code
def yX8_move : MethodName := ⟨RX8, "move", "(III)I"⟩
abbrev cX8_setStock : ByteArray := prog_1_method_35_code
def yX8_setStock : MethodName := ⟨RX8, "setStock", "(II)I"⟩
abbrev cX8_setDelay : ByteArray := prog_1_method_36_code
def yX8_setDelay : MethodName := ⟨RX8, "setDelay", "(I)I"⟩
abbrev cX8_writeRow : ByteArray := prog_1_method_37_code
def yX8_writeRow : MethodName := ⟨RX8, "writeRow", "(IZ)I"⟩
abbrev cX8_output : ByteArray := prog_1_method_39_code
def yX8_output : MethodName := ⟨RX8, "output", "(I)I"⟩
abbrev cX8_undo : ByteArray := prog_1_method_40_code
def yX8_undo : MethodName := ⟨RX8, "undo", "()I"⟩
abbrev cX8_at : ByteArray := prog_1_method_43_code
def yX8_at : MethodName := ⟨RX8, "at", "([II)I"⟩
abbrev cX8_put : ByteArray := prog_1_method_44_code
def yX8_put : MethodName := ⟨RX8, "put", "([III)V"⟩
abbrev cX8_isLetter : ByteArray := prog_1_method_45_code
def yX8_isLetter : MethodName := ⟨RX8, "isLetter", "(I)Z"⟩
abbrev cX8_isDigit : ByteArray := prog_1_method_46_code
def yX8_isDigit : MethodName := ⟨RX8, "isDigit", "(I)Z"⟩
abbrev cX8_isSide : ByteArray := prog_1_method_47_code
def yX8_isSide : MethodName := ⟨RX8, "isSide", "(I)Z"⟩
abbrev cX8_mirrored : ByteArray := prog_1_method_48_code
def yX8_mirrored : MethodName := ⟨RX8, "mirrored", "(I)I"⟩
abbrev cX8_letterFor : ByteArray := prog_1_method_49_code
def yX8_letterFor : MethodName := ⟨RX8, "letterFor", "(I)I"⟩
abbrev cX8_checkCaption : ByteArray := prog_1_method_51_code
def yX8_checkCaption : MethodName := ⟨RX8, "checkCaption", "(I)V"⟩
abbrev cX8_checkCell : ByteArray := prog_1_method_52_code
def yX8_checkCell : MethodName := ⟨RX8, "checkCell", "(II)V"⟩
abbrev cX8_checkRow : ByteArray := prog_1_method_53_code
def yX8_checkRow : MethodName := ⟨RX8, "checkRow", "(I)V"⟩
abbrev cX8_checkColour : ByteArray := prog_1_method_54_code
def yX8_checkColour : MethodName := ⟨RX8, "checkColour", "(I)V"⟩
abbrev cX8_appendFour : ByteArray := prog_1_method_57_code
def yX8_appendFour : MethodName := ⟨RX8, "appendFour", "(I)V"⟩
abbrev cX8_isWordOfText : ByteArray := prog_1_method_58_code
def yX8_isWordOfText : MethodName := ⟨RX8, "isWordOfText", "()Z"⟩
abbrev cX8_reasonAgainstBox : ByteArray := prog_1_method_59_code
def yX8_reasonAgainstBox : MethodName := ⟨RX8, "reasonAgainstBox", "(I)I"⟩
abbrev cX8_refuse : ByteArray := prog_1_method_60_code
def yX8_refuse : MethodName := ⟨RX8, "refuse", "(I)I"⟩
abbrev cX8_beginAct : ByteArray := prog_1_method_61_code
def yX8_beginAct : MethodName := ⟨RX8, "beginAct", "()V"⟩
abbrev cX8_doCommand : ByteArray := prog_1_method_62_code
def yX8_doCommand : MethodName := ⟨RX8, "doCommand", "()I"⟩
abbrev cX8_doPass : ByteArray := prog_1_method_63_code
def yX8_doPass : MethodName := ⟨RX8, "doPass", "(III)I"⟩
abbrev cX8_doBeat : ByteArray := prog_1_method_64_code
def yX8_doBeat : MethodName := ⟨RX8, "doBeat", "()I"⟩
abbrev cX8_doWeave : ByteArray := prog_1_method_65_code
def yX8_doWeave : MethodName := ⟨RX8, "doWeave", "(IZ)I"⟩
abbrev cX8_finishRow : ByteArray := prog_1_method_66_code
def yX8_finishRow : MethodName := ⟨RX8, "finishRow", "()V"⟩
abbrev cX8_doUnpick : ByteArray := prog_1_method_67_code
def yX8_doUnpick : MethodName := ⟨RX8, "doUnpick", "(I)I"⟩
abbrev cX8_doLook : ByteArray := prog_1_method_68_code
def yX8_doLook : MethodName := ⟨RX8, "doLook", "()I"⟩
def RX9 : String := "CaptionLoomLaw$Caption"
def TX9 : u_T := fun k => match k with
  | 0 => ("CaptionLoomLaw$Caption", "word", "Ljava/lang/String;", true)
  | 1 => ("CaptionLoomLaw$Caption", "side", "I", true)
  | 2 => ("CaptionLoomLaw$Caption", "colour", "I", true)
  | 3 => ("CaptionLoomLaw$Caption", "x", "I", true)
  | _ => ("CaptionLoomLaw$Caption", "y", "I", true)
def tyX9 : Nat → FieldType := fun k => match k with
  | 0 => .object "java/lang/String"
  | 1 => .int
  | 2 => .int
  | 3 => .int
  | _ => .int
abbrev wsX90 : List Cond := u_ws RX9 TX9 5
theorem nmX9 : ∀ a, a < 5 → ∀ b, b < 5 → a ≠ b → (TX9 a).2.1 ≠ (TX9 b).2.1 := by decide +kernel
theorem tyX9_ok : ∀ k, k < 5 → parseFieldDescriptor (TX9 k).2.2.1 = some (tyX9 k) := by decide +kernel
abbrev cX9_init : ByteArray := prog_11_method_1_code
def yX9_init : MethodName := ⟨RX9, "<init>", "(Ljava/lang/String;IIII)V"⟩
abbrev cX9_wide : ByteArray := prog_11_method_2_code
def yX9_wide : MethodName := ⟨RX9, "wide", "()I"⟩
abbrev cX9_ink : ByteArray := prog_11_method_3_code
def yX9_ink : MethodName := ⟨RX9, "ink", "(II)Z"⟩
def RX10 : String := "CaptionLoomLaw$Own"
def TX10 : u_T := fun k => match k with
  | 0 => ("CaptionLoomLaw$Own", "wide", "I", false)
  | 1 => ("CaptionLoomLaw$Own", "high", "I", false)
  | 2 => ("CaptionLoomLaw$Own", "delay", "I", false)
  | 3 => ("CaptionLoomLaw$Own", "looked", "I", false)
  | 4 => ("CaptionLoomLaw$Own", "stock", "[I", true)
  | 5 => ("CaptionLoomLaw$Own", "captions", "Ljava/util/List;", true)
  | 6 => ("CaptionLoomLaw$Own", "cloth", "Ljava/util/List;", true)
  | _ => ("CaptionLoomLaw$Own", "whole", "Z", false)
def tyX10 : Nat → FieldType := fun k => match k with
  | 0 => .int
  | 1 => .int
  | 2 => .int
  | 3 => .int
  | 4 => .array .int
  | 5 => .object "java/util/List"
  | 6 => .object "java/util/List"
  | _ => .boolean
abbrev wsX100 : List Cond := u_ws RX10 TX10 8
theorem nmX10 : ∀ a, a < 8 → ∀ b, b < 8 → a ≠ b → (TX10 a).2.1 ≠ (TX10 b).2.1 := by decide +kernel
theorem tyX10_ok : ∀ k, k < 8 → parseFieldDescriptor (TX10 k).2.2.1 = some (tyX10 k) := by decide +kernel
abbrev cX10_init : ByteArray := prog_12_method_1_code
def yX10_init : MethodName := ⟨RX10, "<init>", "()V"⟩
abbrev cX10_empty : ByteArray := prog_12_method_2_code
def yX10_empty : MethodName := ⟨RX10, "empty", "()[I"⟩
abbrev cX10_rows : ByteArray := prog_12_method_3_code
def yX10_rows : MethodName := ⟨RX10, "rows", "()I"⟩
abbrev cX10_finishes : ByteArray := prog_12_method_4_code
def yX10_finishes : MethodName := ⟨RX10, "finishes", "()V"⟩
abbrev cX10_at : ByteArray := prog_12_method_5_code
def yX10_at : MethodName := ⟨RX10, "at", "(II)I"⟩
abbrev cX10_over : ByteArray := prog_12_method_6_code
def yX10_over : MethodName := ⟨RX10, "over", "(LCaptionLoomLaw$Caption;I)I"⟩
abbrev cX10_design : ByteArray := prog_12_method_7_code
def yX10_design : MethodName := ⟨RX10, "design", "(II)I"⟩
abbrev cX10_lies : ByteArray := prog_12_method_8_code
def yX10_lies : MethodName := ⟨RX10, "lies", "(III)Z"⟩
abbrev cX10_meets : ByteArray := prog_12_method_9_code
def yX10_meets : MethodName := ⟨RX10, "meets", "(LCaptionLoomLaw$Caption;LCaptionLoomLaw$Caption;)Z"⟩
abbrev cX10_wrong : ByteArray := prog_12_method_10_code
def yX10_wrong : MethodName := ⟨RX10, "wrong", "(II)Z"⟩
abbrev cX10_wrongs : ByteArray := prog_12_method_11_code
def yX10_wrongs : MethodName := ⟨RX10, "wrongs", "(I)I"⟩
abbrev cX10_seen : ByteArray := prog_12_method_12_code
def yX10_seen : MethodName := ⟨RX10, "seen", "(I)Z"⟩
abbrev cX10_allWrong : ByteArray := prog_12_method_13_code
def yX10_allWrong : MethodName := ⟨RX10, "allWrong", "(Z)I"⟩
abbrev cX10_joins : ByteArray := prog_12_method_14_code
def yX10_joins : MethodName := ⟨RX10, "joins", "(I)I"⟩
abbrev cX10_due : ByteArray := prog_12_method_15_code
def yX10_due : MethodName := ⟨RX10, "due", "(IIZ)I"⟩
abbrev cX10_enough : ByteArray := prog_12_method_16_code
def yX10_enough : MethodName := ⟨RX10, "enough", "(IZ)Z"⟩
abbrev cX10_picture : ByteArray := prog_12_method_17_code
def yX10_picture : MethodName := ⟨RX10, "picture", "(LCaptionLoomLaw$Caption;IZ)I"⟩
def RX11 : String := "CaptionLoomModel"
def TX11 : u_T := fun k => match k with
  | _ => ("", "", "", false)
def tyX11 : Nat → FieldType := fun k => match k with
  | _ => .int
abbrev wsX110 : List Cond := u_ws RX11 TX11 0
theorem nmX11 : ∀ a, a < 0 → ∀ b, b < 0 → a ≠ b → (TX11 a).2.1 ≠ (TX11 b).2.1 := by decide +kernel
theorem tyX11_ok : ∀ k, k < 0 → parseFieldDescriptor (TX11 k).2.2.1 = some (tyX11 k) := by decide +kernel
def RJx145de : String := "java/io/Serializable"
def TJx145de : u_T := fun k => match k with
  | _ => ("", "", "", false)
def tyJx145de : Nat → FieldType := fun k => match k with
  | _ => .int
abbrev wsJx145de0 : List Cond := u_ws RJx145de TJx145de 0
theorem nmJx145de : ∀ a, a < 0 → ∀ b, b < 0 → a ≠ b → (TJx145de a).2.1 ≠ (TJx145de b).2.1 := by decide +kernel
theorem tyJx145de_ok : ∀ k, k < 0 → parseFieldDescriptor (TJx145de k).2.2.1 = some (tyJx145de k) := by decide +kernel
def RJ5 : String := "java/lang/AbstractStringBuilder"
def TJ5 : u_T := fun k => match k with
  | _ => ("", "", "", false)
def tyJ5 : Nat → FieldType := fun k => match k with
  | _ => .int
abbrev wsJ50 : List Cond := u_ws RJ5 TJ5 0
theorem nmJ5 : ∀ a, a < 0 → ∀ b, b < 0 → a ≠ b → (TJ5 a).2.1 ≠ (TJ5 b).2.1 := by decide +kernel
theorem tyJ5_ok : ∀ k, k < 0 → parseFieldDescriptor (TJ5 k).2.2.1 = some (tyJ5 k) := by decide +kernel
abbrev cJ5_init_d00df : ByteArray := prog_15_method_2_code
def yJ5_init_d00df : MethodName := ⟨RJ5, "<init>", "(I)V"⟩
abbrev cJ5_init_a7421 : ByteArray := prog_15_method_3_code
def yJ5_init_a7421 : MethodName := ⟨RJ5, "<init>", "(Ljava/lang/String;)V"⟩
abbrev cJ5_length_8abf5 : ByteArray := prog_15_method_6_code
def yJ5_length_8abf5 : MethodName := ⟨RJ5, "length", "()I"⟩
abbrev cJ5_ensureCapacityInternal_d00df : ByteArray := prog_15_method_9_code
def yJ5_ensureCapacityInternal_d00df : MethodName := ⟨RJ5, "ensureCapacityInternal", "(I)V"⟩
abbrev cJ5_newCapacity_0f7a4 : ByteArray := prog_15_method_10_code
def yJ5_newCapacity_0f7a4 : MethodName := ⟨RJ5, "newCapacity", "(I)I"⟩
abbrev cJ5_inflate_da8c8 : ByteArray := prog_15_method_11_code
def yJ5_inflate_da8c8 : MethodName := ⟨RJ5, "inflate", "()V"⟩
abbrev cJ5_charAt_5068e : ByteArray := prog_15_method_14_code
def yJ5_charAt_5068e : MethodName := ⟨RJ5, "charAt", "(I)C"⟩
abbrev cJ5_append_cf1ce : ByteArray := prog_15_method_22_code
def yJ5_append_cf1ce : MethodName := ⟨RJ5, "append", "(Ljava/lang/String;)Ljava/lang/AbstractStringBuilder;"⟩
abbrev cJ5_appendNull_278bc : ByteArray := prog_15_method_26_code
def yJ5_appendNull_278bc : MethodName := ⟨RJ5, "appendNull", "()Ljava/lang/AbstractStringBuilder;"⟩
abbrev cJ5_append_3fe6f : ByteArray := prog_15_method_31_code
def yJ5_append_3fe6f : MethodName := ⟨RJ5, "append", "(C)Ljava/lang/AbstractStringBuilder;"⟩
abbrev cJ5_append_c97b9 : ByteArray := prog_15_method_32_code
def yJ5_append_c97b9 : MethodName := ⟨RJ5, "append", "(I)Ljava/lang/AbstractStringBuilder;"⟩
abbrev cJ5_getValue_6d5f1 : ByteArray := prog_15_method_64_code
def yJ5_getValue_6d5f1 : MethodName := ⟨RJ5, "getValue", "()[B"⟩
abbrev cJ5_isLatin1_aae02 : ByteArray := prog_15_method_68_code
def yJ5_isLatin1_aae02 : MethodName := ⟨RJ5, "isLatin1", "()Z"⟩
abbrev cJ5_inflateIfNeededFor_a7421 : ByteArray := prog_15_method_71_code
def yJ5_inflateIfNeededFor_a7421 : MethodName := ⟨RJ5, "inflateIfNeededFor", "(Ljava/lang/String;)V"⟩
abbrev cJ5_putStringAt_47b60 : ByteArray := prog_15_method_73_code
def yJ5_putStringAt_47b60 : MethodName := ⟨RJ5, "putStringAt", "(ILjava/lang/String;)V"⟩
def RJx2cfe8 : String := "java/lang/Appendable"
def TJx2cfe8 : u_T := fun k => match k with
  | _ => ("", "", "", false)
def tyJx2cfe8 : Nat → FieldType := fun k => match k with
  | _ => .int
abbrev wsJx2cfe80 : List Cond := u_ws RJx2cfe8 TJx2cfe8 0
theorem nmJx2cfe8 : ∀ a, a < 0 → ∀ b, b < 0 → a ≠ b → (TJx2cfe8 a).2.1 ≠ (TJx2cfe8 b).2.1 := by decide +kernel
theorem tyJx2cfe8_ok : ∀ k, k < 0 → parseFieldDescriptor (TJx2cfe8 k).2.2.1 = some (tyJx2cfe8 k) := by decide +kernel
def RJx9f9b0 : String := "java/lang/CharSequence"
def TJx9f9b0 : u_T := fun k => match k with
  | _ => ("", "", "", false)
def tyJx9f9b0 : Nat → FieldType := fun k => match k with
  | _ => .int
abbrev wsJx9f9b00 : List Cond := u_ws RJx9f9b0 TJx9f9b0 0
theorem nmJx9f9b0 : ∀ a, a < 0 → ∀ b, b < 0 → a ≠ b → (TJx9f9b0 a).2.1 ≠ (TJx9f9b0 b).2.1 := by decide +kernel
theorem tyJx9f9b0_ok : ∀ k, k < 0 → parseFieldDescriptor (TJx9f9b0 k).2.2.1 = some (tyJx9f9b0 k) := by decide +kernel
def RJx8e188 : String := "java/lang/Cloneable"
def TJx8e188 : u_T := fun k => match k with
  | _ => ("", "", "", false)
def tyJx8e188 : Nat → FieldType := fun k => match k with
  | _ => .int
abbrev wsJx8e1880 : List Cond := u_ws RJx8e188 TJx8e188 0
theorem nmJx8e188 : ∀ a, a < 0 → ∀ b, b < 0 → a ≠ b → (TJx8e188 a).2.1 ≠ (TJx8e188 b).2.1 := by decide +kernel
theorem tyJx8e188_ok : ∀ k, k < 0 → parseFieldDescriptor (TJx8e188 k).2.2.1 = some (tyJx8e188 k) := by decide +kernel
def RJxb160c : String := "java/lang/Comparable"
def TJxb160c : u_T := fun k => match k with
  | _ => ("", "", "", false)
def tyJxb160c : Nat → FieldType := fun k => match k with
  | _ => .int
abbrev wsJxb160c0 : List Cond := u_ws RJxb160c TJxb160c 0
theorem nmJxb160c : ∀ a, a < 0 → ∀ b, b < 0 → a ≠ b → (TJxb160c a).2.1 ≠ (TJxb160c b).2.1 := by decide +kernel
theorem tyJxb160c_ok : ∀ k, k < 0 → parseFieldDescriptor (TJxb160c k).2.2.1 = some (tyJxb160c k) := by decide +kernel
def RJ6 : String := "java/lang/Integer"
def TJ6 : u_T := fun k => match k with
  | _ => ("", "", "", false)
def tyJ6 : Nat → FieldType := fun k => match k with
  | _ => .int
abbrev wsJ60 : List Cond := u_ws RJ6 TJ6 0
theorem nmJ6 : ∀ a, a < 0 → ∀ b, b < 0 → a ≠ b → (TJ6 a).2.1 ≠ (TJ6 b).2.1 := by decide +kernel
theorem tyJ6_ok : ∀ k, k < 0 → parseFieldDescriptor (TJ6 k).2.2.1 = some (tyJ6 k) := by decide +kernel
abbrev cJ6_getChars_ba4f3 : ByteArray := prog_24_method_12_code
def yJ6_getChars_ba4f3 : MethodName := ⟨RJ6, "getChars", "(II[B)I"⟩
abbrev cJ6_stringSize_0f7a4 : ByteArray := prog_24_method_13_code
def yJ6_stringSize_0f7a4 : MethodName := ⟨RJ6, "stringSize", "(I)I"⟩
def RJxab1ab : String := "java/lang/Iterable"
def TJxab1ab : u_T := fun k => match k with
  | _ => ("", "", "", false)
def tyJxab1ab : Nat → FieldType := fun k => match k with
  | _ => .int
abbrev wsJxab1ab0 : List Cond := u_ws RJxab1ab TJxab1ab 0
theorem nmJxab1ab : ∀ a, a < 0 → ∀ b, b < 0 → a ≠ b → (TJxab1ab a).2.1 ≠ (TJxab1ab b).2.1 := by decide +kernel
theorem tyJxab1ab_ok : ∀ k, k < 0 → parseFieldDescriptor (TJxab1ab k).2.2.1 = some (tyJxab1ab k) := by decide +kernel
def RJ9 : String := "java/lang/Math"
def TJ9 : u_T := fun k => match k with
  | _ => ("", "", "", false)
def tyJ9 : Nat → FieldType := fun k => match k with
  | _ => .int
abbrev wsJ90 : List Cond := u_ws RJ9 TJ9 0
theorem nmJ9 : ∀ a, a < 0 → ∀ b, b < 0 → a ≠ b → (TJ9 a).2.1 ≠ (TJ9 b).2.1 := by decide +kernel
theorem tyJ9_ok : ∀ k, k < 0 → parseFieldDescriptor (TJ9 k).2.2.1 = some (tyJ9 k) := by decide +kernel
abbrev cJ9_abs_0f7a4 : ByteArray := prog_26_method_59_code
def yJ9_abs_0f7a4 : MethodName := ⟨RJ9, "abs", "(I)I"⟩
abbrev cJ9_max_7cf53 : ByteArray := prog_26_method_65_code
def yJ9_max_7cf53 : MethodName := ⟨RJ9, "max", "(II)I"⟩
abbrev cJ9_min_7cf53 : ByteArray := prog_26_method_69_code
def yJ9_min_7cf53 : MethodName := ⟨RJ9, "min", "(II)I"⟩
def RJxd2413 : String := "java/lang/Number"
def TJxd2413 : u_T := fun k => match k with
  | _ => ("", "", "", false)
def tyJxd2413 : Nat → FieldType := fun k => match k with
  | _ => .int
abbrev wsJxd24130 : List Cond := u_ws RJxd2413 TJxd2413 0
theorem nmJxd2413 : ∀ a, a < 0 → ∀ b, b < 0 → a ≠ b → (TJxd2413 a).2.1 ≠ (TJxd2413 b).2.1 := by decide +kernel
theorem tyJxd2413_ok : ∀ k, k < 0 → parseFieldDescriptor (TJxd2413 k).2.2.1 = some (tyJxd2413 k) := by decide +kernel
def RJ0 : String := "java/lang/String"
def TJ0 : u_T := fun k => match k with
  | 0 => ("java/lang/String", "value", "[B", true)
  | 1 => ("java/lang/String", "coder", "B", true)
  | 2 => ("java/lang/String", "hash", "I", false)
  | _ => ("java/lang/String", "hashIsZero", "Z", false)
def tyJ0 : Nat → FieldType := fun k => match k with
  | 0 => .array .byte
  | 1 => .byte
  | 2 => .int
  | _ => .boolean
abbrev wsJ00 : List Cond := u_ws RJ0 TJ0 4
theorem nmJ0 : ∀ a, a < 4 → ∀ b, b < 4 → a ≠ b → (TJ0 a).2.1 ≠ (TJ0 b).2.1 := by decide +kernel
theorem tyJ0_ok : ∀ k, k < 4 → parseFieldDescriptor (TJ0 k).2.2.1 = some (tyJ0 k) := by decide +kernel
abbrev cJ0_init_81219 : ByteArray := prog_29_method_53_code
def yJ0_init_81219 : MethodName := ⟨RJ0, "<init>", "(Ljava/lang/StringBuilder;)V"⟩
abbrev cJ0_length_8abf5 : ByteArray := prog_29_method_54_code
def yJ0_length_8abf5 : MethodName := ⟨RJ0, "length", "()I"⟩
abbrev cJ0_charAt_5068e : ByteArray := prog_29_method_56_code
def yJ0_charAt_5068e : MethodName := ⟨RJ0, "charAt", "(I)C"⟩
abbrev cJ0_substring_37a41 : ByteArray := prog_29_method_92_code
def yJ0_substring_37a41 : MethodName := ⟨RJ0, "substring", "(II)Ljava/lang/String;"⟩
abbrev cJ0_getBytes_840e7 : ByteArray := prog_29_method_147_code
def yJ0_getBytes_840e7 : MethodName := ⟨RJ0, "getBytes", "([BIB)V"⟩
abbrev cJ0_init_db425 : ByteArray := prog_29_method_150_code
def yJ0_init_db425 : MethodName := ⟨RJ0, "<init>", "(Ljava/lang/AbstractStringBuilder;Ljava/lang/Void;)V"⟩
abbrev cJ0_init_031fb : ByteArray := prog_29_method_151_code
def yJ0_init_031fb : MethodName := ⟨RJ0, "<init>", "([BB)V"⟩
abbrev cJ0_coder_7d493 : ByteArray := prog_29_method_152_code
def yJ0_coder_7d493 : MethodName := ⟨RJ0, "coder", "()B"⟩
abbrev cJ0_isLatin1_aae02 : ByteArray := prog_29_method_154_code
def yJ0_isLatin1_aae02 : MethodName := ⟨RJ0, "isLatin1", "()Z"⟩
abbrev cJ0_checkIndex_df160 : ByteArray := prog_29_method_155_code
def yJ0_checkIndex_df160 : MethodName := ⟨RJ0, "checkIndex", "(II)V"⟩
abbrev cJ0_checkBoundsOffCount_cabcc : ByteArray := prog_29_method_157_code
def yJ0_checkBoundsOffCount_cabcc : MethodName := ⟨RJ0, "checkBoundsOffCount", "(III)I"⟩
abbrev cJ0_checkBoundsBeginEnd_23922 : ByteArray := prog_29_method_158_code
def yJ0_checkBoundsBeginEnd_23922 : MethodName := ⟨RJ0, "checkBoundsBeginEnd", "(III)V"⟩
def RJ4 : String := "java/lang/StringBuilder"
def TJ4 : u_T := fun k => match k with
  | 0 => ("java/lang/AbstractStringBuilder", "value", "[B", false)
  | 1 => ("java/lang/AbstractStringBuilder", "coder", "B", false)
  | 2 => ("java/lang/AbstractStringBuilder", "maybeLatin1", "Z", false)
  | _ => ("java/lang/AbstractStringBuilder", "count", "I", false)
def tyJ4 : Nat → FieldType := fun k => match k with
  | 0 => .array .byte
  | 1 => .byte
  | 2 => .boolean
  | _ => .int
abbrev wsJ40 : List Cond := u_ws RJ4 TJ4 4
theorem nmJ4 : ∀ a, a < 4 → ∀ b, b < 4 → a ≠ b → (TJ4 a).2.1 ≠ (TJ4 b).2.1 := by decide +kernel
theorem tyJ4_ok : ∀ k, k < 4 → parseFieldDescriptor (TJ4 k).2.2.1 = some (tyJ4 k) := by decide +kernel
abbrev cJ4_init_da8c8 : ByteArray := prog_30_method_1_code
def yJ4_init_da8c8 : MethodName := ⟨RJ4, "<init>", "()V"⟩
abbrev cJ4_init_a7421 : ByteArray := prog_30_method_3_code
def yJ4_init_a7421 : MethodName := ⟨RJ4, "<init>", "(Ljava/lang/String;)V"⟩
abbrev cJ4_append_15ec4 : ByteArray := prog_30_method_7_code
def yJ4_append_15ec4 : MethodName := ⟨RJ4, "append", "(Ljava/lang/String;)Ljava/lang/StringBuilder;"⟩
abbrev cJ4_append_cf468 : ByteArray := prog_30_method_14_code
def yJ4_append_cf468 : MethodName := ⟨RJ4, "append", "(C)Ljava/lang/StringBuilder;"⟩
abbrev cJ4_append_bf812 : ByteArray := prog_30_method_15_code
def yJ4_append_bf812 : MethodName := ⟨RJ4, "append", "(I)Ljava/lang/StringBuilder;"⟩
abbrev cJ4_toString_0e30d : ByteArray := prog_30_method_42_code
def yJ4_toString_0e30d : MethodName := ⟨RJ4, "toString", "()Ljava/lang/String;"⟩
abbrev cJ4_append_cf1ce : ByteArray := prog_30_method_80_code
def yJ4_append_cf1ce : MethodName := ⟨RJ4, "append", "(Ljava/lang/String;)Ljava/lang/AbstractStringBuilder;"⟩
abbrev cJ4_charAt_5068e : ByteArray := prog_30_method_88_code
def yJ4_charAt_5068e : MethodName := ⟨RJ4, "charAt", "(I)C"⟩
abbrev cJ4_length_8abf5 : ByteArray := prog_30_method_93_code
def yJ4_length_8abf5 : MethodName := ⟨RJ4, "length", "()I"⟩
def RJ1 : String := "java/lang/StringLatin1"
def TJ1 : u_T := fun k => match k with
  | _ => ("", "", "", false)
def tyJ1 : Nat → FieldType := fun k => match k with
  | _ => .int
abbrev wsJ10 : List Cond := u_ws RJ1 TJ1 0
theorem nmJ1 : ∀ a, a < 0 → ∀ b, b < 0 → a ≠ b → (TJ1 a).2.1 ≠ (TJ1 b).2.1 := by decide +kernel
theorem tyJ1_ok : ∀ k, k < 0 → parseFieldDescriptor (TJ1 k).2.2.1 = some (tyJ1 k) := by decide +kernel
abbrev cJ1_charAt_3b067 : ByteArray := prog_31_method_2_code
def yJ1_charAt_3b067 : MethodName := ⟨RJ1, "charAt", "([BI)C"⟩
abbrev cJ1_canEncode_fc78d : ByteArray := prog_31_method_3_code
def yJ1_canEncode_fc78d : MethodName := ⟨RJ1, "canEncode", "(C)Z"⟩
abbrev cJ1_newString_b4f7a : ByteArray := prog_31_method_47_code
def yJ1_newString_b4f7a : MethodName := ⟨RJ1, "newString", "([BII)Ljava/lang/String;"⟩
abbrev cJ1_inflate_0e8fd : ByteArray := prog_31_method_50_code
def yJ1_inflate_0e8fd : MethodName := ⟨RJ1, "inflate", "([BI[BII)V"⟩
def RJ2 : String := "java/lang/StringUTF16"
def TJ2 : u_T := fun k => match k with
  | _ => ("", "", "", false)
def tyJ2 : Nat → FieldType := fun k => match k with
  | _ => .int
abbrev wsJ20 : List Cond := u_ws RJ2 TJ2 0
theorem nmJ2 : ∀ a, a < 0 → ∀ b, b < 0 → a ≠ b → (TJ2 a).2.1 ≠ (TJ2 b).2.1 := by decide +kernel
theorem tyJ2_ok : ∀ k, k < 0 → parseFieldDescriptor (TJ2 k).2.2.1 = some (tyJ2 k) := by decide +kernel
abbrev cJ2_newBytesFor_77867 : ByteArray := prog_32_method_2_code
def yJ2_newBytesFor_77867 : MethodName := ⟨RJ2, "newBytesFor", "(I)[B"⟩
abbrev cJ2_newBytesLength_0f7a4 : ByteArray := prog_32_method_3_code
def yJ2_newBytesLength_0f7a4 : MethodName := ⟨RJ2, "newBytesLength", "(I)I"⟩
abbrev cJ2_putChar_b72d1 : ByteArray := prog_32_method_4_code
def yJ2_putChar_b72d1 : MethodName := ⟨RJ2, "putChar", "([BII)V"⟩
abbrev cJ2_getChar_3b067 : ByteArray := prog_32_method_5_code
def yJ2_getChar_3b067 : MethodName := ⟨RJ2, "getChar", "([BI)C"⟩
abbrev cJ2_length_9d52b : ByteArray := prog_32_method_6_code
def yJ2_length_9d52b : MethodName := ⟨RJ2, "length", "([B)I"⟩
abbrev cJ2_coderFromArrayLen_85cad : ByteArray := prog_32_method_15_code
def yJ2_coderFromArrayLen_85cad : MethodName := ⟨RJ2, "coderFromArrayLen", "([BI)B"⟩
abbrev cJ2_compress_39247 : ByteArray := prog_32_method_17_code
def yJ2_compress_39247 : MethodName := ⟨RJ2, "compress", "([BII)[B"⟩
abbrev cJ2_compress_5af95 : ByteArray := prog_32_method_22_code
def yJ2_compress_5af95 : MethodName := ⟨RJ2, "compress", "([BI[BII)I"⟩
abbrev cJ2_newString_b4f7a : ByteArray := prog_32_method_69_code
def yJ2_newString_b4f7a : MethodName := ⟨RJ2, "newString", "([BII)Ljava/lang/String;"⟩
abbrev cJ2_putCharSB_b72d1 : ByteArray := prog_32_method_71_code
def yJ2_putCharSB_b72d1 : MethodName := ⟨RJ2, "putCharSB", "([BII)V"⟩
abbrev cJ2_getChars_46870 : ByteArray := prog_32_method_77_code
def yJ2_getChars_46870 : MethodName := ⟨RJ2, "getChars", "(III[B)I"⟩
abbrev cJ2_putCharsAt_cd4e5 : ByteArray := prog_32_method_81_code
def yJ2_putCharsAt_cd4e5 : MethodName := ⟨RJ2, "putCharsAt", "([BICCCC)I"⟩
abbrev cJ2_charAt_3b067 : ByteArray := prog_32_method_83_code
def yJ2_charAt_3b067 : MethodName := ⟨RJ2, "charAt", "([BI)C"⟩
abbrev cJ2_inflate_0e8fd : ByteArray := prog_32_method_86_code
def yJ2_inflate_0e8fd : MethodName := ⟨RJ2, "inflate", "([BI[BII)V"⟩
abbrev cJ2_getChars_ba4f3 : ByteArray := prog_32_method_89_code
def yJ2_getChars_ba4f3 : MethodName := ⟨RJ2, "getChars", "(II[B)I"⟩
abbrev cJ2_checkIndex_2214a : ByteArray := prog_32_method_91_code
def yJ2_checkIndex_2214a : MethodName := ⟨RJ2, "checkIndex", "(I[B)V"⟩
abbrev cJ2_checkBoundsBeginEnd_d044e : ByteArray := prog_32_method_93_code
def yJ2_checkBoundsBeginEnd_d044e : MethodName := ⟨RJ2, "checkBoundsBeginEnd", "(II[B)V"⟩
abbrev cJ2_checkBoundsOffCount_d044e : ByteArray := prog_32_method_94_code
def yJ2_checkBoundsOffCount_d044e : MethodName := ⟨RJ2, "checkBoundsOffCount", "(II[B)V"⟩
def RJ10 : String := "java/lang/System"
def TJ10 : u_T := fun k => match k with
  | _ => ("", "", "", false)
def tyJ10 : Nat → FieldType := fun k => match k with
  | _ => .int
abbrev wsJ100 : List Cond := u_ws RJ10 TJ10 0
theorem nmJ10 : ∀ a, a < 0 → ∀ b, b < 0 → a ≠ b → (TJ10 a).2.1 ≠ (TJ10 b).2.1 := by decide +kernel
theorem tyJ10_ok : ∀ k, k < 0 → parseFieldDescriptor (TJ10 k).2.2.1 = some (tyJ10 k) := by decide +kernel
def RJxfd54e : String := "java/lang/constant/Constable"
def TJxfd54e : u_T := fun k => match k with
  | _ => ("", "", "", false)
def tyJxfd54e : Nat → FieldType := fun k => match k with
  | _ => .int
abbrev wsJxfd54e0 : List Cond := u_ws RJxfd54e TJxfd54e 0
theorem nmJxfd54e : ∀ a, a < 0 → ∀ b, b < 0 → a ≠ b → (TJxfd54e a).2.1 ≠ (TJxfd54e b).2.1 := by decide +kernel
theorem tyJxfd54e_ok : ∀ k, k < 0 → parseFieldDescriptor (TJxfd54e k).2.2.1 = some (tyJxfd54e k) := by decide +kernel
def RJx3cf43 : String := "java/lang/constant/ConstantDesc"
def TJx3cf43 : u_T := fun k => match k with
  | _ => ("", "", "", false)
def tyJx3cf43 : Nat → FieldType := fun k => match k with
  | _ => .int
abbrev wsJx3cf430 : List Cond := u_ws RJx3cf43 TJx3cf43 0
theorem nmJx3cf43 : ∀ a, a < 0 → ∀ b, b < 0 → a ≠ b → (TJx3cf43 a).2.1 ≠ (TJx3cf43 b).2.1 := by decide +kernel
theorem tyJx3cf43_ok : ∀ k, k < 0 → parseFieldDescriptor (TJx3cf43 k).2.2.1 = some (tyJx3cf43 k) := by decide +kernel
def RJxa1e45 : String := "java/util/AbstractCollection"
def TJxa1e45 : u_T := fun k => match k with
  | _ => ("", "", "", false)
def tyJxa1e45 : Nat → FieldType := fun k => match k with
  | _ => .int
abbrev wsJxa1e450 : List Cond := u_ws RJxa1e45 TJxa1e45 0
theorem nmJxa1e45 : ∀ a, a < 0 → ∀ b, b < 0 → a ≠ b → (TJxa1e45 a).2.1 ≠ (TJxa1e45 b).2.1 := by decide +kernel
theorem tyJxa1e45_ok : ∀ k, k < 0 → parseFieldDescriptor (TJxa1e45 k).2.2.1 = some (tyJxa1e45 k) := by decide +kernel
abbrev cJxa1e45_init_da8c8 : ByteArray := prog_37_method_1_code
def yJxa1e45_init_da8c8 : MethodName := ⟨RJxa1e45, "<init>", "()V"⟩
def RJxc12de : String := "java/util/AbstractList"
def TJxc12de : u_T := fun k => match k with
  | _ => ("", "", "", false)
def tyJxc12de : Nat → FieldType := fun k => match k with
  | _ => .int
abbrev wsJxc12de0 : List Cond := u_ws RJxc12de TJxc12de 0
theorem nmJxc12de : ∀ a, a < 0 → ∀ b, b < 0 → a ≠ b → (TJxc12de a).2.1 ≠ (TJxc12de b).2.1 := by decide +kernel
theorem tyJxc12de_ok : ∀ k, k < 0 → parseFieldDescriptor (TJxc12de k).2.2.1 = some (tyJxc12de k) := by decide +kernel
abbrev cJxc12de_init_da8c8 : ByteArray := prog_38_method_1_code
def yJxc12de_init_da8c8 : MethodName := ⟨RJxc12de, "<init>", "()V"⟩
def RJx35411 : String := "java/util/ArrayList$Itr"
def TJx35411 : u_T := fun k => match k with
  | 0 => ("java/util/ArrayList$Itr", "cursor", "I", false)
  | 1 => ("java/util/ArrayList$Itr", "lastRet", "I", false)
  | 2 => ("java/util/ArrayList$Itr", "expectedModCount", "I", false)
  | _ => ("java/util/ArrayList$Itr", "this$0", "Ljava/util/ArrayList;", true)
def tyJx35411 : Nat → FieldType := fun k => match k with
  | 0 => .int
  | 1 => .int
  | 2 => .int
  | _ => .object "java/util/ArrayList"
abbrev wsJx354110 : List Cond := u_ws RJx35411 TJx35411 4
theorem nmJx35411 : ∀ a, a < 4 → ∀ b, b < 4 → a ≠ b → (TJx35411 a).2.1 ≠ (TJx35411 b).2.1 := by decide +kernel
theorem tyJx35411_ok : ∀ k, k < 4 → parseFieldDescriptor (TJx35411 k).2.2.1 = some (tyJx35411 k) := by decide +kernel
abbrev cJx35411_init_45d68 : ByteArray := prog_40_method_1_code
def yJx35411_init_45d68 : MethodName := ⟨RJx35411, "<init>", "(Ljava/util/ArrayList;)V"⟩
abbrev cJx35411_hasNext_aae02 : ByteArray := prog_40_method_2_code
def yJx35411_hasNext_aae02 : MethodName := ⟨RJx35411, "hasNext", "()Z"⟩
abbrev cJx35411_next_0502b : ByteArray := prog_40_method_3_code
def yJx35411_next_0502b : MethodName := ⟨RJx35411, "next", "()Ljava/lang/Object;"⟩
abbrev cJx35411_checkForComodification_da8c8 : ByteArray := prog_40_method_6_code
def yJx35411_checkForComodification_da8c8 : MethodName := ⟨RJx35411, "checkForComodification", "()V"⟩
def RJx4a65c : String := "java/util/ArrayList"
def TJx4a65c : u_T := fun k => match k with
  | 0 => ("java/util/AbstractList", "modCount", "I", false)
  | 1 => ("java/util/ArrayList", "elementData", "[Ljava/lang/Object;", false)
  | _ => ("java/util/ArrayList", "size", "I", false)
def tyJx4a65c : Nat → FieldType := fun k => match k with
  | 0 => .int
  | 1 => .array (.object "java/lang/Object")
  | _ => .int
abbrev wsJx4a65c0 : List Cond := u_ws RJx4a65c TJx4a65c 3
theorem nmJx4a65c : ∀ a, a < 3 → ∀ b, b < 3 → a ≠ b → (TJx4a65c a).2.1 ≠ (TJx4a65c b).2.1 := by decide +kernel
theorem tyJx4a65c_ok : ∀ k, k < 3 → parseFieldDescriptor (TJx4a65c k).2.2.1 = some (tyJx4a65c k) := by decide +kernel
abbrev cJx4a65c_init_da8c8 : ByteArray := prog_39_method_2_code
def yJx4a65c_init_da8c8 : MethodName := ⟨RJx4a65c, "<init>", "()V"⟩
abbrev cJx4a65c_grow_92f84 : ByteArray := prog_39_method_6_code
def yJx4a65c_grow_92f84 : MethodName := ⟨RJx4a65c, "grow", "(I)[Ljava/lang/Object;"⟩
abbrev cJx4a65c_grow_d5877 : ByteArray := prog_39_method_7_code
def yJx4a65c_grow_d5877 : MethodName := ⟨RJx4a65c, "grow", "()[Ljava/lang/Object;"⟩
abbrev cJx4a65c_size_8abf5 : ByteArray := prog_39_method_8_code
def yJx4a65c_size_8abf5 : MethodName := ⟨RJx4a65c, "size", "()I"⟩
abbrev cJx4a65c_isEmpty_aae02 : ByteArray := prog_39_method_9_code
def yJx4a65c_isEmpty_aae02 : MethodName := ⟨RJx4a65c, "isEmpty", "()Z"⟩
abbrev cJx4a65c_elementData_915e3 : ByteArray := prog_39_method_18_code
def yJx4a65c_elementData_915e3 : MethodName := ⟨RJx4a65c, "elementData", "(I)Ljava/lang/Object;"⟩
abbrev cJx4a65c_get_915e3 : ByteArray := prog_39_method_20_code
def yJx4a65c_get_915e3 : MethodName := ⟨RJx4a65c, "get", "(I)Ljava/lang/Object;"⟩
abbrev cJx4a65c_set_bcc79 : ByteArray := prog_39_method_23_code
def yJx4a65c_set_bcc79 : MethodName := ⟨RJx4a65c, "set", "(ILjava/lang/Object;)Ljava/lang/Object;"⟩
abbrev cJx4a65c_add_72be8 : ByteArray := prog_39_method_24_code
def yJx4a65c_add_72be8 : MethodName := ⟨RJx4a65c, "add", "(Ljava/lang/Object;[Ljava/lang/Object;I)V"⟩
abbrev cJx4a65c_add_9ea2d : ByteArray := prog_39_method_25_code
def yJx4a65c_add_9ea2d : MethodName := ⟨RJx4a65c, "add", "(Ljava/lang/Object;)Z"⟩
abbrev cJx4a65c_remove_915e3 : ByteArray := prog_39_method_29_code
def yJx4a65c_remove_915e3 : MethodName := ⟨RJx4a65c, "remove", "(I)Ljava/lang/Object;"⟩
abbrev cJx4a65c_fastRemove_b59b0 : ByteArray := prog_39_method_39_code
def yJx4a65c_fastRemove_b59b0 : MethodName := ⟨RJx4a65c, "fastRemove", "([Ljava/lang/Object;I)V"⟩
abbrev cJx4a65c_iterator_32c93 : ByteArray := prog_39_method_55_code
def yJx4a65c_iterator_32c93 : MethodName := ⟨RJx4a65c, "iterator", "()Ljava/util/Iterator;"⟩
def RJ7 : String := "java/util/Arrays"
def TJ7 : u_T := fun k => match k with
  | _ => ("", "", "", false)
def tyJ7 : Nat → FieldType := fun k => match k with
  | _ => .int
abbrev wsJ70 : List Cond := u_ws RJ7 TJ7 0
theorem nmJ7 : ∀ a, a < 0 → ∀ b, b < 0 → a ≠ b → (TJ7 a).2.1 ≠ (TJ7 b).2.1 := by decide +kernel
theorem tyJ7_ok : ∀ k, k < 0 → parseFieldDescriptor (TJ7 k).2.2.1 = some (tyJ7 k) := by decide +kernel
abbrev cJ7_fill_d0a16 : ByteArray := prog_41_method_101_code
def yJ7_fill_d0a16 : MethodName := ⟨RJ7, "fill", "([JJ)V"⟩
abbrev cJ7_fill_53178 : ByteArray := prog_41_method_103_code
def yJ7_fill_53178 : MethodName := ⟨RJ7, "fill", "([II)V"⟩
abbrev cJ7_copyOf_1904c : ByteArray := prog_41_method_119_code
def yJ7_copyOf_1904c : MethodName := ⟨RJ7, "copyOf", "([Ljava/lang/Object;I)[Ljava/lang/Object;"⟩
abbrev cJ7_copyOf_6403c : ByteArray := prog_41_method_120_code
def yJ7_copyOf_6403c : MethodName := ⟨RJ7, "copyOf", "([Ljava/lang/Object;ILjava/lang/Class;)[Ljava/lang/Object;"⟩
abbrev cJ7_copyOf_9075b : ByteArray := prog_41_method_121_code
def yJ7_copyOf_9075b : MethodName := ⟨RJ7, "copyOf", "([BI)[B"⟩
abbrev cJ7_checkLength_df160 : ByteArray := prog_41_method_131_code
def yJ7_checkLength_df160 : MethodName := ⟨RJ7, "checkLength", "(II)V"⟩
abbrev cJ7_copyOfRange_39247 : ByteArray := prog_41_method_132_code
def yJ7_copyOfRange_39247 : MethodName := ⟨RJ7, "copyOfRange", "([BII)[B"⟩
abbrev cJ7_copyOfRangeByte_39247 : ByteArray := prog_41_method_133_code
def yJ7_copyOfRangeByte_39247 : MethodName := ⟨RJ7, "copyOfRangeByte", "([BII)[B"⟩
def RJx5ef63 : String := "java/util/Collection"
def TJx5ef63 : u_T := fun k => match k with
  | _ => ("", "", "", false)
def tyJx5ef63 : Nat → FieldType := fun k => match k with
  | _ => .int
abbrev wsJx5ef630 : List Cond := u_ws RJx5ef63 TJx5ef63 0
theorem nmJx5ef63 : ∀ a, a < 0 → ∀ b, b < 0 → a ≠ b → (TJx5ef63 a).2.1 ≠ (TJx5ef63 b).2.1 := by decide +kernel
theorem tyJx5ef63_ok : ∀ k, k < 0 → parseFieldDescriptor (TJx5ef63 k).2.2.1 = some (tyJx5ef63 k) := by decide +kernel
def RJx4d0d8 : String := "java/util/Iterator"
def TJx4d0d8 : u_T := fun k => match k with
  | _ => ("", "", "", false)
def tyJx4d0d8 : Nat → FieldType := fun k => match k with
  | _ => .int
abbrev wsJx4d0d80 : List Cond := u_ws RJx4d0d8 TJx4d0d8 0
theorem nmJx4d0d8 : ∀ a, a < 0 → ∀ b, b < 0 → a ≠ b → (TJx4d0d8 a).2.1 ≠ (TJx4d0d8 b).2.1 := by decide +kernel
theorem tyJx4d0d8_ok : ∀ k, k < 0 → parseFieldDescriptor (TJx4d0d8 k).2.2.1 = some (tyJx4d0d8 k) := by decide +kernel
def RJxbd725 : String := "java/util/List"
def TJxbd725 : u_T := fun k => match k with
  | _ => ("", "", "", false)
def tyJxbd725 : Nat → FieldType := fun k => match k with
  | _ => .int
abbrev wsJxbd7250 : List Cond := u_ws RJxbd725 TJxbd725 0
theorem nmJxbd725 : ∀ a, a < 0 → ∀ b, b < 0 → a ≠ b → (TJxbd725 a).2.1 ≠ (TJxbd725 b).2.1 := by decide +kernel
theorem tyJxbd725_ok : ∀ k, k < 0 → parseFieldDescriptor (TJxbd725 k).2.2.1 = some (tyJxbd725 k) := by decide +kernel
def RJ15 : String := "java/util/Objects"
def TJ15 : u_T := fun k => match k with
  | _ => ("", "", "", false)
def tyJ15 : Nat → FieldType := fun k => match k with
  | _ => .int
abbrev wsJ150 : List Cond := u_ws RJ15 TJ15 0
theorem nmJ15 : ∀ a, a < 0 → ∀ b, b < 0 → a ≠ b → (TJ15 a).2.1 ≠ (TJ15 b).2.1 := by decide +kernel
theorem tyJ15_ok : ∀ k, k < 0 → parseFieldDescriptor (TJ15 k).2.2.1 = some (tyJ15 k) := by decide +kernel
abbrev cJ15_checkIndex_7cf53 : ByteArray := prog_45_method_17_code
def yJ15_checkIndex_7cf53 : MethodName := ⟨RJ15, "checkIndex", "(II)I"⟩
def RJxf0a74 : String := "java/util/RandomAccess"
def TJxf0a74 : u_T := fun k => match k with
  | _ => ("", "", "", false)
def tyJxf0a74 : Nat → FieldType := fun k => match k with
  | _ => .int
abbrev wsJxf0a740 : List Cond := u_ws RJxf0a74 TJxf0a74 0
theorem nmJxf0a74 : ∀ a, a < 0 → ∀ b, b < 0 → a ≠ b → (TJxf0a74 a).2.1 ≠ (TJxf0a74 b).2.1 := by decide +kernel
theorem tyJxf0a74_ok : ∀ k, k < 0 → parseFieldDescriptor (TJxf0a74 k).2.2.1 = some (tyJxf0a74 k) := by decide +kernel
def RJxa66e6 : String := "java/util/SequencedCollection"
def TJxa66e6 : u_T := fun k => match k with
  | _ => ("", "", "", false)
def tyJxa66e6 : Nat → FieldType := fun k => match k with
  | _ => .int
abbrev wsJxa66e60 : List Cond := u_ws RJxa66e6 TJxa66e6 0
theorem nmJxa66e6 : ∀ a, a < 0 → ∀ b, b < 0 → a ≠ b → (TJxa66e6 a).2.1 ≠ (TJxa66e6 b).2.1 := by decide +kernel
theorem tyJxa66e6_ok : ∀ k, k < 0 → parseFieldDescriptor (TJxa66e6 k).2.2.1 = some (tyJxa66e6 k) := by decide +kernel
def RJ8 : String := "jdk/internal/util/ArraysSupport"
def TJ8 : u_T := fun k => match k with
  | _ => ("", "", "", false)
def tyJ8 : Nat → FieldType := fun k => match k with
  | _ => .int
abbrev wsJ80 : List Cond := u_ws RJ8 TJ8 0
theorem nmJ8 : ∀ a, a < 0 → ∀ b, b < 0 → a ≠ b → (TJ8 a).2.1 ≠ (TJ8 b).2.1 := by decide +kernel
theorem tyJ8_ok : ∀ k, k < 0 → parseFieldDescriptor (TJ8 k).2.2.1 = some (tyJ8 k) := by decide +kernel
abbrev cJ8_newLength_cabcc : ByteArray := prog_48_method_27_code
def yJ8_newLength_cabcc : MethodName := ⟨RJ8, "newLength", "(III)I"⟩
abbrev cJ8_hugeLength_7cf53 : ByteArray := prog_48_method_28_code
def yJ8_hugeLength_7cf53 : MethodName := ⟨RJ8, "hugeLength", "(II)I"⟩
def RJ3 : String := "jdk/internal/util/Preconditions"
def TJ3 : u_T := fun k => match k with
  | _ => ("", "", "", false)
def tyJ3 : Nat → FieldType := fun k => match k with
  | _ => .int
abbrev wsJ30 : List Cond := u_ws RJ3 TJ3 0
theorem nmJ3 : ∀ a, a < 0 → ∀ b, b < 0 → a ≠ b → (TJ3 a).2.1 ≠ (TJ3 b).2.1 := by decide +kernel
theorem tyJ3_ok : ∀ k, k < 0 → parseFieldDescriptor (TJ3 k).2.2.1 = some (tyJ3 k) := by decide +kernel
abbrev cJ3_checkIndex_8e157 : ByteArray := prog_49_method_11_code
def yJ3_checkIndex_8e157 : MethodName := ⟨RJ3, "checkIndex", "(IILjava/util/function/BiFunction;)I"⟩
abbrev cJ3_checkFromToIndex_8c36e : ByteArray := prog_49_method_12_code
def yJ3_checkFromToIndex_8c36e : MethodName := ⟨RJ3, "checkFromToIndex", "(IIILjava/util/function/BiFunction;)I"⟩
abbrev cJ3_checkFromIndexSize_8c36e : ByteArray := prog_49_method_13_code
def yJ3_checkFromIndexSize_8c36e : MethodName := ⟨RJ3, "checkFromIndexSize", "(IIILjava/util/function/BiFunction;)I"⟩
def RL : String := "CaptionLoomLaw"
abbrev cL_feeds : ByteArray := method_2_code
def yL_feeds : MethodName := ⟨RL, "feeds", "(LCaptionLoom;Ljava/lang/String;)Z"⟩
abbrev cL_draw : ByteArray := method_3_code
def yL_draw : MethodName := ⟨RL, "draw", "([II)I"⟩
abbrev cL_read : ByteArray := method_4_code
def yL_read : MethodName := ⟨RL, "read", "(I)I"⟩
abbrev cL_turned : ByteArray := method_5_code
def yL_turned : MethodName := ⟨RL, "turned", "(I)I"⟩
abbrev cL_law : ByteArray := code
def yL_law : MethodName := ⟨RL, "law", "([I)Z"⟩
abbrev cL_word : ByteArray := method_7_code
def yL_word : MethodName := ⟨RL, "word", "([II)Ljava/lang/String;"⟩
abbrev cL_some : ByteArray := method_8_code
def yL_some : MethodName := ⟨RL, "some", "(LCaptionLoomLaw$Own;[I)LCaptionLoomLaw$Caption;"⟩
abbrev cL_lives : ByteArray := method_9_code
def yL_lives : MethodName := ⟨RL, "lives", "(LCaptionLoom;[I)Z"⟩
abbrev cL_still : ByteArray := method_10_code
def yL_still : MethodName := ⟨RL, "still", "(LCaptionLoom;LCaptionLoomLaw$Own;)Z"⟩
abbrev cL_isTold : ByteArray := method_11_code
def yL_isTold : MethodName := ⟨RL, "isTold", "(LCaptionLoom;LCaptionLoomLaw$Own;ILCaptionLoomLaw$Caption;)Z"⟩
abbrev cL_would : ByteArray := method_12_code
def yL_would : MethodName := ⟨RL, "would", "(LCaptionLoom;LCaptionLoomLaw$Own;[I)Z"⟩
abbrev cL_slits : ByteArray := method_13_code
def yL_slits : MethodName := ⟨RL, "slits", "(LCaptionLoom;LCaptionLoomLaw$Own;)Z"⟩
abbrev cL_writes : ByteArray := method_14_code
def yL_writes : MethodName := ⟨RL, "writes", "(LCaptionLoom;LCaptionLoomLaw$Own;IZ)Z"⟩
abbrev cL_is : ByteArray := method_15_code
def yL_is : MethodName := ⟨RL, "is", "(II[I)Z"⟩
abbrev cL_minutes : ByteArray := method_16_code
def yL_minutes : MethodName := ⟨RL, "minutes", "(LCaptionLoomLaw$Own;I)I"⟩
abbrev cL_weaves : ByteArray := method_17_code
def yL_weaves : MethodName := ⟨RL, "weaves", "(LCaptionLoomLaw$Own;Z[I)I"⟩
abbrev cL_acts : ByteArray := method_18_code
def yL_acts : MethodName := ⟨RL, "acts", "(LCaptionLoom;LCaptionLoomLaw$Own;[I[I)Z"⟩
abbrev vwCl : List vw_C := [(RX0, TX0, 2), (RX1, TX1, 6), (RX2, TX2, 4), (RX3, TX3, 1), (RX4, TX4, 3), (RX5, TX5, 11), (RX6, TX6, 8), (RX7, TX7, 11), (RX8, TX8, 14), (RX9, TX9, 5), (RX10, TX10, 8), (RJ0, TJ0, 4), (RJ4, TJ4, 4), (RJx35411, TJx35411, 4), (RJx4a65c, TJx4a65c, 3)]
/-- the good words of the tables: one list for every method -/
def BIG : List Cond := lw_tbl.filter goodWord
theorem big_at (k : Nat) {w : Cond} (h : lw_tbl[k]? = some w) (g : goodWord w = true) : w ∈ BIG := List.mem_filter.mpr ⟨List.mem_of_getElem? h, g⟩
theorem big_good {w : Cond} (h : w ∈ BIG) : goodWord w = true := (List.mem_filter.mp h).2
theorem big_tbl {w : Cond} (h : w ∈ BIG) : w ∈ lw_tbl := (List.mem_filter.mp h).1
/-- the links to private fields of nest mates -/
def fnestL : List (String × Nat × String × String × String × String) := [(RJx35411, 28, RJx4a65c, "size", "I", RJx4a65c), (RL, 109, RX10, "captions", "Ljava/util/List;", RL), (RL, 117, RX9, "word", "Ljava/lang/String;", RL), (RL, 120, RX9, "side", "I", RL), (RL, 129, RX9, "x", "I", RL), (RL, 132, RX9, "y", "I", RL), (RL, 137, RX9, "colour", "I", RL), (RL, 140, RX10, "delay", "I", RL), (RL, 145, RX10, "stock", "[I", RL), (RL, 206, RX10, "looked", "I", RL), (RL, 365, RX10, "whole", "Z", RL), (RL, 60, RX10, "wide", "I", RL), (RL, 66, RX10, "high", "I", RL), (RL, 83, RX10, "cloth", "Ljava/util/List;", RL), (RX1, 57, RX8, "GLYPHS", "[I", RX8), (RX10, 56, RX9, "side", "I", RL), (RX10, 61, RX9, "x", "I", RL), (RX10, 82, RX9, "y", "I", RL), (RX10, 89, RX9, "colour", "I", RL), (RX9, 35, RL, "GLYPHS", "[I", RL)]
/-- the links to private members of nest mates -/
def nestL : List (String × Nat × MethodName × String) := [(RL, 82, yX10_init, RL), (RL, 87, yX10_empty, RL), (RX0, 19, yX8_put, RX8), (RX1, 49, yX8_put, RX8), (RX1, 53, yX8_at, RX8), (RX1, 70, yX8_mirrored, RX8), (RX2, 11, yX1_init, RX8), (RX2, 155, yX8_put, RX8), (RX5, 11, yX3_init, RX8), (RX5, 162, yX8_letterFor, RX8), (RX5, 165, yX8_mirrored, RX8), (RX5, 198, yX8_put, RX8), (RX5, 31, yX1_init, RX8), (RX5, 89, yX8_at, RX8), (RX6, 51, yX8_isLetter, RX8), (RX6, 54, yX8_isDigit, RX8), (RX7, 100, yX8_put, RX8), (RX7, 123, yX8_at, RX8), (RX8, 21, yX1_init, RX8), (RX8, 48, yX0_init, RX8)]
theorem inX0 : ∀ w ∈ wsX00, w ∈ BIG := by decide +kernel
theorem inX1 : ∀ w ∈ wsX10, w ∈ BIG := by decide +kernel
theorem inX2 : ∀ w ∈ wsX20, w ∈ BIG := by decide +kernel
theorem inX3 : ∀ w ∈ wsX30, w ∈ BIG := by decide +kernel
theorem inX4 : ∀ w ∈ wsX40, w ∈ BIG := by decide +kernel
theorem inX5 : ∀ w ∈ wsX50, w ∈ BIG := by decide +kernel
theorem inX6 : ∀ w ∈ wsX60, w ∈ BIG := by decide +kernel
theorem inX7 : ∀ w ∈ wsX70, w ∈ BIG := by decide +kernel
theorem inX8 : ∀ w ∈ wsX80, w ∈ BIG := by decide +kernel
theorem inX9 : ∀ w ∈ wsX90, w ∈ BIG := by decide +kernel
theorem inX10 : ∀ w ∈ wsX100, w ∈ BIG := by decide +kernel
