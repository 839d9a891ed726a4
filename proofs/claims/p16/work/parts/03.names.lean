def RX0 : String := "Rowscan$Fingers"
def TX0 : u_T := fun k => match k with
  | 0 => ("Rowscan$Fingers", "bounce", "[I", true)
  | 1 => ("Rowscan$Fingers", "stuck", "[I", true)
  | 2 => ("Rowscan$Fingers", "bouncing", "[I", true)
  | 3 => ("Rowscan$Fingers", "moved", "[I", true)
  | 4 => ("Rowscan$Fingers", "held", "I", false)
  | _ => ("Rowscan$Fingers", "luck", "I", false)
def tyX0 : Nat → FieldType := fun k => match k with
  | 0 => .array .int
  | 1 => .array .int
  | 2 => .array .int
  | 3 => .array .int
  | 4 => .int
  | _ => .int
abbrev wsX00 : List Cond := u_ws RX0 TX0 6
theorem nmX0 : ∀ a, a < 6 → ∀ b, b < 6 → a ≠ b → (TX0 a).2.1 ≠ (TX0 b).2.1 := by decide +kernel
theorem tyX0_ok : ∀ k, k < 6 → parseFieldDescriptor (TX0 k).2.2.1 = some (tyX0 k) := by decide +kernel
abbrev cX0_init : ByteArray := prog_2_method_1_code
def yX0_init : MethodName := ⟨RX0, "<init>", "()V"⟩
abbrev cX0_startAnew : ByteArray := prog_2_method_2_code
def yX0_startAnew : MethodName := ⟨RX0, "startAnew", "()V"⟩
abbrev cX0_move : ByteArray := prog_2_method_3_code
def yX0_move : MethodName := ⟨RX0, "move", "(IZI)V"⟩
abbrev cX0_closedNow : ByteArray := prog_2_method_4_code
def yX0_closedNow : MethodName := ⟨RX0, "closedNow", "(II)I"⟩
abbrev cX0_isClosedNow : ByteArray := prog_2_method_5_code
def yX0_isClosedNow : MethodName := ⟨RX0, "isClosedNow", "(I)Z"⟩
def RX1 : String := "Rowscan$Typist"
def TX1 : u_T := fun k => match k with
  | 0 => ("Rowscan$Typist", "codes", "[I", true)
  | 1 => ("Rowscan$Typist", "got", "[I", true)
  | 2 => ("Rowscan$Typist", "since", "[I", true)
  | 3 => ("Rowscan$Typist", "signs", "Ljava/lang/StringBuilder;", true)
  | 4 => ("Rowscan$Typist", "lost", "I", false)
  | 5 => ("Rowscan$Typist", "chordKeys", "[I", true)
  | 6 => ("Rowscan$Typist", "chordLetters", "[I", true)
  | 7 => ("Rowscan$Typist", "chordSince", "[I", true)
  | 8 => ("Rowscan$Typist", "chords", "I", false)
  | _ => ("Rowscan$Typist", "chordsTyped", "I", false)
def tyX1 : Nat → FieldType := fun k => match k with
  | 0 => .array .int
  | 1 => .array .int
  | 2 => .array .int
  | 3 => .object "java/lang/StringBuilder"
  | 4 => .int
  | 5 => .array .int
  | 6 => .array .int
  | 7 => .array .int
  | 8 => .int
  | _ => .int
abbrev wsX10 : List Cond := u_ws RX1 TX1 10
theorem nmX1 : ∀ a, a < 10 → ∀ b, b < 10 → a ≠ b → (TX1 a).2.1 ≠ (TX1 b).2.1 := by decide +kernel
theorem tyX1_ok : ∀ k, k < 10 → parseFieldDescriptor (TX1 k).2.2.1 = some (tyX1 k) := by decide +kernel
abbrev cX1_init : ByteArray := prog_3_method_1_code
def yX1_init : MethodName := ⟨RX1, "<init>", "()V"⟩
abbrev cX1_startAnew : ByteArray := prog_3_method_2_code
def yX1_startAnew : MethodName := ⟨RX1, "startAnew", "()V"⟩
abbrev cX1_layerNow : ByteArray := prog_3_method_3_code
def yX1_layerNow : MethodName := ⟨RX1, "layerNow", "()I"⟩
abbrev cX1_isDownWith : ByteArray := prog_3_method_4_code
def yX1_isDownWith : MethodName := ⟨RX1, "isDownWith", "(I)Z"⟩
abbrev cX1_press : ByteArray := prog_3_method_5_code
def yX1_press : MethodName := ⟨RX1, "press", "(II)V"⟩
abbrev cX1_release : ByteArray := prog_3_method_6_code
def yX1_release : MethodName := ⟨RX1, "release", "(I)V"⟩
abbrev cX1_type : ByteArray := prog_3_method_7_code
def yX1_type : MethodName := ⟨RX1, "type", "(C)V"⟩
abbrev cX1_addChord : ByteArray := prog_3_method_8_code
def yX1_addChord : MethodName := ⟨RX1, "addChord", "(II)I"⟩
abbrev cX1_typeChords : ByteArray := prog_3_method_9_code
def yX1_typeChords : MethodName := ⟨RX1, "typeChords", "(I)V"⟩
abbrev cX1_isDown : ByteArray := prog_3_method_10_code
def yX1_isDown : MethodName := ⟨RX1, "isDown", "(II)Z"⟩
abbrev cX1_isByNewEvents : ByteArray := prog_3_method_11_code
def yX1_isByNewEvents : MethodName := ⟨RX1, "isByNewEvents", "(I)Z"⟩
def RX2 : String := "Rowscan$Watch"
def TX2 : u_T := fun k => match k with
  | 0 => ("Rowscan$Watch", "count", "[I", true)
  | 1 => ("Rowscan$Watch", "events", "[I", true)
  | 2 => ("Rowscan$Watch", "lastEvent", "[I", true)
  | 3 => ("Rowscan$Watch", "down", "I", false)
  | _ => ("Rowscan$Watch", "eventsInAll", "I", false)
def tyX2 : Nat → FieldType := fun k => match k with
  | 0 => .array .int
  | 1 => .array .int
  | 2 => .array .int
  | 3 => .int
  | _ => .int
abbrev wsX20 : List Cond := u_ws RX2 TX2 5
theorem nmX2 : ∀ a, a < 5 → ∀ b, b < 5 → a ≠ b → (TX2 a).2.1 ≠ (TX2 b).2.1 := by decide +kernel
theorem tyX2_ok : ∀ k, k < 5 → parseFieldDescriptor (TX2 k).2.2.1 = some (tyX2 k) := by decide +kernel
abbrev cX2_init : ByteArray := prog_4_method_1_code
def yX2_init : MethodName := ⟨RX2, "<init>", "()V"⟩
abbrev cX2_startAnew : ByteArray := prog_4_method_2_code
def yX2_startAnew : MethodName := ⟨RX2, "startAnew", "()V"⟩
abbrev cX2_isDue : ByteArray := prog_4_method_3_code
def yX2_isDue : MethodName := ⟨RX2, "isDue", "(IZI)Z"⟩
abbrev cX2_change : ByteArray := prog_4_method_4_code
def yX2_change : MethodName := ⟨RX2, "change", "(II)V"⟩
def RX3 : String := "Rowscan$Wiring"
def TX3 : u_T := fun k => match k with
  | 0 => ("Rowscan$Wiring", "rows", "I", false)
  | 1 => ("Rowscan$Wiring", "columns", "I", false)
  | 2 => ("Rowscan$Wiring", "keys", "I", false)
  | 3 => ("Rowscan$Wiring", "fitted", "I", false)
  | 4 => ("Rowscan$Wiring", "diodes", "I", false)
  | 5 => ("Rowscan$Wiring", "broken", "I", false)
  | _ => ("Rowscan$Wiring", "live", "I", false)
def tyX3 : Nat → FieldType := fun k => match k with
  | 0 => .int
  | 1 => .int
  | 2 => .int
  | 3 => .int
  | 4 => .int
  | 5 => .int
  | _ => .int
abbrev wsX30 : List Cond := u_ws RX3 TX3 7
theorem nmX3 : ∀ a, a < 7 → ∀ b, b < 7 → a ≠ b → (TX3 a).2.1 ≠ (TX3 b).2.1 := by decide +kernel
theorem tyX3_ok : ∀ k, k < 7 → parseFieldDescriptor (TX3 k).2.2.1 = some (tyX3 k) := by decide +kernel
abbrev cX3_init : ByteArray := prog_5_method_1_code
def yX3_init : MethodName := ⟨RX3, "<init>", "()V"⟩
abbrev cX3_startAnew : ByteArray := prog_5_method_2_code
def yX3_startAnew : MethodName := ⟨RX3, "startAnew", "(II)V"⟩
abbrev cX3_hasKey : ByteArray := prog_5_method_3_code
def yX3_hasKey : MethodName := ⟨RX3, "hasKey", "(I)Z"⟩
abbrev cX3_isSet : ByteArray := prog_5_method_4_code
def yX3_isSet : MethodName := ⟨RX3, "isSet", "(I)Z"⟩
abbrev cX3_fit : ByteArray := prog_5_method_5_code
def yX3_fit : MethodName := ⟨RX3, "fit", "(IZZ)V"⟩
abbrev cX3_breakLine : ByteArray := prog_5_method_6_code
def yX3_breakLine : MethodName := ⟨RX3, "breakLine", "(IZ)V"⟩
abbrev cX3_findLive : ByteArray := prog_5_method_7_code
def yX3_findLive : MethodName := ⟨RX3, "findLive", "()V"⟩
abbrev cX3_rowOf : ByteArray := prog_5_method_8_code
def yX3_rowOf : MethodName := ⟨RX3, "rowOf", "(I)I"⟩
abbrev cX3_columnsOf : ByteArray := prog_5_method_9_code
def yX3_columnsOf : MethodName := ⟨RX3, "columnsOf", "(II)I"⟩
abbrev cX3_seenIf : ByteArray := prog_5_method_10_code
def yX3_seenIf : MethodName := ⟨RX3, "seenIf", "(I)I"⟩
abbrev cX3_spread : ByteArray := prog_5_method_11_code
def yX3_spread : MethodName := ⟨RX3, "spread", "(IIII)I"⟩
abbrev cX3_ghostsIf : ByteArray := prog_5_method_12_code
def yX3_ghostsIf : MethodName := ⟨RX3, "ghostsIf", "(I)I"⟩
abbrev cX3_isExact : ByteArray := prog_5_method_13_code
def yX3_isExact : MethodName := ⟨RX3, "isExact", "(I)Z"⟩
abbrev cX3_isClear : ByteArray := prog_5_method_14_code
def yX3_isClear : MethodName := ⟨RX3, "isClear", "()Z"⟩
abbrev cX3_leastKeys : ByteArray := prog_5_method_15_code
def yX3_leastKeys : MethodName := ⟨RX3, "leastKeys", "(I)I"⟩
abbrev cX3_wayRound : ByteArray := prog_5_method_16_code
def yX3_wayRound : MethodName := ⟨RX3, "wayRound", "(II)I"⟩
abbrev cX3_unclearSets : ByteArray := prog_5_method_17_code
def yX3_unclearSets : MethodName := ⟨RX3, "unclearSets", "(I)I"⟩
abbrev cX3_nextOfSameSize : ByteArray := prog_5_method_18_code
def yX3_nextOfSameSize : MethodName := ⟨RX3, "nextOfSameSize", "(I)I"⟩
abbrev cX3_diodeToAdd : ByteArray := prog_5_method_19_code
def yX3_diodeToAdd : MethodName := ⟨RX3, "diodeToAdd", "()I"⟩
abbrev cX3_setsBackBy : ByteArray := prog_5_method_20_code
def yX3_setsBackBy : MethodName := ⟨RX3, "setsBackBy", "(I)I"⟩
abbrev cX3_keysAloneAreSound : ByteArray := prog_5_method_21_code
def yX3_keysAloneAreSound : MethodName := ⟨RX3, "keysAloneAreSound", "()Z"⟩
abbrev cX3_leastIsSound : ByteArray := prog_5_method_22_code
def yX3_leastIsSound : MethodName := ⟨RX3, "leastIsSound", "()Z"⟩
def RX4 : String := "Rowscan"
def TX4 : u_T := fun k => match k with
  | 0 => ("Rowscan", "wiring", "LRowscan$Wiring;", true)
  | 1 => ("Rowscan", "fingers", "LRowscan$Fingers;", true)
  | 2 => ("Rowscan", "watch", "LRowscan$Watch;", true)
  | 3 => ("Rowscan", "typist", "LRowscan$Typist;", true)
  | 4 => ("Rowscan", "scans", "I", false)
  | 5 => ("Rowscan", "patience", "I", false)
  | 6 => ("Rowscan", "isGuarded", "Z", false)
  | 7 => ("Rowscan", "closedLast", "I", false)
  | 8 => ("Rowscan", "seenLast", "I", false)
  | _ => ("Rowscan", "refused", "I", false)
def tyX4 : Nat → FieldType := fun k => match k with
  | 0 => .object "Rowscan$Wiring"
  | 1 => .object "Rowscan$Fingers"
  | 2 => .object "Rowscan$Watch"
  | 3 => .object "Rowscan$Typist"
  | 4 => .int
  | 5 => .int
  | 6 => .boolean
  | 7 => .int
  | 8 => .int
  | _ => .int
abbrev wsX40 : List Cond := u_ws RX4 TX4 10
theorem nmX4 : ∀ a, a < 10 → ∀ b, b < 10 → a ≠ b → (TX4 a).2.1 ≠ (TX4 b).2.1 := by decide +kernel
theorem tyX4_ok : ∀ k, k < 10 → parseFieldDescriptor (TX4 k).2.2.1 = some (tyX4 k) := by decide +kernel
abbrev cX4_init : ByteArray := prog_1_method_1_code
def yX4_init : MethodName := ⟨RX4, "<init>", "()V"⟩
abbrev cX4_startAnew : ByteArray := prog_1_method_2_code
def yX4_startAnew : MethodName := ⟨RX4, "startAnew", "(II)V"⟩
abbrev cX4_lay : ByteArray := prog_1_method_3_code
def yX4_lay : MethodName := ⟨RX4, "lay", "(II)I"⟩
abbrev cX4_isSize : ByteArray := prog_1_method_4_code
def yX4_isSize : MethodName := ⟨RX4, "isSize", "(I)Z"⟩
abbrev cX4_key : ByteArray := prog_1_method_5_code
def yX4_key : MethodName := ⟨RX4, "key", "(IZZII)I"⟩
abbrev cX4_line : ByteArray := prog_1_method_6_code
def yX4_line : MethodName := ⟨RX4, "line", "(IZ)I"⟩
abbrev cX4_patience : ByteArray := prog_1_method_7_code
def yX4_patience : MethodName := ⟨RX4, "patience", "(IZ)I"⟩
abbrev cX4_code : ByteArray := prog_1_method_8_code
def yX4_code : MethodName := ⟨RX4, "code", "(III)I"⟩
abbrev cX4_chord : ByteArray := prog_1_method_9_code
def yX4_chord : MethodName := ⟨RX4, "chord", "(II)I"⟩
abbrev cX4_hold : ByteArray := prog_1_method_10_code
def yX4_hold : MethodName := ⟨RX4, "hold", "(IZ)I"⟩
abbrev cX4_scan : ByteArray := prog_1_method_11_code
def yX4_scan : MethodName := ⟨RX4, "scan", "(I)I"⟩
abbrev cX4_scanOnce : ByteArray := prog_1_method_12_code
def yX4_scanOnce : MethodName := ⟨RX4, "scanOnce", "()V"⟩
abbrev cX4_changeOrWait : ByteArray := prog_1_method_13_code
def yX4_changeOrWait : MethodName := ⟨RX4, "changeOrWait", "(I)V"⟩
abbrev cX4_couldBeGhost : ByteArray := prog_1_method_14_code
def yX4_couldBeGhost : MethodName := ⟨RX4, "couldBeGhost", "(I)Z"⟩
abbrev cX4_call : ByteArray := prog_1_method_15_code
def yX4_call : MethodName := ⟨RX4, "call", "()I"⟩
abbrev cX4_of : ByteArray := prog_1_method_16_code
def yX4_of : MethodName := ⟨RX4, "of", "(II)I"⟩
abbrev cX4_tellOf : ByteArray := prog_1_method_17_code
def yX4_tellOf : MethodName := ⟨RX4, "tellOf", "(II)I"⟩
abbrev cX4_lagOf : ByteArray := prog_1_method_18_code
def yX4_lagOf : MethodName := ⟨RX4, "lagOf", "(I)I"⟩
abbrev cX4_set : ByteArray := prog_1_method_19_code
def yX4_set : MethodName := ⟨RX4, "set", "(I)I"⟩
abbrev cX4_tellSet : ByteArray := prog_1_method_20_code
def yX4_tellSet : MethodName := ⟨RX4, "tellSet", "(I)I"⟩
abbrev cX4_board : ByteArray := prog_1_method_21_code
def yX4_board : MethodName := ⟨RX4, "board", "(I)I"⟩
abbrev cX4_tellBoard : ByteArray := prog_1_method_22_code
def yX4_tellBoard : MethodName := ⟨RX4, "tellBoard", "(I)I"⟩
abbrev cX4_text : ByteArray := prog_1_method_23_code
def yX4_text : MethodName := ⟨RX4, "text", "()Ljava/lang/String;"⟩
abbrev cX4_picture : ByteArray := prog_1_method_24_code
def yX4_picture : MethodName := ⟨RX4, "picture", "(I)Ljava/lang/String;"⟩
abbrev cX4_signOf : ByteArray := prog_1_method_25_code
def yX4_signOf : MethodName := ⟨RX4, "signOf", "(I)C"⟩
abbrev cX4_lag : ByteArray := prog_1_method_26_code
def yX4_lag : MethodName := ⟨RX4, "lag", "()D"⟩
abbrev cX4_seen : ByteArray := prog_1_method_27_code
def yX4_seen : MethodName := ⟨RX4, "seen", "(I)I"⟩
abbrev cX4_exact : ByteArray := prog_1_method_28_code
def yX4_exact : MethodName := ⟨RX4, "exact", "(I)Z"⟩
abbrev cX4_unclear : ByteArray := prog_1_method_29_code
def yX4_unclear : MethodName := ⟨RX4, "unclear", "(I)I"⟩
abbrev cX4_wouldHelp : ByteArray := prog_1_method_30_code
def yX4_wouldHelp : MethodName := ⟨RX4, "wouldHelp", "(I)I"⟩
abbrev cX4_bestDiode : ByteArray := prog_1_method_31_code
def yX4_bestDiode : MethodName := ⟨RX4, "bestDiode", "()I"⟩
abbrev cX4_wouldGhost : ByteArray := prog_1_method_32_code
def yX4_wouldGhost : MethodName := ⟨RX4, "wouldGhost", "(I)I"⟩
abbrev cX4_ghostsWith : ByteArray := prog_1_method_33_code
def yX4_ghostsWith : MethodName := ⟨RX4, "ghostsWith", "(I)I"⟩
abbrev cX4_isSound : ByteArray := prog_1_method_34_code
def yX4_isSound : MethodName := ⟨RX4, "isSound", "()Z"⟩
abbrev cX4_digest : ByteArray := prog_1_method_35_code
def yX4_digest : MethodName := ⟨RX4, "digest", "()J"⟩
abbrev cX4_holds : ByteArray := prog_1_method_36_code
def yX4_holds : MethodName := ⟨RX4, "holds", "(II)Z"⟩
abbrev cX4_oneIf : ByteArray := prog_1_method_37_code
def yX4_oneIf : MethodName := ⟨RX4, "oneIf", "(Z)I"⟩
def RX5 : String := "RowscanLaw$Out"
def TX5 : u_T := fun k => match k with
  | 0 => ("RowscanLaw$Out", "n", "J", false)
  | _ => ("RowscanLaw$Out", "s", "Ljava/lang/String;", false)
def tyX5 : Nat → FieldType := fun k => match k with
  | 0 => .long
  | _ => .object "java/lang/String"
abbrev wsX50 : List Cond := u_ws RX5 TX5 2
theorem nmX5 : ∀ a, a < 2 → ∀ b, b < 2 → a ≠ b → (TX5 a).2.1 ≠ (TX5 b).2.1 := by decide +kernel
theorem tyX5_ok : ∀ k, k < 2 → parseFieldDescriptor (TX5 k).2.2.1 = some (tyX5 k) := by decide +kernel
abbrev cX5_init : ByteArray := prog_7_method_1_code
def yX5_init : MethodName := ⟨RX5, "<init>", "()V"⟩
def RX6 : String := "RowscanModel$Key"
def TX6 : u_T := fun k => match k with
  | 0 => ("RowscanModel$Key", "bounce", "I", false)
  | 1 => ("RowscanModel$Key", "stuck", "I", false)
  | 2 => ("RowscanModel$Key", "left", "I", false)
  | 3 => ("RowscanModel$Key", "count", "I", false)
  | 4 => ("RowscanModel$Key", "touched", "I", false)
  | 5 => ("RowscanModel$Key", "got", "I", false)
  | 6 => ("RowscanModel$Key", "codes", "[I", true)
  | _ => ("RowscanModel$Key", "events", "Ljava/util/ArrayList;", true)
def tyX6 : Nat → FieldType := fun k => match k with
  | 0 => .int
  | 1 => .int
  | 2 => .int
  | 3 => .int
  | 4 => .int
  | 5 => .int
  | 6 => .array .int
  | _ => .object "java/util/ArrayList"
abbrev wsX60 : List Cond := u_ws RX6 TX6 8
theorem nmX6 : ∀ a, a < 8 → ∀ b, b < 8 → a ≠ b → (TX6 a).2.1 ≠ (TX6 b).2.1 := by decide +kernel
theorem tyX6_ok : ∀ k, k < 8 → parseFieldDescriptor (TX6 k).2.2.1 = some (tyX6 k) := by decide +kernel
abbrev cX6_init : ByteArray := prog_9_method_1_code
def yX6_init : MethodName := ⟨RX6, "<init>", "(I)V"⟩
abbrev cX6_isDown : ByteArray := prog_9_method_2_code
def yX6_isDown : MethodName := ⟨RX6, "isDown", "()Z"⟩
abbrev cX6_last : ByteArray := prog_9_method_3_code
def yX6_last : MethodName := ⟨RX6, "last", "()I"⟩
abbrev cX6_lag : ByteArray := prog_9_method_4_code
def yX6_lag : MethodName := ⟨RX6, "lag", "()I"⟩
def RX7 : String := "RowscanModel"
def TX7 : u_T := fun k => match k with
  | 0 => ("RowscanModel", "thrown", "I", false)
  | 1 => ("RowscanModel", "rows", "I", false)
  | 2 => ("RowscanModel", "columns", "I", false)
  | 3 => ("RowscanModel", "fitted", "I", false)
  | 4 => ("RowscanModel", "diodes", "I", false)
  | 5 => ("RowscanModel", "held", "I", false)
  | 6 => ("RowscanModel", "broken", "I", false)
  | 7 => ("RowscanModel", "patience", "I", false)
  | 8 => ("RowscanModel", "isGuarded", "Z", false)
  | 9 => ("RowscanModel", "scans", "I", false)
  | 10 => ("RowscanModel", "lastClosed", "I", false)
  | 11 => ("RowscanModel", "lastSeen", "I", false)
  | 12 => ("RowscanModel", "lost", "I", false)
  | 13 => ("RowscanModel", "luck", "I", false)
  | 14 => ("RowscanModel", "refused", "I", false)
  | 15 => ("RowscanModel", "keys", "Ljava/util/ArrayList;", true)
  | 16 => ("RowscanModel", "chords", "Ljava/util/ArrayList;", true)
  | _ => ("RowscanModel", "text", "Ljava/lang/StringBuilder;", true)
def tyX7 : Nat → FieldType := fun k => match k with
  | 0 => .int
  | 1 => .int
  | 2 => .int
  | 3 => .int
  | 4 => .int
  | 5 => .int
  | 6 => .int
  | 7 => .int
  | 8 => .boolean
  | 9 => .int
  | 10 => .int
  | 11 => .int
  | 12 => .int
  | 13 => .int
  | 14 => .int
  | 15 => .object "java/util/ArrayList"
  | 16 => .object "java/util/ArrayList"
  | _ => .object "java/lang/StringBuilder"
abbrev wsX70 : List Cond := u_ws RX7 TX7 18
theorem nmX7 : ∀ a, a < 18 → ∀ b, b < 18 → a ≠ b → (TX7 a).2.1 ≠ (TX7 b).2.1 := by decide +kernel
theorem tyX7_ok : ∀ k, k < 18 → parseFieldDescriptor (TX7 k).2.2.1 = some (tyX7 k) := by decide +kernel
abbrev cX7_isIn : ByteArray := prog_8_method_1_code
def yX7_isIn : MethodName := ⟨RX7, "isIn", "(III)Z"⟩
abbrev cX7_one : ByteArray := prog_8_method_2_code
def yX7_one : MethodName := ⟨RX7, "one", "(Z)I"⟩
abbrev cX7_has : ByteArray := prog_8_method_3_code
def yX7_has : MethodName := ⟨RX7, "has", "(II)Z"⟩
abbrev cX7_with : ByteArray := prog_8_method_4_code
def yX7_with : MethodName := ⟨RX7, "with", "(IIZ)I"⟩
abbrev cX7_many : ByteArray := prog_8_method_5_code
def yX7_many : MethodName := ⟨RX7, "many", "(I)I"⟩
abbrev cX7_init : ByteArray := prog_8_method_6_code
def yX7_init : MethodName := ⟨RX7, "<init>", "()V"⟩
abbrev cX7_begin : ByteArray := prog_8_method_7_code
def yX7_begin : MethodName := ⟨RX7, "begin", "(II)V"⟩
abbrev cX7_refuse : ByteArray := prog_8_method_9_code
def yX7_refuse : MethodName := ⟨RX7, "refuse", "(ZI)Z"⟩
abbrev cX7_start : ByteArray := prog_8_method_10_code
def yX7_start : MethodName := ⟨RX7, "start", "(ZI)Z"⟩
abbrev cX7_isNoKey : ByteArray := prog_8_method_11_code
def yX7_isNoKey : MethodName := ⟨RX7, "isNoKey", "(I)Z"⟩
abbrev cX7_isNoSet : ByteArray := prog_8_method_12_code
def yX7_isNoSet : MethodName := ⟨RX7, "isNoSet", "(I)Z"⟩
abbrev cX7_lay : ByteArray := prog_8_method_13_code
def yX7_lay : MethodName := ⟨RX7, "lay", "(II)I"⟩
abbrev cX7_touch : ByteArray := prog_8_method_14_code
def yX7_touch : MethodName := ⟨RX7, "touch", "(IZ)V"⟩
abbrev cX7_key : ByteArray := prog_8_method_15_code
def yX7_key : MethodName := ⟨RX7, "key", "(IZZII)I"⟩
abbrev cX7_line : ByteArray := prog_8_method_16_code
def yX7_line : MethodName := ⟨RX7, "line", "(IZ)I"⟩
abbrev cX7_patience : ByteArray := prog_8_method_17_code
def yX7_patience : MethodName := ⟨RX7, "patience", "(IZ)I"⟩
abbrev cX7_code : ByteArray := prog_8_method_18_code
def yX7_code : MethodName := ⟨RX7, "code", "(III)I"⟩
abbrev cX7_chord : ByteArray := prog_8_method_19_code
def yX7_chord : MethodName := ⟨RX7, "chord", "(II)I"⟩
abbrev cX7_rowOf : ByteArray := prog_8_method_20_code
def yX7_rowOf : MethodName := ⟨RX7, "rowOf", "(II)I"⟩
abbrev cX7_able : ByteArray := prog_8_method_21_code
def yX7_able : MethodName := ⟨RX7, "able", "()I"⟩
abbrev cX7_seenOf : ByteArray := prog_8_method_22_code
def yX7_seenOf : MethodName := ⟨RX7, "seenOf", "(II)I"⟩
abbrev cX7_isExact : ByteArray := prog_8_method_23_code
def yX7_isExact : MethodName := ⟨RX7, "isExact", "(II)Z"⟩
abbrev cX7_isClear : ByteArray := prog_8_method_24_code
def yX7_isClear : MethodName := ⟨RX7, "isClear", "()Z"⟩
abbrev cX7_stepsTo : ByteArray := prog_8_method_25_code
def yX7_stepsTo : MethodName := ⟨RX7, "stepsTo", "(II)I"⟩
abbrev cX7_leastOf : ByteArray := prog_8_method_26_code
def yX7_leastOf : MethodName := ⟨RX7, "leastOf", "(I)I"⟩
abbrev cX7_unclearOf : ByteArray := prog_8_method_27_code
def yX7_unclearOf : MethodName := ⟨RX7, "unclearOf", "(IIII)I"⟩
abbrev cX7_hold : ByteArray := prog_8_method_28_code
def yX7_hold : MethodName := ⟨RX7, "hold", "(IZ)I"⟩
abbrev cX7_closedNow : ByteArray := prog_8_method_29_code
def yX7_closedNow : MethodName := ⟨RX7, "closedNow", "()I"⟩
abbrev cX7_isDownWith : ByteArray := prog_8_method_30_code
def yX7_isDownWith : MethodName := ⟨RX7, "isDownWith", "(I)Z"⟩
abbrev cX7_layer : ByteArray := prog_8_method_31_code
def yX7_layer : MethodName := ⟨RX7, "layer", "()I"⟩
abbrev cX7_type : ByteArray := prog_8_method_32_code
def yX7_type : MethodName := ⟨RX7, "type", "(C)V"⟩
abbrev cX7_press : ByteArray := prog_8_method_33_code
def yX7_press : MethodName := ⟨RX7, "press", "(LRowscanModel$Key;)V"⟩
abbrev cX7_play : ByteArray := prog_8_method_34_code
def yX7_play : MethodName := ⟨RX7, "play", "([I)V"⟩
abbrev cX7_step : ByteArray := prog_8_method_35_code
def yX7_step : MethodName := ⟨RX7, "step", "()I"⟩
abbrev cX7_scan : ByteArray := prog_8_method_36_code
def yX7_scan : MethodName := ⟨RX7, "scan", "(I)I"⟩
abbrev cX7_call : ByteArray := prog_8_method_37_code
def yX7_call : MethodName := ⟨RX7, "call", "()I"⟩
abbrev cX7_keyTold : ByteArray := prog_8_method_38_code
def yX7_keyTold : MethodName := ⟨RX7, "keyTold", "(II)I"⟩
abbrev cX7_of : ByteArray := prog_8_method_39_code
def yX7_of : MethodName := ⟨RX7, "of", "(II)I"⟩
abbrev cX7_setTold : ByteArray := prog_8_method_40_code
def yX7_setTold : MethodName := ⟨RX7, "setTold", "(I)I"⟩
abbrev cX7_set : ByteArray := prog_8_method_41_code
def yX7_set : MethodName := ⟨RX7, "set", "(I)I"⟩
abbrev cX7_boardTold : ByteArray := prog_8_method_42_code
def yX7_boardTold : MethodName := ⟨RX7, "boardTold", "(I)I"⟩
abbrev cX7_board : ByteArray := prog_8_method_43_code
def yX7_board : MethodName := ⟨RX7, "board", "(I)I"⟩
abbrev cX7_text : ByteArray := prog_8_method_44_code
def yX7_text : MethodName := ⟨RX7, "text", "()Ljava/lang/String;"⟩
abbrev cX7_picture : ByteArray := prog_8_method_45_code
def yX7_picture : MethodName := ⟨RX7, "picture", "(I)Ljava/lang/String;"⟩
abbrev cX7_lagTold : ByteArray := prog_8_method_46_code
def yX7_lagTold : MethodName := ⟨RX7, "lagTold", "()D"⟩
abbrev cX7_lag : ByteArray := prog_8_method_47_code
def yX7_lag : MethodName := ⟨RX7, "lag", "()D"⟩
abbrev cX7_seen : ByteArray := prog_8_method_48_code
def yX7_seen : MethodName := ⟨RX7, "seen", "(I)I"⟩
abbrev cX7_exact : ByteArray := prog_8_method_49_code
def yX7_exact : MethodName := ⟨RX7, "exact", "(I)Z"⟩
abbrev cX7_unclear : ByteArray := prog_8_method_50_code
def yX7_unclear : MethodName := ⟨RX7, "unclear", "(I)I"⟩
abbrev cX7_wouldHelp : ByteArray := prog_8_method_51_code
def yX7_wouldHelp : MethodName := ⟨RX7, "wouldHelp", "(I)I"⟩
abbrev cX7_best : ByteArray := prog_8_method_52_code
def yX7_best : MethodName := ⟨RX7, "best", "()I"⟩
abbrev cX7_bestDiode : ByteArray := prog_8_method_53_code
def yX7_bestDiode : MethodName := ⟨RX7, "bestDiode", "()I"⟩
abbrev cX7_ghostsWith : ByteArray := prog_8_method_54_code
def yX7_ghostsWith : MethodName := ⟨RX7, "ghostsWith", "(I)I"⟩
abbrev cX7_wouldGhost : ByteArray := prog_8_method_55_code
def yX7_wouldGhost : MethodName := ⟨RX7, "wouldGhost", "(I)I"⟩
abbrev cX7_isWhole : ByteArray := prog_8_method_56_code
def yX7_isWhole : MethodName := ⟨RX7, "isWhole", "()Z"⟩
abbrev cX7_isSound : ByteArray := prog_8_method_57_code
def yX7_isSound : MethodName := ⟨RX7, "isSound", "()Z"⟩
abbrev cX7_add : ByteArray := prog_8_method_58_code
def yX7_add : MethodName := ⟨RX7, "add", "(JJ)J"⟩
abbrev cX7_digest : ByteArray := prog_8_method_59_code
def yX7_digest : MethodName := ⟨RX7, "digest", "()J"⟩
def RJx145de : String := "java/io/Serializable"
def TJx145de : u_T := fun k => match k with
  | _ => ("", "", "", false)
def tyJx145de : Nat → FieldType := fun k => match k with
  | _ => .int
abbrev wsJx145de0 : List Cond := u_ws RJx145de TJx145de 0
theorem nmJx145de : ∀ a, a < 0 → ∀ b, b < 0 → a ≠ b → (TJx145de a).2.1 ≠ (TJx145de b).2.1 := by decide +kernel
theorem tyJx145de_ok : ∀ k, k < 0 → parseFieldDescriptor (TJx145de k).2.2.1 = some (tyJx145de k) := by decide +kernel
def RJ5 : String := "java/lang/AbstractStringBuilder"
def TJ5 : u_T := fun k => match k with
  | _ => ("", "", "", false)
def tyJ5 : Nat → FieldType := fun k => match k with
  | _ => .int
abbrev wsJ50 : List Cond := u_ws RJ5 TJ5 0
theorem nmJ5 : ∀ a, a < 0 → ∀ b, b < 0 → a ≠ b → (TJ5 a).2.1 ≠ (TJ5 b).2.1 := by decide +kernel
theorem tyJ5_ok : ∀ k, k < 0 → parseFieldDescriptor (TJ5 k).2.2.1 = some (tyJ5 k) := by decide +kernel
abbrev cJ5_init_d00df : ByteArray := prog_11_method_2_code
def yJ5_init_d00df : MethodName := ⟨RJ5, "<init>", "(I)V"⟩
abbrev cJ5_length_8abf5 : ByteArray := prog_11_method_6_code
def yJ5_length_8abf5 : MethodName := ⟨RJ5, "length", "()I"⟩
abbrev cJ5_ensureCapacityInternal_d00df : ByteArray := prog_11_method_9_code
def yJ5_ensureCapacityInternal_d00df : MethodName := ⟨RJ5, "ensureCapacityInternal", "(I)V"⟩
abbrev cJ5_newCapacity_0f7a4 : ByteArray := prog_11_method_10_code
def yJ5_newCapacity_0f7a4 : MethodName := ⟨RJ5, "newCapacity", "(I)I"⟩
abbrev cJ5_inflate_da8c8 : ByteArray := prog_11_method_11_code
def yJ5_inflate_da8c8 : MethodName := ⟨RJ5, "inflate", "()V"⟩
abbrev cJ5_setLength_d00df : ByteArray := prog_11_method_13_code
def yJ5_setLength_d00df : MethodName := ⟨RJ5, "setLength", "(I)V"⟩
abbrev cJ5_charAt_5068e : ByteArray := prog_11_method_14_code
def yJ5_charAt_5068e : MethodName := ⟨RJ5, "charAt", "(I)C"⟩
abbrev cJ5_append_cf1ce : ByteArray := prog_11_method_22_code
def yJ5_append_cf1ce : MethodName := ⟨RJ5, "append", "(Ljava/lang/String;)Ljava/lang/AbstractStringBuilder;"⟩
abbrev cJ5_appendNull_278bc : ByteArray := prog_11_method_26_code
def yJ5_appendNull_278bc : MethodName := ⟨RJ5, "appendNull", "()Ljava/lang/AbstractStringBuilder;"⟩
abbrev cJ5_append_3fe6f : ByteArray := prog_11_method_31_code
def yJ5_append_3fe6f : MethodName := ⟨RJ5, "append", "(C)Ljava/lang/AbstractStringBuilder;"⟩
abbrev cJ5_append_c97b9 : ByteArray := prog_11_method_32_code
def yJ5_append_c97b9 : MethodName := ⟨RJ5, "append", "(I)Ljava/lang/AbstractStringBuilder;"⟩
abbrev cJ5_getValue_6d5f1 : ByteArray := prog_11_method_64_code
def yJ5_getValue_6d5f1 : MethodName := ⟨RJ5, "getValue", "()[B"⟩
abbrev cJ5_isLatin1_aae02 : ByteArray := prog_11_method_68_code
def yJ5_isLatin1_aae02 : MethodName := ⟨RJ5, "isLatin1", "()Z"⟩
abbrev cJ5_inflateIfNeededFor_a7421 : ByteArray := prog_11_method_71_code
def yJ5_inflateIfNeededFor_a7421 : MethodName := ⟨RJ5, "inflateIfNeededFor", "(Ljava/lang/String;)V"⟩
abbrev cJ5_putStringAt_47b60 : ByteArray := prog_11_method_73_code
def yJ5_putStringAt_47b60 : MethodName := ⟨RJ5, "putStringAt", "(ILjava/lang/String;)V"⟩
def RJx2cfe8 : String := "java/lang/Appendable"
def TJx2cfe8 : u_T := fun k => match k with
  | _ => ("", "", "", false)
def tyJx2cfe8 : Nat → FieldType := fun k => match k with
  | _ => .int
abbrev wsJx2cfe80 : List Cond := u_ws RJx2cfe8 TJx2cfe8 0
theorem nmJx2cfe8 : ∀ a, a < 0 → ∀ b, b < 0 → a ≠ b → (TJx2cfe8 a).2.1 ≠ (TJx2cfe8 b).2.1 := by decide +kernel
theorem tyJx2cfe8_ok : ∀ k, k < 0 → parseFieldDescriptor (TJx2cfe8 k).2.2.1 = some (tyJx2cfe8 k) := by decide +kernel
def RJx00060 : String := "java/lang/ArrayIndexOutOfBoundsException"
def TJx00060 : u_T := fun k => match k with
  | 0 => ("java/lang/Throwable", "cause", "Ljava/lang/Throwable;", false)
  | 1 => ("java/lang/Throwable", "stackTrace", "[Ljava/lang/StackTraceElement;", false)
  | 2 => ("java/lang/Throwable", "suppressedExceptions", "Ljava/util/List;", false)
  | 3 => ("java/lang/Throwable", "detailMessage", "Ljava/lang/String;", false)
  | 4 => ("java/lang/Throwable", "backtrace", "Ljava/lang/Object;", false)
  | _ => ("java/lang/Throwable", "depth", "I", false)
def tyJx00060 : Nat → FieldType := fun k => match k with
  | 0 => .object "java/lang/Throwable"
  | 1 => .array (.object "java/lang/StackTraceElement")
  | 2 => .object "java/util/List"
  | 3 => .object "java/lang/String"
  | 4 => .object "java/lang/Object"
  | _ => .int
abbrev wsJx000600 : List Cond := u_ws RJx00060 TJx00060 6
theorem nmJx00060 : ∀ a, a < 6 → ∀ b, b < 6 → a ≠ b → (TJx00060 a).2.1 ≠ (TJx00060 b).2.1 := by decide +kernel
theorem tyJx00060_ok : ∀ k, k < 6 → parseFieldDescriptor (TJx00060 k).2.2.1 = some (tyJx00060 k) := by decide +kernel
abbrev cJx00060_init_d00df : ByteArray := prog_13_method_3_code
def yJx00060_init_d00df : MethodName := ⟨RJx00060, "<init>", "(I)V"⟩
def RJx9f9b0 : String := "java/lang/CharSequence"
def TJx9f9b0 : u_T := fun k => match k with
  | _ => ("", "", "", false)
def tyJx9f9b0 : Nat → FieldType := fun k => match k with
  | _ => .int
abbrev wsJx9f9b00 : List Cond := u_ws RJx9f9b0 TJx9f9b0 0
theorem nmJx9f9b0 : ∀ a, a < 0 → ∀ b, b < 0 → a ≠ b → (TJx9f9b0 a).2.1 ≠ (TJx9f9b0 b).2.1 := by decide +kernel
theorem tyJx9f9b0_ok : ∀ k, k < 0 → parseFieldDescriptor (TJx9f9b0 k).2.2.1 = some (tyJx9f9b0 k) := by decide +kernel
def RJx8e188 : String := "java/lang/Cloneable"
def TJx8e188 : u_T := fun k => match k with
  | _ => ("", "", "", false)
def tyJx8e188 : Nat → FieldType := fun k => match k with
  | _ => .int
abbrev wsJx8e1880 : List Cond := u_ws RJx8e188 TJx8e188 0
theorem nmJx8e188 : ∀ a, a < 0 → ∀ b, b < 0 → a ≠ b → (TJx8e188 a).2.1 ≠ (TJx8e188 b).2.1 := by decide +kernel
theorem tyJx8e188_ok : ∀ k, k < 0 → parseFieldDescriptor (TJx8e188 k).2.2.1 = some (tyJx8e188 k) := by decide +kernel
def RJxb160c : String := "java/lang/Comparable"
def TJxb160c : u_T := fun k => match k with
  | _ => ("", "", "", false)
def tyJxb160c : Nat → FieldType := fun k => match k with
  | _ => .int
abbrev wsJxb160c0 : List Cond := u_ws RJxb160c TJxb160c 0
theorem nmJxb160c : ∀ a, a < 0 → ∀ b, b < 0 → a ≠ b → (TJxb160c a).2.1 ≠ (TJxb160c b).2.1 := by decide +kernel
theorem tyJxb160c_ok : ∀ k, k < 0 → parseFieldDescriptor (TJxb160c k).2.2.1 = some (tyJxb160c k) := by decide +kernel
def RJxabbfe : String := "java/lang/Integer$IntegerCache"
def TJxabbfe : u_T := fun k => match k with
  | _ => ("", "", "", false)
def tyJxabbfe : Nat → FieldType := fun k => match k with
  | _ => .int
abbrev wsJxabbfe0 : List Cond := u_ws RJxabbfe TJxabbfe 0
theorem nmJxabbfe : ∀ a, a < 0 → ∀ b, b < 0 → a ≠ b → (TJxabbfe a).2.1 ≠ (TJxabbfe b).2.1 := by decide +kernel
theorem tyJxabbfe_ok : ∀ k, k < 0 → parseFieldDescriptor (TJxabbfe k).2.2.1 = some (tyJxabbfe k) := by decide +kernel
def RJ6 : String := "java/lang/Integer"
def TJ6 : u_T := fun k => match k with
  | _ => ("java/lang/Integer", "value", "I", true)
def tyJ6 : Nat → FieldType := fun k => match k with
  | _ => .int
abbrev wsJ60 : List Cond := u_ws RJ6 TJ6 1
theorem nmJ6 : ∀ a, a < 1 → ∀ b, b < 1 → a ≠ b → (TJ6 a).2.1 ≠ (TJ6 b).2.1 := by decide +kernel
theorem tyJ6_ok : ∀ k, k < 1 → parseFieldDescriptor (TJ6 k).2.2.1 = some (tyJ6 k) := by decide +kernel
abbrev cJ6_getChars_ba4f3 : ByteArray := prog_21_method_12_code
def yJ6_getChars_ba4f3 : MethodName := ⟨RJ6, "getChars", "(II[B)I"⟩
abbrev cJ6_stringSize_0f7a4 : ByteArray := prog_21_method_13_code
def yJ6_stringSize_0f7a4 : MethodName := ⟨RJ6, "stringSize", "(I)I"⟩
abbrev cJ6_valueOf_2dffe : ByteArray := prog_21_method_22_code
def yJ6_valueOf_2dffe : MethodName := ⟨RJ6, "valueOf", "(I)Ljava/lang/Integer;"⟩
abbrev cJ6_init_d00df : ByteArray := prog_21_method_23_code
def yJ6_init_d00df : MethodName := ⟨RJ6, "<init>", "(I)V"⟩
abbrev cJ6_intValue_8abf5 : ByteArray := prog_21_method_27_code
def yJ6_intValue_8abf5 : MethodName := ⟨RJ6, "intValue", "()I"⟩
abbrev cJ6_bitCount_0f7a4 : ByteArray := prog_21_method_49_code
def yJ6_bitCount_0f7a4 : MethodName := ⟨RJ6, "bitCount", "(I)I"⟩
def RJxab1ab : String := "java/lang/Iterable"
def TJxab1ab : u_T := fun k => match k with
  | _ => ("", "", "", false)
def tyJxab1ab : Nat → FieldType := fun k => match k with
  | _ => .int
abbrev wsJxab1ab0 : List Cond := u_ws RJxab1ab TJxab1ab 0
theorem nmJxab1ab : ∀ a, a < 0 → ∀ b, b < 0 → a ≠ b → (TJxab1ab a).2.1 ≠ (TJxab1ab b).2.1 := by decide +kernel
theorem tyJxab1ab_ok : ∀ k, k < 0 → parseFieldDescriptor (TJxab1ab k).2.2.1 = some (tyJxab1ab k) := by decide +kernel
def RJ9 : String := "java/lang/Math"
def TJ9 : u_T := fun k => match k with
  | _ => ("", "", "", false)
def tyJ9 : Nat → FieldType := fun k => match k with
  | _ => .int
abbrev wsJ90 : List Cond := u_ws RJ9 TJ9 0
theorem nmJ9 : ∀ a, a < 0 → ∀ b, b < 0 → a ≠ b → (TJ9 a).2.1 ≠ (TJ9 b).2.1 := by decide +kernel
theorem tyJ9_ok : ∀ k, k < 0 → parseFieldDescriptor (TJ9 k).2.2.1 = some (tyJ9 k) := by decide +kernel
abbrev cJ9_max_7cf53 : ByteArray := prog_24_method_65_code
def yJ9_max_7cf53 : MethodName := ⟨RJ9, "max", "(II)I"⟩
abbrev cJ9_min_7cf53 : ByteArray := prog_24_method_69_code
def yJ9_min_7cf53 : MethodName := ⟨RJ9, "min", "(II)I"⟩
def RJxd2413 : String := "java/lang/Number"
def TJxd2413 : u_T := fun k => match k with
  | _ => ("", "", "", false)
def tyJxd2413 : Nat → FieldType := fun k => match k with
  | _ => .int
abbrev wsJxd24130 : List Cond := u_ws RJxd2413 TJxd2413 0
theorem nmJxd2413 : ∀ a, a < 0 → ∀ b, b < 0 → a ≠ b → (TJxd2413 a).2.1 ≠ (TJxd2413 b).2.1 := by decide +kernel
theorem tyJxd2413_ok : ∀ k, k < 0 → parseFieldDescriptor (TJxd2413 k).2.2.1 = some (tyJxd2413 k) := by decide +kernel
abbrev cJxd2413_init_da8c8 : ByteArray := prog_25_method_1_code
def yJxd2413_init_da8c8 : MethodName := ⟨RJxd2413, "<init>", "()V"⟩
def RJ0 : String := "java/lang/String"
def TJ0 : u_T := fun k => match k with
  | 0 => ("java/lang/String", "value", "[B", true)
  | 1 => ("java/lang/String", "coder", "B", true)
  | 2 => ("java/lang/String", "hash", "I", false)
  | _ => ("java/lang/String", "hashIsZero", "Z", false)
def tyJ0 : Nat → FieldType := fun k => match k with
  | 0 => .array .byte
  | 1 => .byte
  | 2 => .int
  | _ => .boolean
abbrev wsJ00 : List Cond := u_ws RJ0 TJ0 4
theorem nmJ0 : ∀ a, a < 4 → ∀ b, b < 4 → a ≠ b → (TJ0 a).2.1 ≠ (TJ0 b).2.1 := by decide +kernel
theorem tyJ0_ok : ∀ k, k < 4 → parseFieldDescriptor (TJ0 k).2.2.1 = some (tyJ0 k) := by decide +kernel
abbrev cJ0_init_81219 : ByteArray := prog_27_method_53_code
def yJ0_init_81219 : MethodName := ⟨RJ0, "<init>", "(Ljava/lang/StringBuilder;)V"⟩
abbrev cJ0_length_8abf5 : ByteArray := prog_27_method_54_code
def yJ0_length_8abf5 : MethodName := ⟨RJ0, "length", "()I"⟩
abbrev cJ0_getBytes_840e7 : ByteArray := prog_27_method_147_code
def yJ0_getBytes_840e7 : MethodName := ⟨RJ0, "getBytes", "([BIB)V"⟩
abbrev cJ0_init_db425 : ByteArray := prog_27_method_150_code
def yJ0_init_db425 : MethodName := ⟨RJ0, "<init>", "(Ljava/lang/AbstractStringBuilder;Ljava/lang/Void;)V"⟩
abbrev cJ0_coder_7d493 : ByteArray := prog_27_method_152_code
def yJ0_coder_7d493 : MethodName := ⟨RJ0, "coder", "()B"⟩
abbrev cJ0_checkIndex_df160 : ByteArray := prog_27_method_155_code
def yJ0_checkIndex_df160 : MethodName := ⟨RJ0, "checkIndex", "(II)V"⟩
abbrev cJ0_checkBoundsOffCount_cabcc : ByteArray := prog_27_method_157_code
def yJ0_checkBoundsOffCount_cabcc : MethodName := ⟨RJ0, "checkBoundsOffCount", "(III)I"⟩
abbrev cJ0_checkBoundsBeginEnd_23922 : ByteArray := prog_27_method_158_code
def yJ0_checkBoundsBeginEnd_23922 : MethodName := ⟨RJ0, "checkBoundsBeginEnd", "(III)V"⟩
def RJ4 : String := "java/lang/StringBuilder"
def TJ4 : u_T := fun k => match k with
  | 0 => ("java/lang/AbstractStringBuilder", "value", "[B", false)
  | 1 => ("java/lang/AbstractStringBuilder", "coder", "B", false)
  | 2 => ("java/lang/AbstractStringBuilder", "maybeLatin1", "Z", false)
  | _ => ("java/lang/AbstractStringBuilder", "count", "I", false)
def tyJ4 : Nat → FieldType := fun k => match k with
  | 0 => .array .byte
  | 1 => .byte
  | 2 => .boolean
  | _ => .int
abbrev wsJ40 : List Cond := u_ws RJ4 TJ4 4
theorem nmJ4 : ∀ a, a < 4 → ∀ b, b < 4 → a ≠ b → (TJ4 a).2.1 ≠ (TJ4 b).2.1 := by decide +kernel
theorem tyJ4_ok : ∀ k, k < 4 → parseFieldDescriptor (TJ4 k).2.2.1 = some (tyJ4 k) := by decide +kernel
abbrev cJ4_init_da8c8 : ByteArray := prog_28_method_1_code
def yJ4_init_da8c8 : MethodName := ⟨RJ4, "<init>", "()V"⟩
abbrev cJ4_append_15ec4 : ByteArray := prog_28_method_7_code
def yJ4_append_15ec4 : MethodName := ⟨RJ4, "append", "(Ljava/lang/String;)Ljava/lang/StringBuilder;"⟩
abbrev cJ4_append_cf468 : ByteArray := prog_28_method_14_code
def yJ4_append_cf468 : MethodName := ⟨RJ4, "append", "(C)Ljava/lang/StringBuilder;"⟩
abbrev cJ4_append_bf812 : ByteArray := prog_28_method_15_code
def yJ4_append_bf812 : MethodName := ⟨RJ4, "append", "(I)Ljava/lang/StringBuilder;"⟩
abbrev cJ4_toString_0e30d : ByteArray := prog_28_method_42_code
def yJ4_toString_0e30d : MethodName := ⟨RJ4, "toString", "()Ljava/lang/String;"⟩
abbrev cJ4_charAt_5068e : ByteArray := prog_28_method_88_code
def yJ4_charAt_5068e : MethodName := ⟨RJ4, "charAt", "(I)C"⟩
abbrev cJ4_setLength_d00df : ByteArray := prog_28_method_89_code
def yJ4_setLength_d00df : MethodName := ⟨RJ4, "setLength", "(I)V"⟩
abbrev cJ4_length_8abf5 : ByteArray := prog_28_method_93_code
def yJ4_length_8abf5 : MethodName := ⟨RJ4, "length", "()I"⟩
def RJx7c733 : String := "java/lang/StringIndexOutOfBoundsException"
def TJx7c733 : u_T := fun k => match k with
  | 0 => ("java/lang/Throwable", "backtrace", "Ljava/lang/Object;", false)
  | 1 => ("java/lang/Throwable", "detailMessage", "Ljava/lang/String;", false)
  | 2 => ("java/lang/Throwable", "cause", "Ljava/lang/Throwable;", false)
  | 3 => ("java/lang/Throwable", "stackTrace", "[Ljava/lang/StackTraceElement;", false)
  | 4 => ("java/lang/Throwable", "depth", "I", false)
  | _ => ("java/lang/Throwable", "suppressedExceptions", "Ljava/util/List;", false)
def tyJx7c733 : Nat → FieldType := fun k => match k with
  | 0 => .object "java/lang/Object"
  | 1 => .object "java/lang/String"
  | 2 => .object "java/lang/Throwable"
  | 3 => .array (.object "java/lang/StackTraceElement")
  | 4 => .int
  | _ => .object "java/util/List"
abbrev wsJx7c7330 : List Cond := u_ws RJx7c733 TJx7c733 6
theorem nmJx7c733 : ∀ a, a < 6 → ∀ b, b < 6 → a ≠ b → (TJx7c733 a).2.1 ≠ (TJx7c733 b).2.1 := by decide +kernel
theorem tyJx7c733_ok : ∀ k, k < 6 → parseFieldDescriptor (TJx7c733 k).2.2.1 = some (tyJx7c733 k) := by decide +kernel
abbrev cJx7c733_init_d00df : ByteArray := prog_29_method_3_code
def yJx7c733_init_d00df : MethodName := ⟨RJx7c733, "<init>", "(I)V"⟩
def RJ1 : String := "java/lang/StringLatin1"
def TJ1 : u_T := fun k => match k with
  | _ => ("", "", "", false)
def tyJ1 : Nat → FieldType := fun k => match k with
  | _ => .int
abbrev wsJ10 : List Cond := u_ws RJ1 TJ1 0
theorem nmJ1 : ∀ a, a < 0 → ∀ b, b < 0 → a ≠ b → (TJ1 a).2.1 ≠ (TJ1 b).2.1 := by decide +kernel
theorem tyJ1_ok : ∀ k, k < 0 → parseFieldDescriptor (TJ1 k).2.2.1 = some (tyJ1 k) := by decide +kernel
abbrev cJ1_canEncode_fc78d : ByteArray := prog_30_method_3_code
def yJ1_canEncode_fc78d : MethodName := ⟨RJ1, "canEncode", "(C)Z"⟩
abbrev cJ1_fillNull_b72d1 : ByteArray := prog_30_method_48_code
def yJ1_fillNull_b72d1 : MethodName := ⟨RJ1, "fillNull", "([BII)V"⟩
abbrev cJ1_inflate_0e8fd : ByteArray := prog_30_method_50_code
def yJ1_inflate_0e8fd : MethodName := ⟨RJ1, "inflate", "([BI[BII)V"⟩
def RJ2 : String := "java/lang/StringUTF16"
def TJ2 : u_T := fun k => match k with
  | _ => ("", "", "", false)
def tyJ2 : Nat → FieldType := fun k => match k with
  | _ => .int
abbrev wsJ20 : List Cond := u_ws RJ2 TJ2 0
theorem nmJ2 : ∀ a, a < 0 → ∀ b, b < 0 → a ≠ b → (TJ2 a).2.1 ≠ (TJ2 b).2.1 := by decide +kernel
theorem tyJ2_ok : ∀ k, k < 0 → parseFieldDescriptor (TJ2 k).2.2.1 = some (tyJ2 k) := by decide +kernel
abbrev cJ2_newBytesFor_77867 : ByteArray := prog_31_method_2_code
def yJ2_newBytesFor_77867 : MethodName := ⟨RJ2, "newBytesFor", "(I)[B"⟩
abbrev cJ2_newBytesLength_0f7a4 : ByteArray := prog_31_method_3_code
def yJ2_newBytesLength_0f7a4 : MethodName := ⟨RJ2, "newBytesLength", "(I)I"⟩
abbrev cJ2_putChar_b72d1 : ByteArray := prog_31_method_4_code
def yJ2_putChar_b72d1 : MethodName := ⟨RJ2, "putChar", "([BII)V"⟩
abbrev cJ2_getChar_3b067 : ByteArray := prog_31_method_5_code
def yJ2_getChar_3b067 : MethodName := ⟨RJ2, "getChar", "([BI)C"⟩
abbrev cJ2_length_9d52b : ByteArray := prog_31_method_6_code
def yJ2_length_9d52b : MethodName := ⟨RJ2, "length", "([B)I"⟩
abbrev cJ2_coderFromArrayLen_85cad : ByteArray := prog_31_method_15_code
def yJ2_coderFromArrayLen_85cad : MethodName := ⟨RJ2, "coderFromArrayLen", "([BI)B"⟩
abbrev cJ2_compress_39247 : ByteArray := prog_31_method_17_code
def yJ2_compress_39247 : MethodName := ⟨RJ2, "compress", "([BII)[B"⟩
abbrev cJ2_compress_5af95 : ByteArray := prog_31_method_22_code
def yJ2_compress_5af95 : MethodName := ⟨RJ2, "compress", "([BI[BII)I"⟩
abbrev cJ2_fillNull_b72d1 : ByteArray := prog_31_method_70_code
def yJ2_fillNull_b72d1 : MethodName := ⟨RJ2, "fillNull", "([BII)V"⟩
abbrev cJ2_putCharSB_b72d1 : ByteArray := prog_31_method_71_code
def yJ2_putCharSB_b72d1 : MethodName := ⟨RJ2, "putCharSB", "([BII)V"⟩
abbrev cJ2_getChars_46870 : ByteArray := prog_31_method_77_code
def yJ2_getChars_46870 : MethodName := ⟨RJ2, "getChars", "(III[B)I"⟩
abbrev cJ2_putCharsAt_cd4e5 : ByteArray := prog_31_method_81_code
def yJ2_putCharsAt_cd4e5 : MethodName := ⟨RJ2, "putCharsAt", "([BICCCC)I"⟩
abbrev cJ2_inflate_0e8fd : ByteArray := prog_31_method_86_code
def yJ2_inflate_0e8fd : MethodName := ⟨RJ2, "inflate", "([BI[BII)V"⟩
abbrev cJ2_getChars_ba4f3 : ByteArray := prog_31_method_89_code
def yJ2_getChars_ba4f3 : MethodName := ⟨RJ2, "getChars", "(II[B)I"⟩
abbrev cJ2_checkIndex_2214a : ByteArray := prog_31_method_91_code
def yJ2_checkIndex_2214a : MethodName := ⟨RJ2, "checkIndex", "(I[B)V"⟩
abbrev cJ2_checkBoundsBeginEnd_d044e : ByteArray := prog_31_method_93_code
def yJ2_checkBoundsBeginEnd_d044e : MethodName := ⟨RJ2, "checkBoundsBeginEnd", "(II[B)V"⟩
abbrev cJ2_checkBoundsOffCount_d044e : ByteArray := prog_31_method_94_code
def yJ2_checkBoundsOffCount_d044e : MethodName := ⟨RJ2, "checkBoundsOffCount", "(II[B)V"⟩
def RJ10 : String := "java/lang/System"
def TJ10 : u_T := fun k => match k with
  | _ => ("", "", "", false)
def tyJ10 : Nat → FieldType := fun k => match k with
  | _ => .int
abbrev wsJ100 : List Cond := u_ws RJ10 TJ10 0
theorem nmJ10 : ∀ a, a < 0 → ∀ b, b < 0 → a ≠ b → (TJ10 a).2.1 ≠ (TJ10 b).2.1 := by decide +kernel
theorem tyJ10_ok : ∀ k, k < 0 → parseFieldDescriptor (TJ10 k).2.2.1 = some (tyJ10 k) := by decide +kernel
def RJxfd54e : String := "java/lang/constant/Constable"
def TJxfd54e : u_T := fun k => match k with
  | _ => ("", "", "", false)
def tyJxfd54e : Nat → FieldType := fun k => match k with
  | _ => .int
abbrev wsJxfd54e0 : List Cond := u_ws RJxfd54e TJxfd54e 0
theorem nmJxfd54e : ∀ a, a < 0 → ∀ b, b < 0 → a ≠ b → (TJxfd54e a).2.1 ≠ (TJxfd54e b).2.1 := by decide +kernel
theorem tyJxfd54e_ok : ∀ k, k < 0 → parseFieldDescriptor (TJxfd54e k).2.2.1 = some (tyJxfd54e k) := by decide +kernel
def RJx3cf43 : String := "java/lang/constant/ConstantDesc"
def TJx3cf43 : u_T := fun k => match k with
  | _ => ("", "", "", false)
def tyJx3cf43 : Nat → FieldType := fun k => match k with
  | _ => .int
abbrev wsJx3cf430 : List Cond := u_ws RJx3cf43 TJx3cf43 0
theorem nmJx3cf43 : ∀ a, a < 0 → ∀ b, b < 0 → a ≠ b → (TJx3cf43 a).2.1 ≠ (TJx3cf43 b).2.1 := by decide +kernel
theorem tyJx3cf43_ok : ∀ k, k < 0 → parseFieldDescriptor (TJx3cf43 k).2.2.1 = some (tyJx3cf43 k) := by decide +kernel
def RJxa1e45 : String := "java/util/AbstractCollection"
def TJxa1e45 : u_T := fun k => match k with
  | _ => ("", "", "", false)
def tyJxa1e45 : Nat → FieldType := fun k => match k with
  | _ => .int
abbrev wsJxa1e450 : List Cond := u_ws RJxa1e45 TJxa1e45 0
theorem nmJxa1e45 : ∀ a, a < 0 → ∀ b, b < 0 → a ≠ b → (TJxa1e45 a).2.1 ≠ (TJxa1e45 b).2.1 := by decide +kernel
theorem tyJxa1e45_ok : ∀ k, k < 0 → parseFieldDescriptor (TJxa1e45 k).2.2.1 = some (tyJxa1e45 k) := by decide +kernel
abbrev cJxa1e45_init_da8c8 : ByteArray := prog_36_method_1_code
def yJxa1e45_init_da8c8 : MethodName := ⟨RJxa1e45, "<init>", "()V"⟩
def RJxc12de : String := "java/util/AbstractList"
def TJxc12de : u_T := fun k => match k with
  | _ => ("", "", "", false)
def tyJxc12de : Nat → FieldType := fun k => match k with
  | _ => .int
abbrev wsJxc12de0 : List Cond := u_ws RJxc12de TJxc12de 0
theorem nmJxc12de : ∀ a, a < 0 → ∀ b, b < 0 → a ≠ b → (TJxc12de a).2.1 ≠ (TJxc12de b).2.1 := by decide +kernel
theorem tyJxc12de_ok : ∀ k, k < 0 → parseFieldDescriptor (TJxc12de k).2.2.1 = some (tyJxc12de k) := by decide +kernel
abbrev cJxc12de_init_da8c8 : ByteArray := prog_37_method_1_code
def yJxc12de_init_da8c8 : MethodName := ⟨RJxc12de, "<init>", "()V"⟩
def RJx35411 : String := "java/util/ArrayList$Itr"
def TJx35411 : u_T := fun k => match k with
  | 0 => ("java/util/ArrayList$Itr", "cursor", "I", false)
  | 1 => ("java/util/ArrayList$Itr", "lastRet", "I", false)
  | 2 => ("java/util/ArrayList$Itr", "expectedModCount", "I", false)
  | _ => ("java/util/ArrayList$Itr", "this$0", "Ljava/util/ArrayList;", true)
def tyJx35411 : Nat → FieldType := fun k => match k with
  | 0 => .int
  | 1 => .int
  | 2 => .int
  | _ => .object "java/util/ArrayList"
abbrev wsJx354110 : List Cond := u_ws RJx35411 TJx35411 4
theorem nmJx35411 : ∀ a, a < 4 → ∀ b, b < 4 → a ≠ b → (TJx35411 a).2.1 ≠ (TJx35411 b).2.1 := by decide +kernel
theorem tyJx35411_ok : ∀ k, k < 4 → parseFieldDescriptor (TJx35411 k).2.2.1 = some (tyJx35411 k) := by decide +kernel
abbrev cJx35411_init_45d68 : ByteArray := prog_39_method_1_code
def yJx35411_init_45d68 : MethodName := ⟨RJx35411, "<init>", "(Ljava/util/ArrayList;)V"⟩
abbrev cJx35411_hasNext_aae02 : ByteArray := prog_39_method_2_code
def yJx35411_hasNext_aae02 : MethodName := ⟨RJx35411, "hasNext", "()Z"⟩
abbrev cJx35411_next_0502b : ByteArray := prog_39_method_3_code
def yJx35411_next_0502b : MethodName := ⟨RJx35411, "next", "()Ljava/lang/Object;"⟩
abbrev cJx35411_checkForComodification_da8c8 : ByteArray := prog_39_method_6_code
def yJx35411_checkForComodification_da8c8 : MethodName := ⟨RJx35411, "checkForComodification", "()V"⟩
def RJx4a65c : String := "java/util/ArrayList"
def TJx4a65c : u_T := fun k => match k with
  | 0 => ("java/util/AbstractList", "modCount", "I", false)
  | 1 => ("java/util/ArrayList", "elementData", "[Ljava/lang/Object;", false)
  | _ => ("java/util/ArrayList", "size", "I", false)
def tyJx4a65c : Nat → FieldType := fun k => match k with
  | 0 => .int
  | 1 => .array (.object "java/lang/Object")
  | _ => .int
abbrev wsJx4a65c0 : List Cond := u_ws RJx4a65c TJx4a65c 3
theorem nmJx4a65c : ∀ a, a < 3 → ∀ b, b < 3 → a ≠ b → (TJx4a65c a).2.1 ≠ (TJx4a65c b).2.1 := by decide +kernel
theorem tyJx4a65c_ok : ∀ k, k < 3 → parseFieldDescriptor (TJx4a65c k).2.2.1 = some (tyJx4a65c k) := by decide +kernel
abbrev cJx4a65c_init_da8c8 : ByteArray := prog_38_method_2_code
def yJx4a65c_init_da8c8 : MethodName := ⟨RJx4a65c, "<init>", "()V"⟩
abbrev cJx4a65c_grow_92f84 : ByteArray := prog_38_method_6_code
def yJx4a65c_grow_92f84 : MethodName := ⟨RJx4a65c, "grow", "(I)[Ljava/lang/Object;"⟩
abbrev cJx4a65c_grow_d5877 : ByteArray := prog_38_method_7_code
def yJx4a65c_grow_d5877 : MethodName := ⟨RJx4a65c, "grow", "()[Ljava/lang/Object;"⟩
abbrev cJx4a65c_size_8abf5 : ByteArray := prog_38_method_8_code
def yJx4a65c_size_8abf5 : MethodName := ⟨RJx4a65c, "size", "()I"⟩
abbrev cJx4a65c_isEmpty_aae02 : ByteArray := prog_38_method_9_code
def yJx4a65c_isEmpty_aae02 : MethodName := ⟨RJx4a65c, "isEmpty", "()Z"⟩
abbrev cJx4a65c_elementData_915e3 : ByteArray := prog_38_method_18_code
def yJx4a65c_elementData_915e3 : MethodName := ⟨RJx4a65c, "elementData", "(I)Ljava/lang/Object;"⟩
abbrev cJx4a65c_get_915e3 : ByteArray := prog_38_method_20_code
def yJx4a65c_get_915e3 : MethodName := ⟨RJx4a65c, "get", "(I)Ljava/lang/Object;"⟩
abbrev cJx4a65c_add_72be8 : ByteArray := prog_38_method_24_code
def yJx4a65c_add_72be8 : MethodName := ⟨RJx4a65c, "add", "(Ljava/lang/Object;[Ljava/lang/Object;I)V"⟩
abbrev cJx4a65c_add_9ea2d : ByteArray := prog_38_method_25_code
def yJx4a65c_add_9ea2d : MethodName := ⟨RJx4a65c, "add", "(Ljava/lang/Object;)Z"⟩
abbrev cJx4a65c_clear_da8c8 : ByteArray := prog_38_method_40_code
def yJx4a65c_clear_da8c8 : MethodName := ⟨RJx4a65c, "clear", "()V"⟩
abbrev cJx4a65c_iterator_32c93 : ByteArray := prog_38_method_55_code
def yJx4a65c_iterator_32c93 : MethodName := ⟨RJx4a65c, "iterator", "()Ljava/util/Iterator;"⟩
def RJ7 : String := "java/util/Arrays"
def TJ7 : u_T := fun k => match k with
  | _ => ("", "", "", false)
def tyJ7 : Nat → FieldType := fun k => match k with
  | _ => .int
abbrev wsJ70 : List Cond := u_ws RJ7 TJ7 0
theorem nmJ7 : ∀ a, a < 0 → ∀ b, b < 0 → a ≠ b → (TJ7 a).2.1 ≠ (TJ7 b).2.1 := by decide +kernel
theorem tyJ7_ok : ∀ k, k < 0 → parseFieldDescriptor (TJ7 k).2.2.1 = some (tyJ7 k) := by decide +kernel
abbrev cJ7_rangeCheck_23922 : ByteArray := prog_40_method_30_code
def yJ7_rangeCheck_23922 : MethodName := ⟨RJ7, "rangeCheck", "(III)V"⟩
abbrev cJ7_fill_eb02e : ByteArray := prog_40_method_110_code
def yJ7_fill_eb02e : MethodName := ⟨RJ7, "fill", "([BIIB)V"⟩
abbrev cJ7_copyOf_1904c : ByteArray := prog_40_method_119_code
def yJ7_copyOf_1904c : MethodName := ⟨RJ7, "copyOf", "([Ljava/lang/Object;I)[Ljava/lang/Object;"⟩
abbrev cJ7_copyOf_6403c : ByteArray := prog_40_method_120_code
def yJ7_copyOf_6403c : MethodName := ⟨RJ7, "copyOf", "([Ljava/lang/Object;ILjava/lang/Class;)[Ljava/lang/Object;"⟩
abbrev cJ7_copyOf_9075b : ByteArray := prog_40_method_121_code
def yJ7_copyOf_9075b : MethodName := ⟨RJ7, "copyOf", "([BI)[B"⟩
abbrev cJ7_checkLength_df160 : ByteArray := prog_40_method_131_code
def yJ7_checkLength_df160 : MethodName := ⟨RJ7, "checkLength", "(II)V"⟩
abbrev cJ7_copyOfRange_39247 : ByteArray := prog_40_method_132_code
def yJ7_copyOfRange_39247 : MethodName := ⟨RJ7, "copyOfRange", "([BII)[B"⟩
abbrev cJ7_copyOfRangeByte_39247 : ByteArray := prog_40_method_133_code
def yJ7_copyOfRangeByte_39247 : MethodName := ⟨RJ7, "copyOfRangeByte", "([BII)[B"⟩
def RJx5ef63 : String := "java/util/Collection"
def TJx5ef63 : u_T := fun k => match k with
  | _ => ("", "", "", false)
def tyJx5ef63 : Nat → FieldType := fun k => match k with
  | _ => .int
abbrev wsJx5ef630 : List Cond := u_ws RJx5ef63 TJx5ef63 0
theorem nmJx5ef63 : ∀ a, a < 0 → ∀ b, b < 0 → a ≠ b → (TJx5ef63 a).2.1 ≠ (TJx5ef63 b).2.1 := by decide +kernel
theorem tyJx5ef63_ok : ∀ k, k < 0 → parseFieldDescriptor (TJx5ef63 k).2.2.1 = some (tyJx5ef63 k) := by decide +kernel
def RJx4d0d8 : String := "java/util/Iterator"
def TJx4d0d8 : u_T := fun k => match k with
  | _ => ("", "", "", false)
def tyJx4d0d8 : Nat → FieldType := fun k => match k with
  | _ => .int
abbrev wsJx4d0d80 : List Cond := u_ws RJx4d0d8 TJx4d0d8 0
theorem nmJx4d0d8 : ∀ a, a < 0 → ∀ b, b < 0 → a ≠ b → (TJx4d0d8 a).2.1 ≠ (TJx4d0d8 b).2.1 := by decide +kernel
theorem tyJx4d0d8_ok : ∀ k, k < 0 → parseFieldDescriptor (TJx4d0d8 k).2.2.1 = some (tyJx4d0d8 k) := by decide +kernel
def RJxbd725 : String := "java/util/List"
def TJxbd725 : u_T := fun k => match k with
  | _ => ("", "", "", false)
def tyJxbd725 : Nat → FieldType := fun k => match k with
  | _ => .int
abbrev wsJxbd7250 : List Cond := u_ws RJxbd725 TJxbd725 0
theorem nmJxbd725 : ∀ a, a < 0 → ∀ b, b < 0 → a ≠ b → (TJxbd725 a).2.1 ≠ (TJxbd725 b).2.1 := by decide +kernel
theorem tyJxbd725_ok : ∀ k, k < 0 → parseFieldDescriptor (TJxbd725 k).2.2.1 = some (tyJxbd725 k) := by decide +kernel
def RJ15 : String := "java/util/Objects"
def TJ15 : u_T := fun k => match k with
  | _ => ("", "", "", false)
def tyJ15 : Nat → FieldType := fun k => match k with
  | _ => .int
abbrev wsJ150 : List Cond := u_ws RJ15 TJ15 0
theorem nmJ15 : ∀ a, a < 0 → ∀ b, b < 0 → a ≠ b → (TJ15 a).2.1 ≠ (TJ15 b).2.1 := by decide +kernel
theorem tyJ15_ok : ∀ k, k < 0 → parseFieldDescriptor (TJ15 k).2.2.1 = some (tyJ15 k) := by decide +kernel
abbrev cJ15_checkIndex_7cf53 : ByteArray := prog_44_method_17_code
def yJ15_checkIndex_7cf53 : MethodName := ⟨RJ15, "checkIndex", "(II)I"⟩
def RJxf0a74 : String := "java/util/RandomAccess"
def TJxf0a74 : u_T := fun k => match k with
  | _ => ("", "", "", false)
def tyJxf0a74 : Nat → FieldType := fun k => match k with
  | _ => .int
abbrev wsJxf0a740 : List Cond := u_ws RJxf0a74 TJxf0a74 0
theorem nmJxf0a74 : ∀ a, a < 0 → ∀ b, b < 0 → a ≠ b → (TJxf0a74 a).2.1 ≠ (TJxf0a74 b).2.1 := by decide +kernel
theorem tyJxf0a74_ok : ∀ k, k < 0 → parseFieldDescriptor (TJxf0a74 k).2.2.1 = some (tyJxf0a74 k) := by decide +kernel
def RJxa66e6 : String := "java/util/SequencedCollection"
def TJxa66e6 : u_T := fun k => match k with
  | _ => ("", "", "", false)
def tyJxa66e6 : Nat → FieldType := fun k => match k with
  | _ => .int
abbrev wsJxa66e60 : List Cond := u_ws RJxa66e6 TJxa66e6 0
theorem nmJxa66e6 : ∀ a, a < 0 → ∀ b, b < 0 → a ≠ b → (TJxa66e6 a).2.1 ≠ (TJxa66e6 b).2.1 := by decide +kernel
theorem tyJxa66e6_ok : ∀ k, k < 0 → parseFieldDescriptor (TJxa66e6 k).2.2.1 = some (tyJxa66e6 k) := by decide +kernel
def RJ8 : String := "jdk/internal/util/ArraysSupport"
def TJ8 : u_T := fun k => match k with
  | _ => ("", "", "", false)
def tyJ8 : Nat → FieldType := fun k => match k with
  | _ => .int
abbrev wsJ80 : List Cond := u_ws RJ8 TJ8 0
theorem nmJ8 : ∀ a, a < 0 → ∀ b, b < 0 → a ≠ b → (TJ8 a).2.1 ≠ (TJ8 b).2.1 := by decide +kernel
theorem tyJ8_ok : ∀ k, k < 0 → parseFieldDescriptor (TJ8 k).2.2.1 = some (tyJ8 k) := by decide +kernel
abbrev cJ8_newLength_cabcc : ByteArray := prog_47_method_27_code
def yJ8_newLength_cabcc : MethodName := ⟨RJ8, "newLength", "(III)I"⟩
abbrev cJ8_hugeLength_7cf53 : ByteArray := prog_47_method_28_code
def yJ8_hugeLength_7cf53 : MethodName := ⟨RJ8, "hugeLength", "(II)I"⟩
def RJ3 : String := "jdk/internal/util/Preconditions"
def TJ3 : u_T := fun k => match k with
  | _ => ("", "", "", false)
def tyJ3 : Nat → FieldType := fun k => match k with
  | _ => .int
abbrev wsJ30 : List Cond := u_ws RJ3 TJ3 0
theorem nmJ3 : ∀ a, a < 0 → ∀ b, b < 0 → a ≠ b → (TJ3 a).2.1 ≠ (TJ3 b).2.1 := by decide +kernel
theorem tyJ3_ok : ∀ k, k < 0 → parseFieldDescriptor (TJ3 k).2.2.1 = some (tyJ3 k) := by decide +kernel
abbrev cJ3_checkIndex_8e157 : ByteArray := prog_48_method_11_code
def yJ3_checkIndex_8e157 : MethodName := ⟨RJ3, "checkIndex", "(IILjava/util/function/BiFunction;)I"⟩
abbrev cJ3_checkFromToIndex_8c36e : ByteArray := prog_48_method_12_code
def yJ3_checkFromToIndex_8c36e : MethodName := ⟨RJ3, "checkFromToIndex", "(IIILjava/util/function/BiFunction;)I"⟩
abbrev cJ3_checkFromIndexSize_8c36e : ByteArray := prog_48_method_13_code
def yJ3_checkFromIndexSize_8c36e : MethodName := ⟨RJ3, "checkFromIndexSize", "(IIILjava/util/function/BiFunction;)I"⟩
def RL : String := "RowscanLaw"
abbrev cL_lay : ByteArray := method_2_code
def yL_lay : MethodName := ⟨RL, "lay", "(LRowscan;IILRowscanLaw$Out;)I"⟩
abbrev cL_key : ByteArray := method_3_code
def yL_key : MethodName := ⟨RL, "key", "(LRowscan;IZZIILRowscanLaw$Out;)I"⟩
abbrev cL_line : ByteArray := method_4_code
def yL_line : MethodName := ⟨RL, "line", "(LRowscan;IZLRowscanLaw$Out;)I"⟩
abbrev cL_patience : ByteArray := method_5_code
def yL_patience : MethodName := ⟨RL, "patience", "(LRowscan;IZLRowscanLaw$Out;)I"⟩
abbrev cL_code : ByteArray := method_6_code
def yL_code : MethodName := ⟨RL, "code", "(LRowscan;IIILRowscanLaw$Out;)I"⟩
abbrev cL_chord : ByteArray := method_7_code
def yL_chord : MethodName := ⟨RL, "chord", "(LRowscan;IILRowscanLaw$Out;)I"⟩
abbrev cL_hold : ByteArray := method_8_code
def yL_hold : MethodName := ⟨RL, "hold", "(LRowscan;IZLRowscanLaw$Out;)I"⟩
abbrev cL_scan : ByteArray := method_9_code
def yL_scan : MethodName := ⟨RL, "scan", "(LRowscan;ILRowscanLaw$Out;)I"⟩
abbrev cL_of : ByteArray := method_10_code
def yL_of : MethodName := ⟨RL, "of", "(LRowscan;IILRowscanLaw$Out;)I"⟩
abbrev cL_set : ByteArray := method_11_code
def yL_set : MethodName := ⟨RL, "set", "(LRowscan;ILRowscanLaw$Out;)I"⟩
abbrev cL_board : ByteArray := method_12_code
def yL_board : MethodName := ⟨RL, "board", "(LRowscan;ILRowscanLaw$Out;)I"⟩
abbrev cL_picture : ByteArray := method_13_code
def yL_picture : MethodName := ⟨RL, "picture", "(LRowscan;ILRowscanLaw$Out;)I"⟩
abbrev cL_seen : ByteArray := method_14_code
def yL_seen : MethodName := ⟨RL, "seen", "(LRowscan;ILRowscanLaw$Out;)I"⟩
abbrev cL_exact : ByteArray := method_15_code
def yL_exact : MethodName := ⟨RL, "exact", "(LRowscan;ILRowscanLaw$Out;)I"⟩
abbrev cL_unclear : ByteArray := method_16_code
def yL_unclear : MethodName := ⟨RL, "unclear", "(LRowscan;ILRowscanLaw$Out;)I"⟩
abbrev cL_wouldHelp : ByteArray := method_17_code
def yL_wouldHelp : MethodName := ⟨RL, "wouldHelp", "(LRowscan;ILRowscanLaw$Out;)I"⟩
abbrev cL_wouldGhost : ByteArray := method_18_code
def yL_wouldGhost : MethodName := ⟨RL, "wouldGhost", "(LRowscan;ILRowscanLaw$Out;)I"⟩
abbrev cL_law : ByteArray := code
def yL_law : MethodName := ⟨RL, "law", "([I)Z"⟩
abbrev vwCl : List vw_C := [(RJ0, TJ0, 4), (RJ4, TJ4, 4), (RJ6, TJ6, 1), (RJx00060, TJx00060, 6), (RJx7c733, TJx7c733, 6), (RJx35411, TJx35411, 4), (RJx4a65c, TJx4a65c, 3), (RX0, TX0, 6), (RX1, TX1, 10), (RX2, TX2, 5), (RX3, TX3, 7), (RX4, TX4, 10), (RX5, TX5, 2), (RX6, TX6, 8), (RX7, TX7, 18)]
