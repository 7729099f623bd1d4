def RX0 : String := "BackAvenue$Avenue"
def TX0 : u_T := fun k => match k with
  | 0 => ("BackAvenue$Avenue", "minute", "I", false)
  | 1 => ("BackAvenue$Avenue", "trams", "I", false)
  | 2 => ("BackAvenue$Avenue", "walkers", "I", false)
  | 3 => ("BackAvenue$Avenue", "kind", "[I", true)
  | 4 => ("BackAvenue$Avenue", "place", "[I", true)
  | 5 => ("BackAvenue$Avenue", "bound", "[I", true)
  | 6 => ("BackAvenue$Avenue", "pace", "[I", true)
  | 7 => ("BackAvenue$Avenue", "round", "[I", true)
  | 8 => ("BackAvenue$Avenue", "fines", "[I", true)
  | _ => ("BackAvenue$Avenue", "bumps", "[I", true)
def tyX0 : Nat → FieldType := fun k => match k with
  | 0 => .int
  | 1 => .int
  | 2 => .int
  | 3 => .array .int
  | 4 => .array .int
  | 5 => .array .int
  | 6 => .array .int
  | 7 => .array .int
  | 8 => .array .int
  | _ => .array .int
theorem nmX0 : ∀ a, a < 10 → ∀ b, b < 10 → a ≠ b → (TX0 a).2.1 ≠ (TX0 b).2.1 := by decide +kernel
theorem tyX0_ok : ∀ k, k < 10 → parseFieldDescriptor (TX0 k).2.2.1 = some (tyX0 k) := by decide +kernel
abbrev cX0_init : ByteArray := prog_2_method_1_code
def yX0_init : MethodName := ⟨RX0, "<init>", "()V"⟩
abbrev cX0_most : ByteArray := prog_2_method_2_code
def yX0_most : MethodName := ⟨RX0, "most", "(I)I"⟩
abbrev cX0_row : ByteArray := prog_2_method_3_code
def yX0_row : MethodName := ⟨RX0, "row", "(I)[I"⟩
abbrev cX0_put : ByteArray := prog_2_method_4_code
def yX0_put : MethodName := ⟨RX0, "put", "(III)I"⟩
abbrev cX0_copyFrom : ByteArray := prog_2_method_5_code
def yX0_copyFrom : MethodName := ⟨RX0, "copyFrom", "(LBackAvenue$Avenue;)V"⟩
abbrev cX0_isFull : ByteArray := prog_2_method_6_code
def yX0_isFull : MethodName := ⟨RX0, "isFull", "()Z"⟩
abbrev cX0_add : ByteArray := prog_2_method_7_code
def yX0_add : MethodName := ⟨RX0, "add", "(II)I"⟩
abbrev cX0_sum : ByteArray := prog_2_method_8_code
def yX0_sum : MethodName := ⟨RX0, "sum", "(I)I"⟩
abbrev cX0_tramPlace : ByteArray := prog_2_method_9_code
def yX0_tramPlace : MethodName := ⟨RX0, "tramPlace", "()I"⟩
abbrev cX0_isThrough : ByteArray := prog_2_method_10_code
def yX0_isThrough : MethodName := ⟨RX0, "isThrough", "(I)Z"⟩
abbrev cX0_throughSet : ByteArray := prog_2_method_11_code
def yX0_throughSet : MethodName := ⟨RX0, "throughSet", "()I"⟩
abbrev cX0_distanceSeen : ByteArray := prog_2_method_12_code
def yX0_distanceSeen : MethodName := ⟨RX0, "distanceSeen", "(II)I"⟩
abbrev cX0_seenBy : ByteArray := prog_2_method_13_code
def yX0_seenBy : MethodName := ⟨RX0, "seenBy", "(I)I"⟩
abbrev cX0_leaderOf : ByteArray := prog_2_method_14_code
def yX0_leaderOf : MethodName := ⟨RX0, "leaderOf", "(I)I"⟩
abbrev cX0_placesToGo : ByteArray := prog_2_method_15_code
def yX0_placesToGo : MethodName := ⟨RX0, "placesToGo", "(I)I"⟩
abbrev cX0_passMinutes : ByteArray := prog_2_method_16_code
def yX0_passMinutes : MethodName := ⟨RX0, "passMinutes", "(I)V"⟩
abbrev cX0_passMinute : ByteArray := prog_2_method_17_code
def yX0_passMinute : MethodName := ⟨RX0, "passMinute", "()V"⟩
abbrev cX0_minutesTillThrough : ByteArray := prog_2_method_18_code
def yX0_minutesTillThrough : MethodName := ⟨RX0, "minutesTillThrough", "(II)I"⟩
abbrev cX0_walk : ByteArray := prog_2_method_19_code
def yX0_walk : MethodName := ⟨RX0, "walk", "(II)V"⟩
abbrev cX0_inTheWayOf : ByteArray := prog_2_method_20_code
def yX0_inTheWayOf : MethodName := ⟨RX0, "inTheWayOf", "(I)I"⟩
abbrev cX0_bump : ByteArray := prog_2_method_21_code
def yX0_bump : MethodName := ⟨RX0, "bump", "(II)V"⟩
abbrev cX0_ride : ByteArray := prog_2_method_22_code
def yX0_ride : MethodName := ⟨RX0, "ride", "(I)V"⟩
def RX1 : String := "BackAvenue$Kinds"
def TX1 : u_T := fun k => match k with
  | _ => ("", "", "", false)
def tyX1 : Nat → FieldType := fun k => match k with
  | _ => .int
theorem nmX1 : ∀ a, a < 0 → ∀ b, b < 0 → a ≠ b → (TX1 a).2.1 ≠ (TX1 b).2.1 := by decide +kernel
theorem tyX1_ok : ∀ k, k < 0 → parseFieldDescriptor (TX1 k).2.2.1 = some (tyX1 k) := by decide +kernel
abbrev cX1_sight : ByteArray := prog_3_method_2_code
def yX1_sight : MethodName := ⟨RX1, "sight", "(I)I"⟩
abbrev cX1_isUnder : ByteArray := prog_3_method_3_code
def yX1_isUnder : MethodName := ⟨RX1, "isUnder", "(II)Z"⟩
abbrev cX1_above : ByteArray := prog_3_method_4_code
def yX1_above : MethodName := ⟨RX1, "above", "(I)I"⟩
abbrev cX1_goes : ByteArray := prog_3_method_5_code
def yX1_goes : MethodName := ⟨RX1, "goes", "(IIZII)I"⟩
abbrev cX1_turns : ByteArray := prog_3_method_6_code
def yX1_turns : MethodName := ⟨RX1, "turns", "(II)Z"⟩
abbrev cX1_name : ByteArray := prog_3_method_7_code
def yX1_name : MethodName := ⟨RX1, "name", "(I)Ljava/lang/String;"⟩
def RX2 : String := "BackAvenue$Sheet"
def TX2 : u_T := fun k => match k with
  | 0 => ("BackAvenue$Sheet", "numbers", "[J", true)
  | 1 => ("BackAvenue$Sheet", "bits", "I", false)
  | _ => ("BackAvenue$Sheet", "length", "I", false)
def tyX2 : Nat → FieldType := fun k => match k with
  | 0 => .array .long
  | 1 => .int
  | _ => .int
theorem nmX2 : ∀ a, a < 3 → ∀ b, b < 3 → a ≠ b → (TX2 a).2.1 ≠ (TX2 b).2.1 := by decide +kernel
theorem tyX2_ok : ∀ k, k < 3 → parseFieldDescriptor (TX2 k).2.2.1 = some (tyX2 k) := by decide +kernel
abbrev cX2_init : ByteArray := prog_4_method_1_code
def yX2_init : MethodName := ⟨RX2, "<init>", "()V"⟩
abbrev cX2_isMissing : ByteArray := prog_4_method_2_code
def yX2_isMissing : MethodName := ⟨RX2, "isMissing", "()Z"⟩
abbrev cX2_make : ByteArray := prog_4_method_3_code
def yX2_make : MethodName := ⟨RX2, "make", "(II)V"⟩
abbrev cX2_put : ByteArray := prog_4_method_4_code
def yX2_put : MethodName := ⟨RX2, "put", "(IJ)V"⟩
abbrev cX2_hasFrom : ByteArray := prog_4_method_5_code
def yX2_hasFrom : MethodName := ⟨RX2, "hasFrom", "(II)Z"⟩
def RX3 : String := "BackAvenue$Tape"
def TX3 : u_T := fun k => match k with
  | 0 => ("BackAvenue$Tape", "length", "I", false)
  | 1 => ("BackAvenue$Tape", "bytes", "[B", true)
  | 2 => ("BackAvenue$Tape", "start", "I", false)
  | _ => ("BackAvenue$Tape", "end", "I", false)
def tyX3 : Nat → FieldType := fun k => match k with
  | 0 => .int
  | 1 => .array .byte
  | 2 => .int
  | _ => .int
theorem nmX3 : ∀ a, a < 4 → ∀ b, b < 4 → a ≠ b → (TX3 a).2.1 ≠ (TX3 b).2.1 := by decide +kernel
theorem tyX3_ok : ∀ k, k < 4 → parseFieldDescriptor (TX3 k).2.2.1 = some (tyX3 k) := by decide +kernel
abbrev cX3_init : ByteArray := prog_5_method_1_code
def yX3_init : MethodName := ⟨RX3, "<init>", "()V"⟩
abbrev cX3_hasRoomFor : ByteArray := prog_5_method_2_code
def yX3_hasRoomFor : MethodName := ⟨RX3, "hasRoomFor", "(I)Z"⟩
abbrev cX3_append : ByteArray := prog_5_method_3_code
def yX3_append : MethodName := ⟨RX3, "append", "(B)V"⟩
abbrev cX3_lookAtFirst : ByteArray := prog_5_method_4_code
def yX3_lookAtFirst : MethodName := ⟨RX3, "lookAtFirst", "()V"⟩
abbrev cX3_looksAt : ByteArray := prog_5_method_5_code
def yX3_looksAt : MethodName := ⟨RX3, "looksAt", "()I"⟩
abbrev cX3_isAllTaken : ByteArray := prog_5_method_6_code
def yX3_isAllTaken : MethodName := ⟨RX3, "isAllTaken", "()Z"⟩
abbrev cX3_take : ByteArray := prog_5_method_7_code
def yX3_take : MethodName := ⟨RX3, "take", "(Ljava/lang/String;)Z"⟩
abbrev cX3_takeNumber : ByteArray := prog_5_method_8_code
def yX3_takeNumber : MethodName := ⟨RX3, "takeNumber", "(I)I"⟩
abbrev cX3_lookAtNext : ByteArray := prog_5_method_9_code
def yX3_lookAtNext : MethodName := ⟨RX3, "lookAtNext", "()V"⟩
abbrev cX3_sortOf : ByteArray := prog_5_method_10_code
def yX3_sortOf : MethodName := ⟨RX3, "sortOf", "(B)I"⟩
def RX4 : String := "BackAvenue$TextReader"
def TX4 : u_T := fun k => match k with
  | _ => ("", "", "", false)
def tyX4 : Nat → FieldType := fun k => match k with
  | _ => .int
theorem nmX4 : ∀ a, a < 0 → ∀ b, b < 0 → a ≠ b → (TX4 a).2.1 ≠ (TX4 b).2.1 := by decide +kernel
theorem tyX4_ok : ∀ k, k < 0 → parseFieldDescriptor (TX4 k).2.2.1 = some (tyX4 k) := by decide +kernel
abbrev cX4_readInto : ByteArray := prog_6_method_2_code
def yX4_readInto : MethodName := ⟨RX4, "readInto", "(LBackAvenue$Avenue;LBackAvenue$Tape;)I"⟩
abbrev cX4_takeItem : ByteArray := prog_6_method_3_code
def yX4_takeItem : MethodName := ⟨RX4, "takeItem", "(LBackAvenue$Avenue;LBackAvenue$Tape;)Z"⟩
abbrev cX4_takeWalker : ByteArray := prog_6_method_4_code
def yX4_takeWalker : MethodName := ⟨RX4, "takeWalker", "(LBackAvenue$Avenue;LBackAvenue$Tape;)Z"⟩
abbrev cX4_takeKind : ByteArray := prog_6_method_5_code
def yX4_takeKind : MethodName := ⟨RX4, "takeKind", "(LBackAvenue$Tape;)I"⟩
def RX5 : String := "BackAvenue"
def TX5 : u_T := fun k => match k with
  | 0 => ("BackAvenue", "present", "LBackAvenue$Avenue;", true)
  | 1 => ("BackAvenue", "ahead", "LBackAvenue$Avenue;", true)
  | 2 => ("BackAvenue", "kept", "LBackAvenue$Avenue;", true)
  | 3 => ("BackAvenue", "isKept", "Z", false)
  | 4 => ("BackAvenue", "tape", "LBackAvenue$Tape;", true)
  | 5 => ("BackAvenue", "sheets", "[LBackAvenue$Sheet;", true)
  | _ => ("BackAvenue", "found", "[I", true)
def tyX5 : Nat → FieldType := fun k => match k with
  | 0 => .object "BackAvenue$Avenue"
  | 1 => .object "BackAvenue$Avenue"
  | 2 => .object "BackAvenue$Avenue"
  | 3 => .boolean
  | 4 => .object "BackAvenue$Tape"
  | 5 => .array (.object "BackAvenue$Sheet")
  | _ => .array .int
theorem nmX5 : ∀ a, a < 7 → ∀ b, b < 7 → a ≠ b → (TX5 a).2.1 ≠ (TX5 b).2.1 := by decide +kernel
theorem tyX5_ok : ∀ k, k < 7 → parseFieldDescriptor (TX5 k).2.2.1 = some (tyX5 k) := by decide +kernel
abbrev cX5_init : ByteArray := prog_1_method_1_code
def yX5_init : MethodName := ⟨RX5, "<init>", "()V"⟩
abbrev cX5_trams : ByteArray := prog_1_method_2_code
def yX5_trams : MethodName := ⟨RX5, "trams", "(I)I"⟩
abbrev cX5_walker : ByteArray := prog_1_method_3_code
def yX5_walker : MethodName := ⟨RX5, "walker", "(II)I"⟩
abbrev cX5_of : ByteArray := prog_1_method_4_code
def yX5_of : MethodName := ⟨RX5, "of", "(II)I"⟩
abbrev cX5_set : ByteArray := prog_1_method_5_code
def yX5_set : MethodName := ⟨RX5, "set", "(III)I"⟩
abbrev cX5_turn : ByteArray := prog_1_method_6_code
def yX5_turn : MethodName := ⟨RX5, "turn", "(II)I"⟩
abbrev cX5_as : ByteArray := prog_1_method_7_code
def yX5_as : MethodName := ⟨RX5, "as", "(II)I"⟩
abbrev cX5_sees : ByteArray := prog_1_method_8_code
def yX5_sees : MethodName := ⟨RX5, "sees", "(I)I"⟩
abbrev cX5_leader : ByteArray := prog_1_method_9_code
def yX5_leader : MethodName := ⟨RX5, "leader", "(I)I"⟩
abbrev cX5_minutes : ByteArray := prog_1_method_10_code
def yX5_minutes : MethodName := ⟨RX5, "minutes", "(I)I"⟩
abbrev cX5_now : ByteArray := prog_1_method_11_code
def yX5_now : MethodName := ⟨RX5, "now", "(I)I"⟩
abbrev cX5_on : ByteArray := prog_1_method_12_code
def yX5_on : MethodName := ⟨RX5, "on", "(III)I"⟩
abbrev cX5_through : ByteArray := prog_1_method_13_code
def yX5_through : MethodName := ⟨RX5, "through", "(I)I"⟩
abbrev cX5_bumps : ByteArray := prog_1_method_14_code
def yX5_bumps : MethodName := ⟨RX5, "bumps", "(I)I"⟩
abbrev cX5_meet : ByteArray := prog_1_method_15_code
def yX5_meet : MethodName := ⟨RX5, "meet", "(II)I"⟩
abbrev cX5_pace : ByteArray := prog_1_method_16_code
def yX5_pace : MethodName := ⟨RX5, "pace", "(I)I"⟩
abbrev cX5_kind : ByteArray := prog_1_method_17_code
def yX5_kind : MethodName := ⟨RX5, "kind", "(I)I"⟩
abbrev cX5_begin : ByteArray := prog_1_method_18_code
def yX5_begin : MethodName := ⟨RX5, "begin", "(II)I"⟩
abbrev cX5_fewest : ByteArray := prog_1_method_19_code
def yX5_fewest : MethodName := ⟨RX5, "fewest", "(I)I"⟩
abbrev cX5_other : ByteArray := prog_1_method_20_code
def yX5_other : MethodName := ⟨RX5, "other", "(I)I"⟩
abbrev cX5_first : ByteArray := prog_1_method_21_code
def yX5_first : MethodName := ⟨RX5, "first", "()I"⟩
abbrev cX5_feed : ByteArray := prog_1_method_22_code
def yX5_feed : MethodName := ⟨RX5, "feed", "(II)I"⟩
abbrev cX5_wipe : ByteArray := prog_1_method_23_code
def yX5_wipe : MethodName := ⟨RX5, "wipe", "()I"⟩
abbrev cX5_avenue : ByteArray := prog_1_method_24_code
def yX5_avenue : MethodName := ⟨RX5, "avenue", "()I"⟩
abbrev cX5_sheet : ByteArray := prog_1_method_25_code
def yX5_sheet : MethodName := ⟨RX5, "sheet", "(III)I"⟩
abbrev cX5_write : ByteArray := prog_1_method_26_code
def yX5_write : MethodName := ⟨RX5, "write", "(IIJ)J"⟩
abbrev cX5_copy : ByteArray := prog_1_method_27_code
def yX5_copy : MethodName := ⟨RX5, "copy", "(IIIII)I"⟩
abbrev cX5_lays : ByteArray := prog_1_method_28_code
def yX5_lays : MethodName := ⟨RX5, "lays", "(I)I"⟩
abbrev cX5_book : ByteArray := prog_1_method_29_code
def yX5_book : MethodName := ⟨RX5, "book", "(II)I"⟩
abbrev cX5_read : ByteArray := prog_1_method_30_code
def yX5_read : MethodName := ⟨RX5, "read", "(II)I"⟩
abbrev cX5_image : ByteArray := prog_1_method_31_code
def yX5_image : MethodName := ⟨RX5, "image", "()I"⟩
abbrev cX5_undo : ByteArray := prog_1_method_32_code
def yX5_undo : MethodName := ⟨RX5, "undo", "()I"⟩
abbrev cX5_tear : ByteArray := prog_1_method_33_code
def yX5_tear : MethodName := ⟨RX5, "tear", "()I"⟩
abbrev cX5_count : ByteArray := prog_1_method_34_code
def yX5_count : MethodName := ⟨RX5, "count", "(I)I"⟩
abbrev cX5_status : ByteArray := prog_1_method_35_code
def yX5_status : MethodName := ⟨RX5, "status", "(I)I"⟩
abbrev cX5_finding : ByteArray := prog_1_method_36_code
def yX5_finding : MethodName := ⟨RX5, "finding", "(I)I"⟩
abbrev cX5_isWithin : ByteArray := prog_1_method_37_code
def yX5_isWithin : MethodName := ⟨RX5, "isWithin", "(III)Z"⟩
abbrev cX5_isWalker : ByteArray := prog_1_method_38_code
def yX5_isWalker : MethodName := ⟨RX5, "isWalker", "(I)Z"⟩
abbrev cX5_isSheet : ByteArray := prog_1_method_39_code
def yX5_isSheet : MethodName := ⟨RX5, "isSheet", "(I)Z"⟩
abbrev cX5_sheetFault : ByteArray := prog_1_method_40_code
def yX5_sheetFault : MethodName := ⟨RX5, "sheetFault", "(I)I"⟩
abbrev cX5_sheetAndWalkerFault : ByteArray := prog_1_method_41_code
def yX5_sheetAndWalkerFault : MethodName := ⟨RX5, "sheetAndWalkerFault", "(II)I"⟩
abbrev cX5_lookAhead : ByteArray := prog_1_method_42_code
def yX5_lookAhead : MethodName := ⟨RX5, "lookAhead", "()V"⟩
abbrev cX5_soonestThrough : ByteArray := prog_1_method_43_code
def yX5_soonestThrough : MethodName := ⟨RX5, "soonestThrough", "(II)I"⟩
abbrev cX5_bumpsAhead : ByteArray := prog_1_method_44_code
def yX5_bumpsAhead : MethodName := ⟨RX5, "bumpsAhead", "(II)I"⟩
abbrev cX5_isWithoutFines : ByteArray := prog_1_method_45_code
def yX5_isWithoutFines : MethodName := ⟨RX5, "isWithoutFines", "(II)Z"⟩
abbrev cX5_isJustSo : ByteArray := prog_1_method_46_code
def yX5_isJustSo : MethodName := ⟨RX5, "isJustSo", "(LBackAvenue$Sheet;I)Z"⟩
def RX6 : String := "BackAvenueModel"
def TX6 : u_T := fun k => match k with
  | 0 => ("BackAvenueModel", "row", "[I", true)
  | 1 => ("BackAvenueModel", "found", "[I", true)
  | 2 => ("BackAvenueModel", "tried", "[I", true)
  | 3 => ("BackAvenueModel", "before1", "[I", true)
  | 4 => ("BackAvenueModel", "tape", "[I", true)
  | 5 => ("BackAvenueModel", "tapeMany", "I", false)
  | 6 => ("BackAvenueModel", "sort", "I", false)
  | 7 => ("BackAvenueModel", "begins", "I", false)
  | 8 => ("BackAvenueModel", "tokenEnds", "I", false)
  | 9 => ("BackAvenueModel", "word", "J", false)
  | 10 => ("BackAvenueModel", "value", "I", false)
  | 11 => ("BackAvenueModel", "good", "Z", false)
  | 12 => ("BackAvenueModel", "bitsOf", "[I", true)
  | 13 => ("BackAvenueModel", "sizeOf", "[I", true)
  | 14 => ("BackAvenueModel", "sheets", "[J", true)
  | 15 => ("BackAvenueModel", "lent", "[J", true)
  | 16 => ("BackAvenueModel", "image", "[I", true)
  | 17 => ("BackAvenueModel", "before", "[I", true)
  | _ => ("BackAvenueModel", "isKept", "Z", false)
def tyX6 : Nat → FieldType := fun k => match k with
  | 0 => .array .int
  | 1 => .array .int
  | 2 => .array .int
  | 3 => .array .int
  | 4 => .array .int
  | 5 => .int
  | 6 => .int
  | 7 => .int
  | 8 => .int
  | 9 => .long
  | 10 => .int
  | 11 => .boolean
  | 12 => .array .int
  | 13 => .array .int
  | 14 => .array .long
  | 15 => .array .long
  | 16 => .array .int
  | 17 => .array .int
  | _ => .boolean
theorem nmX6 : ∀ a, a < 19 → ∀ b, b < 19 → a ≠ b → (TX6 a).2.1 ≠ (TX6 b).2.1 := by decide +kernel
theorem tyX6_ok : ∀ k, k < 19 → parseFieldDescriptor (TX6 k).2.2.1 = some (tyX6 k) := by decide +kernel
abbrev cX6_init : ByteArray := prog_8_method_1_code
def yX6_init : MethodName := ⟨RX6, "<init>", "()V"⟩
abbrev cX6_in : ByteArray := prog_8_method_2_code
def yX6_in : MethodName := ⟨RX6, "in", "(III)Z"⟩
abbrev cX6_finds : ByteArray := prog_8_method_3_code
def yX6_finds : MethodName := ⟨RX6, "finds", "(I)I"⟩
abbrev cX6_held : ByteArray := prog_8_method_4_code
def yX6_held : MethodName := ⟨RX6, "held", "(III)I"⟩
abbrev cX6_its : ByteArray := prog_8_method_5_code
def yX6_its : MethodName := ⟨RX6, "its", "(II)I"⟩
abbrev cX6_puts : ByteArray := prog_8_method_6_code
def yX6_puts : MethodName := ⟨RX6, "puts", "(III)V"⟩
abbrev cX6_more : ByteArray := prog_8_method_7_code
def yX6_more : MethodName := ⟨RX6, "more", "(II)V"⟩
abbrev cX6_becomes : ByteArray := prog_8_method_8_code
def yX6_becomes : MethodName := ⟨RX6, "becomes", "(II)I"⟩
abbrev cX6_isOne : ByteArray := prog_8_method_9_code
def yX6_isOne : MethodName := ⟨RX6, "isOne", "(I)Z"⟩
abbrev cX6_isKind : ByteArray := prog_8_method_10_code
def yX6_isKind : MethodName := ⟨RX6, "isKind", "(I)Z"⟩
abbrev cX6_bits : ByteArray := prog_8_method_11_code
def yX6_bits : MethodName := ⟨RX6, "bits", "(I)I"⟩
abbrev cX6_trams : ByteArray := prog_8_method_12_code
def yX6_trams : MethodName := ⟨RX6, "trams", "(I)I"⟩
abbrev cX6_isThrough : ByteArray := prog_8_method_13_code
def yX6_isThrough : MethodName := ⟨RX6, "isThrough", "(I)Z"⟩
abbrev cX6_sight : ByteArray := prog_8_method_14_code
def yX6_sight : MethodName := ⟨RX6, "sight", "(I)I"⟩
abbrev cX6_offFrom : ByteArray := prog_8_method_15_code
def yX6_offFrom : MethodName := ⟨RX6, "offFrom", "(II)I"⟩
abbrev cX6_seen : ByteArray := prog_8_method_16_code
def yX6_seen : MethodName := ⟨RX6, "seen", "(I)I"⟩
abbrev cX6_followed : ByteArray := prog_8_method_17_code
def yX6_followed : MethodName := ⟨RX6, "followed", "(I)I"⟩
abbrev cX6_goes : ByteArray := prog_8_method_18_code
def yX6_goes : MethodName := ⟨RX6, "goes", "(I)I"⟩
abbrev cX6_isTurned : ByteArray := prog_8_method_19_code
def yX6_isTurned : MethodName := ⟨RX6, "isTurned", "(I)Z"⟩
abbrev cX6_adds : ByteArray := prog_8_method_20_code
def yX6_adds : MethodName := ⟨RX6, "adds", "(IIIII)V"⟩
abbrev cX6_walker : ByteArray := prog_8_method_21_code
def yX6_walker : MethodName := ⟨RX6, "walker", "(II)I"⟩
abbrev cX6_of : ByteArray := prog_8_method_22_code
def yX6_of : MethodName := ⟨RX6, "of", "(II)I"⟩
abbrev cX6_isPart : ByteArray := prog_8_method_23_code
def yX6_isPart : MethodName := ⟨RX6, "isPart", "(II)Z"⟩
abbrev cX6_set : ByteArray := prog_8_method_24_code
def yX6_set : MethodName := ⟨RX6, "set", "(III)I"⟩
abbrev cX6_turn : ByteArray := prog_8_method_25_code
def yX6_turn : MethodName := ⟨RX6, "turn", "(II)I"⟩
abbrev cX6_as : ByteArray := prog_8_method_26_code
def yX6_as : MethodName := ⟨RX6, "as", "(II)I"⟩
abbrev cX6_sees : ByteArray := prog_8_method_27_code
def yX6_sees : MethodName := ⟨RX6, "sees", "(I)I"⟩
abbrev cX6_leader : ByteArray := prog_8_method_28_code
def yX6_leader : MethodName := ⟨RX6, "leader", "(I)I"⟩
abbrev cX6_besides : ByteArray := prog_8_method_29_code
def yX6_besides : MethodName := ⟨RX6, "besides", "(I)I"⟩
abbrev cX6_bumpInto : ByteArray := prog_8_method_30_code
def yX6_bumpInto : MethodName := ⟨RX6, "bumpInto", "(II)V"⟩
abbrev cX6_tram : ByteArray := prog_8_method_31_code
def yX6_tram : MethodName := ⟨RX6, "tram", "()I"⟩
abbrev cX6_walks : ByteArray := prog_8_method_32_code
def yX6_walks : MethodName := ⟨RX6, "walks", "(I)V"⟩
abbrev cX6_oneMinute : ByteArray := prog_8_method_33_code
def yX6_oneMinute : MethodName := ⟨RX6, "oneMinute", "()V"⟩
abbrev cX6_passes : ByteArray := prog_8_method_34_code
def yX6_passes : MethodName := ⟨RX6, "passes", "(I)V"⟩
abbrev cX6_throughSet : ByteArray := prog_8_method_35_code
def yX6_throughSet : MethodName := ⟨RX6, "throughSet", "()I"⟩
abbrev cX6_minutes : ByteArray := prog_8_method_36_code
def yX6_minutes : MethodName := ⟨RX6, "minutes", "(I)I"⟩
abbrev cX6_sumOf : ByteArray := prog_8_method_37_code
def yX6_sumOf : MethodName := ⟨RX6, "sumOf", "(I)I"⟩
abbrev cX6_now : ByteArray := prog_8_method_38_code
def yX6_now : MethodName := ⟨RX6, "now", "(I)I"⟩
abbrev cX6_on : ByteArray := prog_8_method_39_code
def yX6_on : MethodName := ⟨RX6, "on", "(III)I"⟩
abbrev cX6_throughIn : ByteArray := prog_8_method_40_code
def yX6_throughIn : MethodName := ⟨RX6, "throughIn", "(I)I"⟩
abbrev cX6_through : ByteArray := prog_8_method_41_code
def yX6_through : MethodName := ⟨RX6, "through", "(I)I"⟩
abbrev cX6_bumps : ByteArray := prog_8_method_42_code
def yX6_bumps : MethodName := ⟨RX6, "bumps", "(I)I"⟩
abbrev cX6_meet : ByteArray := prog_8_method_43_code
def yX6_meet : MethodName := ⟨RX6, "meet", "(II)I"⟩
abbrev cX6_soonest : ByteArray := prog_8_method_44_code
def yX6_soonest : MethodName := ⟨RX6, "soonest", "(III)I"⟩
abbrev cX6_pace : ByteArray := prog_8_method_45_code
def yX6_pace : MethodName := ⟨RX6, "pace", "(I)I"⟩
abbrev cX6_kind : ByteArray := prog_8_method_46_code
def yX6_kind : MethodName := ⟨RX6, "kind", "(I)I"⟩
abbrev cX6_sumBehind : ByteArray := prog_8_method_47_code
def yX6_sumBehind : MethodName := ⟨RX6, "sumBehind", "(II)I"⟩
abbrev cX6_begin : ByteArray := prog_8_method_48_code
def yX6_begin : MethodName := ⟨RX6, "begin", "(II)I"⟩
abbrev cX6_fewest : ByteArray := prog_8_method_49_code
def yX6_fewest : MethodName := ⟨RX6, "fewest", "(I)I"⟩
abbrev cX6_other : ByteArray := prog_8_method_50_code
def yX6_other : MethodName := ⟨RX6, "other", "(I)I"⟩
abbrev cX6_first : ByteArray := prog_8_method_51_code
def yX6_first : MethodName := ⟨RX6, "first", "()I"⟩
abbrev cX6_feed : ByteArray := prog_8_method_52_code
def yX6_feed : MethodName := ⟨RX6, "feed", "(II)I"⟩
abbrev cX6_wipe : ByteArray := prog_8_method_53_code
def yX6_wipe : MethodName := ⟨RX6, "wipe", "()I"⟩
abbrev cX6_byteAt : ByteArray := prog_8_method_54_code
def yX6_byteAt : MethodName := ⟨RX6, "byteAt", "(I)I"⟩
abbrev cX6_isLetter : ByteArray := prog_8_method_55_code
def yX6_isLetter : MethodName := ⟨RX6, "isLetter", "(I)Z"⟩
abbrev cX6_isDigit : ByteArray := prog_8_method_56_code
def yX6_isDigit : MethodName := ⟨RX6, "isDigit", "(I)Z"⟩
abbrev cX6_advance : ByteArray := prog_8_method_57_code
def yX6_advance : MethodName := ⟨RX6, "advance", "()V"⟩
abbrev cX6_isWord : ByteArray := prog_8_method_58_code
def yX6_isWord : MethodName := ⟨RX6, "isWord", "(J)Z"⟩
abbrev cX6_kindHere : ByteArray := prog_8_method_59_code
def yX6_kindHere : MethodName := ⟨RX6, "kindHere", "()I"⟩
abbrev cX6_wantNumber : ByteArray := prog_8_method_60_code
def yX6_wantNumber : MethodName := ⟨RX6, "wantNumber", "(II)I"⟩
abbrev cX6_mayWant : ByteArray := prog_8_method_61_code
def yX6_mayWant : MethodName := ⟨RX6, "mayWant", "(JIII)I"⟩
abbrev cX6_may : ByteArray := prog_8_method_62_code
def yX6_may : MethodName := ⟨RX6, "may", "(J)Z"⟩
abbrev cX6_wantOne : ByteArray := prog_8_method_63_code
def yX6_wantOne : MethodName := ⟨RX6, "wantOne", "(I)V"⟩
abbrev cX6_wantItem : ByteArray := prog_8_method_64_code
def yX6_wantItem : MethodName := ⟨RX6, "wantItem", "()V"⟩
abbrev cX6_avenue : ByteArray := prog_8_method_65_code
def yX6_avenue : MethodName := ⟨RX6, "avenue", "()I"⟩
abbrev cX6_isSheet : ByteArray := prog_8_method_66_code
def yX6_isSheet : MethodName := ⟨RX6, "isSheet", "(I)Z"⟩
abbrev cX6_narrow : ByteArray := prog_8_method_67_code
def yX6_narrow : MethodName := ⟨RX6, "narrow", "(IJ)J"⟩
abbrev cX6_sheet : ByteArray := prog_8_method_68_code
def yX6_sheet : MethodName := ⟨RX6, "sheet", "(III)I"⟩
abbrev cX6_write : ByteArray := prog_8_method_69_code
def yX6_write : MethodName := ⟨RX6, "write", "(IIJ)J"⟩
abbrev cX6_isPart_ : ByteArray := prog_8_method_70_code
def yX6_isPart_ : MethodName := ⟨RX6, "isPart", "(III)Z"⟩
abbrev cX6_copy : ByteArray := prog_8_method_71_code
def yX6_copy : MethodName := ⟨RX6, "copy", "(IIIII)I"⟩
abbrev cX6_badSheet : ByteArray := prog_8_method_72_code
def yX6_badSheet : MethodName := ⟨RX6, "badSheet", "(I)I"⟩
abbrev cX6_lays : ByteArray := prog_8_method_73_code
def yX6_lays : MethodName := ⟨RX6, "lays", "(I)I"⟩
abbrev cX6_book : ByteArray := prog_8_method_74_code
def yX6_book : MethodName := ⟨RX6, "book", "(II)I"⟩
abbrev cX6_isSo : ByteArray := prog_8_method_75_code
def yX6_isSo : MethodName := ⟨RX6, "isSo", "(II)Z"⟩
abbrev cX6_read : ByteArray := prog_8_method_76_code
def yX6_read : MethodName := ⟨RX6, "read", "(II)I"⟩
abbrev cX6_moveAll : ByteArray := prog_8_method_77_code
def yX6_moveAll : MethodName := ⟨RX6, "moveAll", "(Z[I)V"⟩
abbrev cX6_image : ByteArray := prog_8_method_78_code
def yX6_image : MethodName := ⟨RX6, "image", "()I"⟩
abbrev cX6_undo : ByteArray := prog_8_method_79_code
def yX6_undo : MethodName := ⟨RX6, "undo", "()I"⟩
abbrev cX6_tear : ByteArray := prog_8_method_80_code
def yX6_tear : MethodName := ⟨RX6, "tear", "()I"⟩
abbrev cX6_count : ByteArray := prog_8_method_81_code
def yX6_count : MethodName := ⟨RX6, "count", "(I)I"⟩
abbrev cX6_status : ByteArray := prog_8_method_82_code
def yX6_status : MethodName := ⟨RX6, "status", "(I)I"⟩
def RJx145de : String := "java/io/Serializable"
def TJx145de : u_T := fun k => match k with
  | _ => ("", "", "", false)
def tyJx145de : Nat → FieldType := fun k => match k with
  | _ => .int
theorem nmJx145de : ∀ a, a < 0 → ∀ b, b < 0 → a ≠ b → (TJx145de a).2.1 ≠ (TJx145de b).2.1 := by decide +kernel
theorem tyJx145de_ok : ∀ k, k < 0 → parseFieldDescriptor (TJx145de k).2.2.1 = some (tyJx145de k) := by decide +kernel
def RJx9f9b0 : String := "java/lang/CharSequence"
def TJx9f9b0 : u_T := fun k => match k with
  | _ => ("", "", "", false)
def tyJx9f9b0 : Nat → FieldType := fun k => match k with
  | _ => .int
theorem nmJx9f9b0 : ∀ a, a < 0 → ∀ b, b < 0 → a ≠ b → (TJx9f9b0 a).2.1 ≠ (TJx9f9b0 b).2.1 := by decide +kernel
theorem tyJx9f9b0_ok : ∀ k, k < 0 → parseFieldDescriptor (TJx9f9b0 k).2.2.1 = some (tyJx9f9b0 k) := by decide +kernel
def RJxb160c : String := "java/lang/Comparable"
def TJxb160c : u_T := fun k => match k with
  | _ => ("", "", "", false)
def tyJxb160c : Nat → FieldType := fun k => match k with
  | _ => .int
theorem nmJxb160c : ∀ a, a < 0 → ∀ b, b < 0 → a ≠ b → (TJxb160c a).2.1 ≠ (TJxb160c b).2.1 := by decide +kernel
theorem tyJxb160c_ok : ∀ k, k < 0 → parseFieldDescriptor (TJxb160c k).2.2.1 = some (tyJxb160c k) := by decide +kernel
def RJ6 : String := "java/lang/Integer"
def TJ6 : u_T := fun k => match k with
  | _ => ("", "", "", false)
def tyJ6 : Nat → FieldType := fun k => match k with
  | _ => .int
theorem nmJ6 : ∀ a, a < 0 → ∀ b, b < 0 → a ≠ b → (TJ6 a).2.1 ≠ (TJ6 b).2.1 := by decide +kernel
theorem tyJ6_ok : ∀ k, k < 0 → parseFieldDescriptor (TJ6 k).2.2.1 = some (tyJ6 k) := by decide +kernel
abbrev cJ6_numberOfTrailingZeros_0f7a4 : ByteArray := prog_9_method_48_code
def yJ6_numberOfTrailingZeros_0f7a4 : MethodName := ⟨RJ6, "numberOfTrailingZeros", "(I)I"⟩
abbrev cJ6_bitCount_0f7a4 : ByteArray := prog_9_method_49_code
def yJ6_bitCount_0f7a4 : MethodName := ⟨RJ6, "bitCount", "(I)I"⟩
def RJ9 : String := "java/lang/Math"
def TJ9 : u_T := fun k => match k with
  | _ => ("", "", "", false)
def tyJ9 : Nat → FieldType := fun k => match k with
  | _ => .int
theorem nmJ9 : ∀ a, a < 0 → ∀ b, b < 0 → a ≠ b → (TJ9 a).2.1 ≠ (TJ9 b).2.1 := by decide +kernel
theorem tyJ9_ok : ∀ k, k < 0 → parseFieldDescriptor (TJ9 k).2.2.1 = some (tyJ9 k) := by decide +kernel
abbrev cJ9_max_7cf53 : ByteArray := prog_10_method_65_code
def yJ9_max_7cf53 : MethodName := ⟨RJ9, "max", "(II)I"⟩
abbrev cJ9_min_7cf53 : ByteArray := prog_10_method_69_code
def yJ9_min_7cf53 : MethodName := ⟨RJ9, "min", "(II)I"⟩
def RJ0 : String := "java/lang/String"
def TJ0 : u_T := fun k => match k with
  | _ => ("", "", "", false)
def tyJ0 : Nat → FieldType := fun k => match k with
  | _ => .int
theorem nmJ0 : ∀ a, a < 0 → ∀ b, b < 0 → a ≠ b → (TJ0 a).2.1 ≠ (TJ0 b).2.1 := by decide +kernel
theorem tyJ0_ok : ∀ k, k < 0 → parseFieldDescriptor (TJ0 k).2.2.1 = some (tyJ0 k) := by decide +kernel
abbrev cJ0_length_8abf5 : ByteArray := prog_11_method_54_code
def yJ0_length_8abf5 : MethodName := ⟨RJ0, "length", "()I"⟩
abbrev cJ0_charAt_5068e : ByteArray := prog_11_method_56_code
def yJ0_charAt_5068e : MethodName := ⟨RJ0, "charAt", "(I)C"⟩
abbrev cJ0_coder_7d493 : ByteArray := prog_11_method_152_code
def yJ0_coder_7d493 : MethodName := ⟨RJ0, "coder", "()B"⟩
abbrev cJ0_isLatin1_aae02 : ByteArray := prog_11_method_154_code
def yJ0_isLatin1_aae02 : MethodName := ⟨RJ0, "isLatin1", "()Z"⟩
abbrev cJ0_checkIndex_df160 : ByteArray := prog_11_method_155_code
def yJ0_checkIndex_df160 : MethodName := ⟨RJ0, "checkIndex", "(II)V"⟩
def RJ1 : String := "java/lang/StringLatin1"
def TJ1 : u_T := fun k => match k with
  | _ => ("", "", "", false)
def tyJ1 : Nat → FieldType := fun k => match k with
  | _ => .int
theorem nmJ1 : ∀ a, a < 0 → ∀ b, b < 0 → a ≠ b → (TJ1 a).2.1 ≠ (TJ1 b).2.1 := by decide +kernel
theorem tyJ1_ok : ∀ k, k < 0 → parseFieldDescriptor (TJ1 k).2.2.1 = some (tyJ1 k) := by decide +kernel
abbrev cJ1_charAt_3b067 : ByteArray := prog_12_method_2_code
def yJ1_charAt_3b067 : MethodName := ⟨RJ1, "charAt", "([BI)C"⟩
def RJ2 : String := "java/lang/StringUTF16"
def TJ2 : u_T := fun k => match k with
  | _ => ("", "", "", false)
def tyJ2 : Nat → FieldType := fun k => match k with
  | _ => .int
theorem nmJ2 : ∀ a, a < 0 → ∀ b, b < 0 → a ≠ b → (TJ2 a).2.1 ≠ (TJ2 b).2.1 := by decide +kernel
theorem tyJ2_ok : ∀ k, k < 0 → parseFieldDescriptor (TJ2 k).2.2.1 = some (tyJ2 k) := by decide +kernel
abbrev cJ2_getChar_3b067 : ByteArray := prog_13_method_5_code
def yJ2_getChar_3b067 : MethodName := ⟨RJ2, "getChar", "([BI)C"⟩
abbrev cJ2_length_9d52b : ByteArray := prog_13_method_6_code
def yJ2_length_9d52b : MethodName := ⟨RJ2, "length", "([B)I"⟩
abbrev cJ2_charAt_3b067 : ByteArray := prog_13_method_83_code
def yJ2_charAt_3b067 : MethodName := ⟨RJ2, "charAt", "([BI)C"⟩
abbrev cJ2_checkIndex_2214a : ByteArray := prog_13_method_91_code
def yJ2_checkIndex_2214a : MethodName := ⟨RJ2, "checkIndex", "(I[B)V"⟩
def RJ10 : String := "java/lang/System"
def TJ10 : u_T := fun k => match k with
  | _ => ("", "", "", false)
def tyJ10 : Nat → FieldType := fun k => match k with
  | _ => .int
theorem nmJ10 : ∀ a, a < 0 → ∀ b, b < 0 → a ≠ b → (TJ10 a).2.1 ≠ (TJ10 b).2.1 := by decide +kernel
theorem tyJ10_ok : ∀ k, k < 0 → parseFieldDescriptor (TJ10 k).2.2.1 = some (tyJ10 k) := by decide +kernel
def RJxfd54e : String := "java/lang/constant/Constable"
def TJxfd54e : u_T := fun k => match k with
  | _ => ("", "", "", false)
def tyJxfd54e : Nat → FieldType := fun k => match k with
  | _ => .int
theorem nmJxfd54e : ∀ a, a < 0 → ∀ b, b < 0 → a ≠ b → (TJxfd54e a).2.1 ≠ (TJxfd54e b).2.1 := by decide +kernel
theorem tyJxfd54e_ok : ∀ k, k < 0 → parseFieldDescriptor (TJxfd54e k).2.2.1 = some (tyJxfd54e k) := by decide +kernel
def RJx3cf43 : String := "java/lang/constant/ConstantDesc"
def TJx3cf43 : u_T := fun k => match k with
  | _ => ("", "", "", false)
def tyJx3cf43 : Nat → FieldType := fun k => match k with
  | _ => .int
theorem nmJx3cf43 : ∀ a, a < 0 → ∀ b, b < 0 → a ≠ b → (TJx3cf43 a).2.1 ≠ (TJx3cf43 b).2.1 := by decide +kernel
theorem tyJx3cf43_ok : ∀ k, k < 0 → parseFieldDescriptor (TJx3cf43 k).2.2.1 = some (tyJx3cf43 k) := by decide +kernel
def RJ7 : String := "java/util/Arrays"
def TJ7 : u_T := fun k => match k with
  | _ => ("", "", "", false)
def tyJ7 : Nat → FieldType := fun k => match k with
  | _ => .int
theorem nmJ7 : ∀ a, a < 0 → ∀ b, b < 0 → a ≠ b → (TJ7 a).2.1 ≠ (TJ7 b).2.1 := by decide +kernel
theorem tyJ7_ok : ∀ k, k < 0 → parseFieldDescriptor (TJ7 k).2.2.1 = some (tyJ7 k) := by decide +kernel
abbrev cJ7_fill_d0a16 : ByteArray := prog_15_method_101_code
def yJ7_fill_d0a16 : MethodName := ⟨RJ7, "fill", "([JJ)V"⟩
def RJ3 : String := "jdk/internal/util/Preconditions"
def TJ3 : u_T := fun k => match k with
  | _ => ("", "", "", false)
def tyJ3 : Nat → FieldType := fun k => match k with
  | _ => .int
theorem nmJ3 : ∀ a, a < 0 → ∀ b, b < 0 → a ≠ b → (TJ3 a).2.1 ≠ (TJ3 b).2.1 := by decide +kernel
theorem tyJ3_ok : ∀ k, k < 0 → parseFieldDescriptor (TJ3 k).2.2.1 = some (tyJ3 k) := by decide +kernel
abbrev cJ3_checkIndex_8e157 : ByteArray := prog_16_method_11_code
def yJ3_checkIndex_8e157 : MethodName := ⟨RJ3, "checkIndex", "(IILjava/util/function/BiFunction;)I"⟩
def RL : String := "BackAvenueLaw"
abbrev cL_law : ByteArray := code
def yL_law : MethodName := ⟨RL, "law", "([I)Z"⟩
abbrev vwCl : List vw_C := [(RX0, TX0, 10), (RX2, TX2, 3), (RX3, TX3, 4), (RX3, TX3, 4), (RX5, TX5, 7), (RX6, TX6, 19)]
