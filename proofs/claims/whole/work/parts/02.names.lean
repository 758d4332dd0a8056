/-! ===== BEGIN printed: names, fields, word lists, decode rows ===== -/
def RX0 : String := "EvenstartGames$Athlete"
def TX0 : u_T := fun k => match k with
  | 0 => ("EvenstartGames$Athlete", "number", "I", true)
  | 1 => ("EvenstartGames$Athlete", "land", "I", true)
  | 2 => ("EvenstartGames$Athlete", "is", "LEvenstartGames$Measures;", true)
  | 3 => ("EvenstartGames$Athlete", "told", "LEvenstartGames$Measures;", true)
  | 4 => ("EvenstartGames$Athlete", "found", "LEvenstartGames$Measures;", true)
  | 5 => ("EvenstartGames$Athlete", "wasFound", "Z", false)
  | 6 => ("EvenstartGames$Athlete", "status", "C", false)
  | 7 => ("EvenstartGames$Athlete", "kind", "LEvenstartGames$Kind;", false)
  | 8 => ("EvenstartGames$Athlete", "until", "I", false)
  | _ => ("EvenstartGames$Athlete", "standsOnFloor", "Z", false)
def tyX0 : Nat → FieldType := fun k => match k with
  | 0 => .int
  | 1 => .int
  | 2 => .object "EvenstartGames$Measures"
  | 3 => .object "EvenstartGames$Measures"
  | 4 => .object "EvenstartGames$Measures"
  | 5 => .boolean
  | 6 => .char
  | 7 => .object "EvenstartGames$Kind"
  | 8 => .int
  | _ => .boolean
abbrev wsX00 : List Cond := u_ws RX0 TX0 10
theorem nmX0 : ∀ a, a < 10 → ∀ b, b < 10 → a ≠ b → (TX0 a).2.1 ≠ (TX0 b).2.1 := by decide +kernel
theorem tyX0_ok : ∀ k, k < 10 → parseFieldDescriptor (TX0 k).2.2.1 = some (tyX0 k) := by decide +kernel
abbrev cX0_init : ByteArray := prog_2_method_1_code
def yX0_init : MethodName := ⟨RX0, "<init>", "(II)V"⟩
abbrev cX0_shownOf : ByteArray := prog_2_method_2_code
def yX0_shownOf : MethodName := ⟨RX0, "shownOf", "(I)I"⟩
abbrev cX0_findWhatIsShown : ByteArray := prog_2_method_3_code
def yX0_findWhatIsShown : MethodName := ⟨RX0, "findWhatIsShown", "()V"⟩
abbrev cX0_findWhatIs : ByteArray := prog_2_method_4_code
def yX0_findWhatIs : MethodName := ⟨RX0, "findWhatIs", "()V"⟩
abbrev cX0_mayCompete : ByteArray := prog_2_method_5_code
def yX0_mayCompete : MethodName := ⟨RX0, "mayCompete", "()Z"⟩
abbrev cX0_waits : ByteArray := prog_2_method_6_code
def yX0_waits : MethodName := ⟨RX0, "waits", "()Z"⟩
abbrev cX0_pointsByNow : ByteArray := prog_2_method_7_code
def yX0_pointsByNow : MethodName := ⟨RX0, "pointsByNow", "()I"⟩
abbrev cX0_isInOrder : ByteArray := prog_2_method_8_code
def yX0_isInOrder : MethodName := ⟨RX0, "isInOrder", "()Z"⟩
def RX1 : String := "EvenstartGames$Classifier"
def TX1 : u_T := fun k => match k with
  | _ => ("EvenstartGames$Classifier", "land", "I", true)
def tyX1 : Nat → FieldType := fun k => match k with
  | _ => .int
abbrev wsX10 : List Cond := u_ws RX1 TX1 1
theorem nmX1 : ∀ a, a < 1 → ∀ b, b < 1 → a ≠ b → (TX1 a).2.1 ≠ (TX1 b).2.1 := by decide +kernel
theorem tyX1_ok : ∀ k, k < 1 → parseFieldDescriptor (TX1 k).2.2.1 = some (tyX1 k) := by decide +kernel
abbrev cX1_init : ByteArray := prog_3_method_1_code
def yX1_init : MethodName := ⟨RX1, "<init>", "(I)V"⟩
def RX2 : String := "EvenstartGames$Entry"
def TX2 : u_T := fun k => match k with
  | 0 => ("EvenstartGames$Entry", "athlete", "LEvenstartGames$Athlete;", true)
  | 1 => ("EvenstartGames$Entry", "kind", "LEvenstartGames$Kind;", true)
  | 2 => ("EvenstartGames$Entry", "fell", "Z", false)
  | _ => ("EvenstartGames$Entry", "factoredTime", "I", false)
def tyX2 : Nat → FieldType := fun k => match k with
  | 0 => .object "EvenstartGames$Athlete"
  | 1 => .object "EvenstartGames$Kind"
  | 2 => .boolean
  | _ => .int
abbrev wsX20 : List Cond := u_ws RX2 TX2 4
theorem nmX2 : ∀ a, a < 4 → ∀ b, b < 4 → a ≠ b → (TX2 a).2.1 ≠ (TX2 b).2.1 := by decide +kernel
theorem tyX2_ok : ∀ k, k < 4 → parseFieldDescriptor (TX2 k).2.2.1 = some (tyX2 k) := by decide +kernel
abbrev cX2_init : ByteArray := prog_4_method_1_code
def yX2_init : MethodName := ⟨RX2, "<init>", "(LEvenstartGames$Athlete;LEvenstartGames$Kind;)V"⟩
abbrev cX2_hasTime : ByteArray := prog_4_method_2_code
def yX2_hasTime : MethodName := ⟨RX2, "hasTime", "()Z"⟩
abbrev cX2_fall : ByteArray := prog_4_method_3_code
def yX2_fall : MethodName := ⟨RX2, "fall", "()V"⟩
abbrev cX2_isAheadOf : ByteArray := prog_4_method_4_code
def yX2_isAheadOf : MethodName := ⟨RX2, "isAheadOf", "(LEvenstartGames$Entry;)Z"⟩
def RX3 : String := "EvenstartGames$Event"
def TX3 : u_T := fun k => match k with
  | 0 => ("EvenstartGames$Event", "kinds", "I", true)
  | 1 => ("EvenstartGames$Event", "factors", "[I", true)
  | 2 => ("EvenstartGames$Event", "entries", "[LEvenstartGames$Entry;", true)
  | 3 => ("EvenstartGames$Event", "began", "Z", false)
  | _ => ("EvenstartGames$Event", "closed", "Z", false)
def tyX3 : Nat → FieldType := fun k => match k with
  | 0 => .int
  | 1 => .array .int
  | 2 => .array (.object "EvenstartGames$Entry")
  | 3 => .boolean
  | _ => .boolean
abbrev wsX30 : List Cond := u_ws RX3 TX3 5
theorem nmX3 : ∀ a, a < 5 → ∀ b, b < 5 → a ≠ b → (TX3 a).2.1 ≠ (TX3 b).2.1 := by decide +kernel
theorem tyX3_ok : ∀ k, k < 5 → parseFieldDescriptor (TX3 k).2.2.1 = some (tyX3 k) := by decide +kernel
abbrev cX3_init : ByteArray := prog_5_method_1_code
def yX3_init : MethodName := ⟨RX3, "<init>", "(I)V"⟩
abbrev cX3_isFor : ByteArray := prog_5_method_2_code
def yX3_isFor : MethodName := ⟨RX3, "isFor", "(I)Z"⟩
abbrev cX3_factorOf : ByteArray := prog_5_method_3_code
def yX3_factorOf : MethodName := ⟨RX3, "factorOf", "(I)I"⟩
abbrev cX3_tellFactor : ByteArray := prog_5_method_4_code
def yX3_tellFactor : MethodName := ⟨RX3, "tellFactor", "(II)V"⟩
abbrev cX3_entryOf : ByteArray := prog_5_method_5_code
def yX3_entryOf : MethodName := ⟨RX3, "entryOf", "(LEvenstartGames$Athlete;)LEvenstartGames$Entry;"⟩
abbrev cX3_add : ByteArray := prog_5_method_6_code
def yX3_add : MethodName := ⟨RX3, "add", "(LEvenstartGames$Entry;)V"⟩
abbrev cX3_countEntries : ByteArray := prog_5_method_7_code
def yX3_countEntries : MethodName := ⟨RX3, "countEntries", "()I"⟩
abbrev cX3_countNotFallen : ByteArray := prog_5_method_8_code
def yX3_countNotFallen : MethodName := ⟨RX3, "countNotFallen", "()I"⟩
abbrev cX3_countLandsNotFallen : ByteArray := prog_5_method_9_code
def yX3_countLandsNotFallen : MethodName := ⟨RX3, "countLandsNotFallen", "()I"⟩
abbrev cX3_countTimes : ByteArray := prog_5_method_10_code
def yX3_countTimes : MethodName := ⟨RX3, "countTimes", "()I"⟩
abbrev cX3_countFaster : ByteArray := prog_5_method_11_code
def yX3_countFaster : MethodName := ⟨RX3, "countFaster", "(LEvenstartGames$Entry;)I"⟩
abbrev cX3_countOfLandAhead : ByteArray := prog_5_method_12_code
def yX3_countOfLandAhead : MethodName := ⟨RX3, "countOfLandAhead", "(LEvenstartGames$Entry;)I"⟩
abbrev cX3_nextInOrder : ByteArray := prog_5_method_13_code
def yX3_nextInOrder : MethodName := ⟨RX3, "nextInOrder", "(LEvenstartGames$Entry;)LEvenstartGames$Entry;"⟩
abbrev cX3_inOrder : ByteArray := prog_5_method_14_code
def yX3_inOrder : MethodName := ⟨RX3, "inOrder", "(I)LEvenstartGames$Entry;"⟩
abbrev cX3_inOrderOfSlots : ByteArray := prog_5_method_15_code
def yX3_inOrderOfSlots : MethodName := ⟨RX3, "inOrderOfSlots", "(I)LEvenstartGames$Entry;"⟩
abbrev cX3_addTimesTo : ByteArray := prog_5_method_16_code
def yX3_addTimesTo : MethodName := ⟨RX3, "addTimesTo", "(J)J"⟩
abbrev cX3_isInOrder : ByteArray := prog_5_method_17_code
def yX3_isInOrder : MethodName := ⟨RX3, "isInOrder", "()Z"⟩
def RX4 : String := "EvenstartGames$Kind"
def TX4 : u_T := fun k => match k with
  | 0 => ("EvenstartGames$Kind", "number", "I", true)
  | 1 => ("EvenstartGames$Kind", "key", "I", true)
  | 2 => ("EvenstartGames$Kind", "leastLack", "I", true)
  | 3 => ("EvenstartGames$Kind", "leastSum", "I", false)
  | 4 => ("EvenstartGames$Kind", "greatestSum", "I", false)
  | _ => ("EvenstartGames$Kind", "leastTime", "I", false)
def tyX4 : Nat → FieldType := fun k => match k with
  | 0 => .int
  | 1 => .int
  | 2 => .int
  | 3 => .int
  | 4 => .int
  | _ => .int
abbrev wsX40 : List Cond := u_ws RX4 TX4 6
theorem nmX4 : ∀ a, a < 6 → ∀ b, b < 6 → a ≠ b → (TX4 a).2.1 ≠ (TX4 b).2.1 := by decide +kernel
theorem tyX4_ok : ∀ k, k < 6 → parseFieldDescriptor (TX4 k).2.2.1 = some (tyX4 k) := by decide +kernel
abbrev cX4_init : ByteArray := prog_6_method_1_code
def yX4_init : MethodName := ⟨RX4, "<init>", "(III)V"⟩
abbrev cX4_drawBounds : ByteArray := prog_6_method_2_code
def yX4_drawBounds : MethodName := ⟨RX4, "drawBounds", "(II)V"⟩
abbrev cX4_holds : ByteArray := prog_6_method_3_code
def yX4_holds : MethodName := ⟨RX4, "holds", "(LEvenstartGames$Measures;)Z"⟩
abbrev cX4_keepIfRecord : ByteArray := prog_6_method_4_code
def yX4_keepIfRecord : MethodName := ⟨RX4, "keepIfRecord", "(I)V"⟩
def RX5 : String := "EvenstartGames$Measures"
def TX5 : u_T := fun k => match k with
  | _ => ("EvenstartGames$Measures", "values", "[I", true)
def tyX5 : Nat → FieldType := fun k => match k with
  | _ => .array .int
abbrev wsX50 : List Cond := u_ws RX5 TX5 1
theorem nmX5 : ∀ a, a < 1 → ∀ b, b < 1 → a ≠ b → (TX5 a).2.1 ≠ (TX5 b).2.1 := by decide +kernel
theorem tyX5_ok : ∀ k, k < 1 → parseFieldDescriptor (TX5 k).2.2.1 = some (tyX5 k) := by decide +kernel
abbrev cX5_init : ByteArray := prog_7_method_1_code
def yX5_init : MethodName := ⟨RX5, "<init>", "(I)V"⟩
abbrev cX5_of : ByteArray := prog_7_method_2_code
def yX5_of : MethodName := ⟨RX5, "of", "(I)I"⟩
abbrev cX5_tell : ByteArray := prog_7_method_3_code
def yX5_tell : MethodName := ⟨RX5, "tell", "(II)V"⟩
abbrev cX5_lackOf : ByteArray := prog_7_method_4_code
def yX5_lackOf : MethodName := ⟨RX5, "lackOf", "(I)I"⟩
abbrev cX5_sumOfLacks : ByteArray := prog_7_method_5_code
def yX5_sumOfLacks : MethodName := ⟨RX5, "sumOfLacks", "()I"⟩
abbrev cX5_isFarAbove : ByteArray := prog_7_method_6_code
def yX5_isFarAbove : MethodName := ⟨RX5, "isFarAbove", "(LEvenstartGames$Measures;)Z"⟩
def RX6 : String := "EvenstartGames"
def TX6 : u_T := fun k => match k with
  | 0 => ("EvenstartGames", "athletes", "Ljava/util/ArrayList;", true)
  | 1 => ("EvenstartGames", "classifiers", "Ljava/util/ArrayList;", true)
  | 2 => ("EvenstartGames", "kinds", "Ljava/util/ArrayList;", true)
  | 3 => ("EvenstartGames", "events", "Ljava/util/ArrayList;", true)
  | 4 => ("EvenstartGames", "moneyOfLands", "[I", true)
  | _ => ("EvenstartGames", "presentYear", "I", false)
def tyX6 : Nat → FieldType := fun k => match k with
  | 0 => .object "java/util/ArrayList"
  | 1 => .object "java/util/ArrayList"
  | 2 => .object "java/util/ArrayList"
  | 3 => .object "java/util/ArrayList"
  | 4 => .array .int
  | _ => .int
abbrev wsX60 : List Cond := u_ws RX6 TX6 6
theorem nmX6 : ∀ a, a < 6 → ∀ b, b < 6 → a ≠ b → (TX6 a).2.1 ≠ (TX6 b).2.1 := by decide +kernel
theorem tyX6_ok : ∀ k, k < 6 → parseFieldDescriptor (TX6 k).2.2.1 = some (tyX6 k) := by decide +kernel
abbrev cX6_init : ByteArray := prog_1_method_1_code
def yX6_init : MethodName := ⟨RX6, "<init>", "()V"⟩
abbrev cX6_athlete : ByteArray := prog_1_method_2_code
def yX6_athlete : MethodName := ⟨RX6, "athlete", "(I)I"⟩
abbrev cX6_body : ByteArray := prog_1_method_3_code
def yX6_body : MethodName := ⟨RX6, "body", "(III)I"⟩
abbrev cX6_show : ByteArray := prog_1_method_4_code
def yX6_show : MethodName := ⟨RX6, "show", "(III)I"⟩
abbrev cX6_found : ByteArray := prog_1_method_5_code
def yX6_found : MethodName := ⟨RX6, "found", "(II)I"⟩
abbrev cX6_classifier : ByteArray := prog_1_method_6_code
def yX6_classifier : MethodName := ⟨RX6, "classifier", "(I)I"⟩
abbrev cX6_kind : ByteArray := prog_1_method_7_code
def yX6_kind : MethodName := ⟨RX6, "kind", "(IIII)I"⟩
abbrev cX6_belongs : ByteArray := prog_1_method_8_code
def yX6_belongs : MethodName := ⟨RX6, "belongs", "(I)I"⟩
abbrev cX6_test : ByteArray := prog_1_method_9_code
def yX6_test : MethodName := ⟨RX6, "test", "(III)C"⟩
abbrev cX6_status : ByteArray := prog_1_method_10_code
def yX6_status : MethodName := ⟨RX6, "status", "(I)C"⟩
abbrev cX6_classOf : ByteArray := prog_1_method_11_code
def yX6_classOf : MethodName := ⟨RX6, "classOf", "(I)I"⟩
abbrev cX6_watch : ByteArray := prog_1_method_12_code
def yX6_watch : MethodName := ⟨RX6, "watch", "(I)C"⟩
abbrev cX6_protest : ByteArray := prog_1_method_13_code
def yX6_protest : MethodName := ⟨RX6, "protest", "(II)Z"⟩
abbrev cX6_money : ByteArray := prog_1_method_14_code
def yX6_money : MethodName := ⟨RX6, "money", "(I)I"⟩
abbrev cX6_border : ByteArray := prog_1_method_15_code
def yX6_border : MethodName := ⟨RX6, "border", "(III)I"⟩
abbrev cX6_year : ByteArray := prog_1_method_16_code
def yX6_year : MethodName := ⟨RX6, "year", "()I"⟩
abbrev cX6_next : ByteArray := prog_1_method_17_code
def yX6_next : MethodName := ⟨RX6, "next", "()I"⟩
abbrev cX6_until : ByteArray := prog_1_method_18_code
def yX6_until : MethodName := ⟨RX6, "until", "(I)I"⟩
abbrev cX6_event : ByteArray := prog_1_method_19_code
def yX6_event : MethodName := ⟨RX6, "event", "(I)I"⟩
abbrev cX6_factor : ByteArray := prog_1_method_20_code
def yX6_factor : MethodName := ⟨RX6, "factor", "(III)I"⟩
abbrev cX6_enter : ByteArray := prog_1_method_21_code
def yX6_enter : MethodName := ⟨RX6, "enter", "(II)I"⟩
abbrev cX6_begin : ByteArray := prog_1_method_22_code
def yX6_begin : MethodName := ⟨RX6, "begin", "(I)I"⟩
abbrev cX6_result : ByteArray := prog_1_method_23_code
def yX6_result : MethodName := ⟨RX6, "result", "(IIII)I"⟩
abbrev cX6_fell : ByteArray := prog_1_method_24_code
def yX6_fell : MethodName := ⟨RX6, "fell", "(II)Z"⟩
abbrev cX6_time : ByteArray := prog_1_method_25_code
def yX6_time : MethodName := ⟨RX6, "time", "(II)I"⟩
abbrev cX6_inClass : ByteArray := prog_1_method_26_code
def yX6_inClass : MethodName := ⟨RX6, "inClass", "(II)I"⟩
abbrev cX6_close : ByteArray := prog_1_method_27_code
def yX6_close : MethodName := ⟨RX6, "close", "(I)I"⟩
abbrev cX6_at : ByteArray := prog_1_method_28_code
def yX6_at : MethodName := ⟨RX6, "at", "(II)I"⟩
abbrev cX6_place : ByteArray := prog_1_method_29_code
def yX6_place : MethodName := ⟨RX6, "place", "(II)I"⟩
abbrev cX6_slot : ByteArray := prog_1_method_30_code
def yX6_slot : MethodName := ⟨RX6, "slot", "(III)I"⟩
abbrev cX6_record : ByteArray := prog_1_method_31_code
def yX6_record : MethodName := ⟨RX6, "record", "(I)I"⟩
abbrev cX6_floor : ByteArray := prog_1_method_32_code
def yX6_floor : MethodName := ⟨RX6, "floor", "(II)I"⟩
abbrev cX6_swap : ByteArray := prog_1_method_33_code
def yX6_swap : MethodName := ⟨RX6, "swap", "(III)I"⟩
abbrev cX6_onFloor : ByteArray := prog_1_method_34_code
def yX6_onFloor : MethodName := ⟨RX6, "onFloor", "(I)I"⟩
abbrev cX6_points : ByteArray := prog_1_method_35_code
def yX6_points : MethodName := ⟨RX6, "points", "(I)I"⟩
abbrev cX6_checksum : ByteArray := prog_1_method_36_code
def yX6_checksum : MethodName := ⟨RX6, "checksum", "()J"⟩
abbrev cX6_fallenShare : ByteArray := prog_1_method_37_code
def yX6_fallenShare : MethodName := ⟨RX6, "fallenShare", "()F"⟩
abbrev cX6_meanLack : ByteArray := prog_1_method_38_code
def yX6_meanLack : MethodName := ⟨RX6, "meanLack", "(I)D"⟩
abbrev cX6_isSound : ByteArray := prog_1_method_39_code
def yX6_isSound : MethodName := ⟨RX6, "isSound", "()Z"⟩
abbrev cX6_needLand : ByteArray := prog_1_method_40_code
def yX6_needLand : MethodName := ⟨RX6, "needLand", "(I)V"⟩
abbrev cX6_needMeasure : ByteArray := prog_1_method_41_code
def yX6_needMeasure : MethodName := ⟨RX6, "needMeasure", "(I)V"⟩
abbrev cX6_needBounds : ByteArray := prog_1_method_42_code
def yX6_needBounds : MethodName := ⟨RX6, "needBounds", "(II)V"⟩
abbrev cX6_needAthlete : ByteArray := prog_1_method_43_code
def yX6_needAthlete : MethodName := ⟨RX6, "needAthlete", "(I)LEvenstartGames$Athlete;"⟩
abbrev cX6_needClassifier : ByteArray := prog_1_method_44_code
def yX6_needClassifier : MethodName := ⟨RX6, "needClassifier", "(I)LEvenstartGames$Classifier;"⟩
abbrev cX6_needKind : ByteArray := prog_1_method_45_code
def yX6_needKind : MethodName := ⟨RX6, "needKind", "(I)LEvenstartGames$Kind;"⟩
abbrev cX6_needEvent : ByteArray := prog_1_method_46_code
def yX6_needEvent : MethodName := ⟨RX6, "needEvent", "(I)LEvenstartGames$Event;"⟩
abbrev cX6_needEntry : ByteArray := prog_1_method_47_code
def yX6_needEntry : MethodName := ⟨RX6, "needEntry", "(II)LEvenstartGames$Entry;"⟩
abbrev cX6_needEntryWithTime : ByteArray := prog_1_method_48_code
def yX6_needEntryWithTime : MethodName := ⟨RX6, "needEntryWithTime", "(II)LEvenstartGames$Entry;"⟩
abbrev cX6_isTime : ByteArray := prog_1_method_49_code
def yX6_isTime : MethodName := ⟨RX6, "isTime", "(I)Z"⟩
abbrev cX6_areBitsBelow : ByteArray := prog_1_method_50_code
def yX6_areBitsBelow : MethodName := ⟨RX6, "areBitsBelow", "(II)Z"⟩
abbrev cX6_hasBit : ByteArray := prog_1_method_51_code
def yX6_hasBit : MethodName := ⟨RX6, "hasBit", "(II)Z"⟩
abbrev cX6_numberOf : ByteArray := prog_1_method_52_code
def yX6_numberOf : MethodName := ⟨RX6, "numberOf", "(LEvenstartGames$Kind;)I"⟩
abbrev cX6_kindAround : ByteArray := prog_1_method_53_code
def yX6_kindAround : MethodName := ⟨RX6, "kindAround", "(LEvenstartGames$Measures;)LEvenstartGames$Kind;"⟩
abbrev cX6_examine : ByteArray := prog_1_method_54_code
def yX6_examine : MethodName := ⟨RX6, "examine", "(LEvenstartGames$Athlete;)V"⟩
abbrev cX6_settleByFound : ByteArray := prog_1_method_55_code
def yX6_settleByFound : MethodName := ⟨RX6, "settleByFound", "(LEvenstartGames$Athlete;C)V"⟩
abbrev cX6_settle : ByteArray := prog_1_method_56_code
def yX6_settle : MethodName := ⟨RX6, "settle", "(LEvenstartGames$Athlete;LEvenstartGames$Kind;C)V"⟩
abbrev cX6_endWaiting : ByteArray := prog_1_method_57_code
def yX6_endWaiting : MethodName := ⟨RX6, "endWaiting", "(LEvenstartGames$Athlete;)V"⟩
abbrev cX6_dropOpenEntries : ByteArray := prog_1_method_58_code
def yX6_dropOpenEntries : MethodName := ⟨RX6, "dropOpenEntries", "(LEvenstartGames$Athlete;)V"⟩
abbrev cX6_hasResult : ByteArray := prog_1_method_59_code
def yX6_hasResult : MethodName := ⟨RX6, "hasResult", "(LEvenstartGames$Athlete;)Z"⟩
abbrev cX6_areAllOfLand : ByteArray := prog_1_method_60_code
def yX6_areAllOfLand : MethodName := ⟨RX6, "areAllOfLand", "(II)Z"⟩
abbrev cX6_haveAllClasses : ByteArray := prog_1_method_61_code
def yX6_haveAllClasses : MethodName := ⟨RX6, "haveAllClasses", "(I)Z"⟩
abbrev cX6_pointsOf : ByteArray := prog_1_method_62_code
def yX6_pointsOf : MethodName := ⟨RX6, "pointsOf", "(I)I"⟩
abbrev cX6_putOnFloor : ByteArray := prog_1_method_63_code
def yX6_putOnFloor : MethodName := ⟨RX6, "putOnFloor", "(II)V"⟩
abbrev cX6_bitsOnFloor : ByteArray := prog_1_method_64_code
def yX6_bitsOnFloor : MethodName := ⟨RX6, "bitsOnFloor", "(I)I"⟩
def RX7 : String := "EvenstartGamesModel"
def TX7 : u_T := fun k => match k with
  | 0 => ("EvenstartGamesModel", "lands", "[I", true)
  | 1 => ("EvenstartGamesModel", "bodies", "[[I", true)
  | 2 => ("EvenstartGamesModel", "shown", "[[I", true)
  | 3 => ("EvenstartGamesModel", "found", "[[I", true)
  | 4 => ("EvenstartGamesModel", "areFound", "[Z", true)
  | 5 => ("EvenstartGamesModel", "statuses", "[C", true)
  | 6 => ("EvenstartGamesModel", "classes", "[I", true)
  | 7 => ("EvenstartGamesModel", "untils", "[I", true)
  | 8 => ("EvenstartGamesModel", "areOnFloor", "[Z", true)
  | 9 => ("EvenstartGamesModel", "classifiers", "[I", true)
  | 10 => ("EvenstartGamesModel", "kinds", "[[I", true)
  | 11 => ("EvenstartGamesModel", "records", "[I", true)
  | 12 => ("EvenstartGamesModel", "moneys", "[I", true)
  | 13 => ("EvenstartGamesModel", "eventKinds", "[I", true)
  | 14 => ("EvenstartGamesModel", "factors", "[[I", true)
  | 15 => ("EvenstartGamesModel", "areBegun", "[Z", true)
  | 16 => ("EvenstartGamesModel", "areClosed", "[Z", true)
  | 17 => ("EvenstartGamesModel", "entries", "[[I", true)
  | 18 => ("EvenstartGamesModel", "areFallen", "[[Z", true)
  | 19 => ("EvenstartGamesModel", "times", "[[I", true)
  | 20 => ("EvenstartGamesModel", "athletes", "I", false)
  | 21 => ("EvenstartGamesModel", "classifierMany", "I", false)
  | 22 => ("EvenstartGamesModel", "kindMany", "I", false)
  | 23 => ("EvenstartGamesModel", "events", "I", false)
  | 24 => ("EvenstartGamesModel", "year", "I", false)
  | _ => ("EvenstartGamesModel", "thrown", "I", false)
def tyX7 : Nat → FieldType := fun k => match k with
  | 0 => .array .int
  | 1 => .array (.array .int)
  | 2 => .array (.array .int)
  | 3 => .array (.array .int)
  | 4 => .array .boolean
  | 5 => .array .char
  | 6 => .array .int
  | 7 => .array .int
  | 8 => .array .boolean
  | 9 => .array .int
  | 10 => .array (.array .int)
  | 11 => .array .int
  | 12 => .array .int
  | 13 => .array .int
  | 14 => .array (.array .int)
  | 15 => .array .boolean
  | 16 => .array .boolean
  | 17 => .array (.array .int)
  | 18 => .array (.array .boolean)
  | 19 => .array (.array .int)
  | 20 => .int
  | 21 => .int
  | 22 => .int
  | 23 => .int
  | 24 => .int
  | _ => .int
abbrev wsX70 : List Cond := u_ws RX7 TX7 26
theorem nmX7 : ∀ a, a < 26 → ∀ b, b < 26 → a ≠ b → (TX7 a).2.1 ≠ (TX7 b).2.1 := by decide +kernel
theorem tyX7_ok : ∀ k, k < 26 → parseFieldDescriptor (TX7 k).2.2.1 = some (tyX7 k) := by decide +kernel
abbrev cX7_init : ByteArray := prog_9_method_1_code
def yX7_init : MethodName := ⟨RX7, "<init>", "()V"⟩
abbrev cX7_thrown : ByteArray := prog_9_method_2_code
def yX7_thrown : MethodName := ⟨RX7, "thrown", "()I"⟩
abbrev cX7_isThrown : ByteArray := prog_9_method_3_code
def yX7_isThrown : MethodName := ⟨RX7, "isThrown", "(ZI)Z"⟩
abbrev cX7_isIn : ByteArray := prog_9_method_4_code
def yX7_isIn : MethodName := ⟨RX7, "isIn", "(III)Z"⟩
abbrev cX7_isNoAthlete : ByteArray := prog_9_method_5_code
def yX7_isNoAthlete : MethodName := ⟨RX7, "isNoAthlete", "(I)Z"⟩
abbrev cX7_isNoLand : ByteArray := prog_9_method_6_code
def yX7_isNoLand : MethodName := ⟨RX7, "isNoLand", "(I)Z"⟩
abbrev cX7_isNoKind : ByteArray := prog_9_method_7_code
def yX7_isNoKind : MethodName := ⟨RX7, "isNoKind", "(I)Z"⟩
abbrev cX7_athlete : ByteArray := prog_9_method_8_code
def yX7_athlete : MethodName := ⟨RX7, "athlete", "(I)I"⟩
abbrev cX7_isMeasure : ByteArray := prog_9_method_9_code
def yX7_isMeasure : MethodName := ⟨RX7, "isMeasure", "(I)Z"⟩
abbrev cX7_body : ByteArray := prog_9_method_10_code
def yX7_body : MethodName := ⟨RX7, "body", "(III)I"⟩
abbrev cX7_shownOf : ByteArray := prog_9_method_11_code
def yX7_shownOf : MethodName := ⟨RX7, "shownOf", "(II)I"⟩
abbrev cX7_show : ByteArray := prog_9_method_12_code
def yX7_show : MethodName := ⟨RX7, "show", "(III)I"⟩
abbrev cX7_found : ByteArray := prog_9_method_13_code
def yX7_found : MethodName := ⟨RX7, "found", "(II)I"⟩
abbrev cX7_classifier : ByteArray := prog_9_method_14_code
def yX7_classifier : MethodName := ⟨RX7, "classifier", "(I)I"⟩
abbrev cX7_kind : ByteArray := prog_9_method_15_code
def yX7_kind : MethodName := ⟨RX7, "kind", "(IIII)I"⟩
abbrev cX7_isWithin : ByteArray := prog_9_method_16_code
def yX7_isWithin : MethodName := ⟨RX7, "isWithin", "(I[I)Z"⟩
abbrev cX7_classBy : ByteArray := prog_9_method_17_code
def yX7_classBy : MethodName := ⟨RX7, "classBy", "([I)I"⟩
abbrev cX7_belongs : ByteArray := prog_9_method_18_code
def yX7_belongs : MethodName := ⟨RX7, "belongs", "(I)I"⟩
abbrev cX7_becomes : ByteArray := prog_9_method_19_code
def yX7_becomes : MethodName := ⟨RX7, "becomes", "(IIC)V"⟩
abbrev cX7_test : ByteArray := prog_9_method_20_code
def yX7_test : MethodName := ⟨RX7, "test", "(III)C"⟩
abbrev cX7_status : ByteArray := prog_9_method_21_code
def yX7_status : MethodName := ⟨RX7, "status", "(I)C"⟩
abbrev cX7_classOf : ByteArray := prog_9_method_22_code
def yX7_classOf : MethodName := ⟨RX7, "classOf", "(I)I"⟩
abbrev cX7_finds : ByteArray := prog_9_method_23_code
def yX7_finds : MethodName := ⟨RX7, "finds", "(I)V"⟩
abbrev cX7_watch : ByteArray := prog_9_method_24_code
def yX7_watch : MethodName := ⟨RX7, "watch", "(I)C"⟩
abbrev cX7_hasClass : ByteArray := prog_9_method_25_code
def yX7_hasClass : MethodName := ⟨RX7, "hasClass", "(I)Z"⟩
abbrev cX7_protest : ByteArray := prog_9_method_26_code
def yX7_protest : MethodName := ⟨RX7, "protest", "(II)Z"⟩
abbrev cX7_money : ByteArray := prog_9_method_27_code
def yX7_money : MethodName := ⟨RX7, "money", "(I)I"⟩
abbrev cX7_border : ByteArray := prog_9_method_28_code
def yX7_border : MethodName := ⟨RX7, "border", "(III)I"⟩
abbrev cX7_year : ByteArray := prog_9_method_29_code
def yX7_year : MethodName := ⟨RX7, "year", "()I"⟩
abbrev cX7_next : ByteArray := prog_9_method_30_code
def yX7_next : MethodName := ⟨RX7, "next", "()I"⟩
abbrev cX7_until : ByteArray := prog_9_method_31_code
def yX7_until : MethodName := ⟨RX7, "until", "(I)I"⟩
abbrev cX7_isNoEvent : ByteArray := prog_9_method_32_code
def yX7_isNoEvent : MethodName := ⟨RX7, "isNoEvent", "(I)Z"⟩
abbrev cX7_event : ByteArray := prog_9_method_33_code
def yX7_event : MethodName := ⟨RX7, "event", "(I)I"⟩
abbrev cX7_isFor : ByteArray := prog_9_method_34_code
def yX7_isFor : MethodName := ⟨RX7, "isFor", "(II)Z"⟩
abbrev cX7_factor : ByteArray := prog_9_method_35_code
def yX7_factor : MethodName := ⟨RX7, "factor", "(III)I"⟩
abbrev cX7_isNoPair : ByteArray := prog_9_method_36_code
def yX7_isNoPair : MethodName := ⟨RX7, "isNoPair", "(II)Z"⟩
abbrev cX7_enter : ByteArray := prog_9_method_37_code
def yX7_enter : MethodName := ⟨RX7, "enter", "(II)I"⟩
abbrev cX7_isStanding : ByteArray := prog_9_method_38_code
def yX7_isStanding : MethodName := ⟨RX7, "isStanding", "(II)Z"⟩
abbrev cX7_begin : ByteArray := prog_9_method_39_code
def yX7_begin : MethodName := ⟨RX7, "begin", "(I)I"⟩
abbrev cX7_result : ByteArray := prog_9_method_40_code
def yX7_result : MethodName := ⟨RX7, "result", "(IIII)I"⟩
abbrev cX7_isNoEntry : ByteArray := prog_9_method_41_code
def yX7_isNoEntry : MethodName := ⟨RX7, "isNoEntry", "(II)Z"⟩
abbrev cX7_fell : ByteArray := prog_9_method_42_code
def yX7_fell : MethodName := ⟨RX7, "fell", "(II)Z"⟩
abbrev cX7_time : ByteArray := prog_9_method_43_code
def yX7_time : MethodName := ⟨RX7, "time", "(II)I"⟩
abbrev cX7_inClass : ByteArray := prog_9_method_44_code
def yX7_inClass : MethodName := ⟨RX7, "inClass", "(II)I"⟩
abbrev cX7_results : ByteArray := prog_9_method_45_code
def yX7_results : MethodName := ⟨RX7, "results", "(I)I"⟩
abbrev cX7_close : ByteArray := prog_9_method_46_code
def yX7_close : MethodName := ⟨RX7, "close", "(I)I"⟩
abbrev cX7_aheadOf : ByteArray := prog_9_method_47_code
def yX7_aheadOf : MethodName := ⟨RX7, "aheadOf", "(IIZ)I"⟩
abbrev cX7_athleteAt : ByteArray := prog_9_method_48_code
def yX7_athleteAt : MethodName := ⟨RX7, "athleteAt", "(II)I"⟩
abbrev cX7_at : ByteArray := prog_9_method_49_code
def yX7_at : MethodName := ⟨RX7, "at", "(II)I"⟩
abbrev cX7_place : ByteArray := prog_9_method_50_code
def yX7_place : MethodName := ⟨RX7, "place", "(II)I"⟩
abbrev cX7_slot : ByteArray := prog_9_method_51_code
def yX7_slot : MethodName := ⟨RX7, "slot", "(III)I"⟩
abbrev cX7_record : ByteArray := prog_9_method_52_code
def yX7_record : MethodName := ⟨RX7, "record", "(I)I"⟩
abbrev cX7_pointsOf : ByteArray := prog_9_method_53_code
def yX7_pointsOf : MethodName := ⟨RX7, "pointsOf", "(I)I"⟩
abbrev cX7_floorOf : ByteArray := prog_9_method_54_code
def yX7_floorOf : MethodName := ⟨RX7, "floorOf", "(I)I"⟩
abbrev cX7_isTooMuch : ByteArray := prog_9_method_55_code
def yX7_isTooMuch : MethodName := ⟨RX7, "isTooMuch", "(I)Z"⟩
abbrev cX7_puts : ByteArray := prog_9_method_56_code
def yX7_puts : MethodName := ⟨RX7, "puts", "(II)I"⟩
abbrev cX7_floor : ByteArray := prog_9_method_57_code
def yX7_floor : MethodName := ⟨RX7, "floor", "(II)I"⟩
abbrev cX7_swap : ByteArray := prog_9_method_58_code
def yX7_swap : MethodName := ⟨RX7, "swap", "(III)I"⟩
abbrev cX7_onFloor : ByteArray := prog_9_method_59_code
def yX7_onFloor : MethodName := ⟨RX7, "onFloor", "(I)I"⟩
abbrev cX7_points : ByteArray := prog_9_method_60_code
def yX7_points : MethodName := ⟨RX7, "points", "(I)I"⟩
abbrev cX7_checksum : ByteArray := prog_9_method_61_code
def yX7_checksum : MethodName := ⟨RX7, "checksum", "()J"⟩
abbrev cX7_fallenShare : ByteArray := prog_9_method_62_code
def yX7_fallenShare : MethodName := ⟨RX7, "fallenShare", "()F"⟩
abbrev cX7_meanLack : ByteArray := prog_9_method_63_code
def yX7_meanLack : MethodName := ⟨RX7, "meanLack", "(I)D"⟩
abbrev cX7_isSound : ByteArray := prog_9_method_64_code
def yX7_isSound : MethodName := ⟨RX7, "isSound", "()Z"⟩
def RJx145de : String := "java/io/Serializable"
def TJx145de : u_T := fun k => match k with
  | _ => ("", "", "", false)
def tyJx145de : Nat → FieldType := fun k => match k with
  | _ => .int
abbrev wsJx145de0 : List Cond := u_ws RJx145de TJx145de 0
theorem nmJx145de : ∀ a, a < 0 → ∀ b, b < 0 → a ≠ b → (TJx145de a).2.1 ≠ (TJx145de b).2.1 := by decide +kernel
theorem tyJx145de_ok : ∀ k, k < 0 → parseFieldDescriptor (TJx145de k).2.2.1 = some (tyJx145de k) := by decide +kernel
def RJx8e188 : String := "java/lang/Cloneable"
def TJx8e188 : u_T := fun k => match k with
  | _ => ("", "", "", false)
def tyJx8e188 : Nat → FieldType := fun k => match k with
  | _ => .int
abbrev wsJx8e1880 : List Cond := u_ws RJx8e188 TJx8e188 0
theorem nmJx8e188 : ∀ a, a < 0 → ∀ b, b < 0 → a ≠ b → (TJx8e188 a).2.1 ≠ (TJx8e188 b).2.1 := by decide +kernel
theorem tyJx8e188_ok : ∀ k, k < 0 → parseFieldDescriptor (TJx8e188 k).2.2.1 = some (tyJx8e188 k) := by decide +kernel
def RJ6 : String := "java/lang/Integer"
def TJ6 : u_T := fun k => match k with
  | _ => ("", "", "", false)
def tyJ6 : Nat → FieldType := fun k => match k with
  | _ => .int
abbrev wsJ60 : List Cond := u_ws RJ6 TJ6 0
theorem nmJ6 : ∀ a, a < 0 → ∀ b, b < 0 → a ≠ b → (TJ6 a).2.1 ≠ (TJ6 b).2.1 := by decide +kernel
theorem tyJ6_ok : ∀ k, k < 0 → parseFieldDescriptor (TJ6 k).2.2.1 = some (tyJ6 k) := by decide +kernel
abbrev cJ6_bitCount_0f7a4 : ByteArray := prog_16_method_49_code
def yJ6_bitCount_0f7a4 : MethodName := ⟨RJ6, "bitCount", "(I)I"⟩
def RJxab1ab : String := "java/lang/Iterable"
def TJxab1ab : u_T := fun k => match k with
  | _ => ("", "", "", false)
def tyJxab1ab : Nat → FieldType := fun k => match k with
  | _ => .int
abbrev wsJxab1ab0 : List Cond := u_ws RJxab1ab TJxab1ab 0
theorem nmJxab1ab : ∀ a, a < 0 → ∀ b, b < 0 → a ≠ b → (TJxab1ab a).2.1 ≠ (TJxab1ab b).2.1 := by decide +kernel
theorem tyJxab1ab_ok : ∀ k, k < 0 → parseFieldDescriptor (TJxab1ab k).2.2.1 = some (tyJxab1ab k) := by decide +kernel
def RJ9 : String := "java/lang/Math"
def TJ9 : u_T := fun k => match k with
  | _ => ("", "", "", false)
def tyJ9 : Nat → FieldType := fun k => match k with
  | _ => .int
abbrev wsJ90 : List Cond := u_ws RJ9 TJ9 0
theorem nmJ9 : ∀ a, a < 0 → ∀ b, b < 0 → a ≠ b → (TJ9 a).2.1 ≠ (TJ9 b).2.1 := by decide +kernel
theorem tyJ9_ok : ∀ k, k < 0 → parseFieldDescriptor (TJ9 k).2.2.1 = some (tyJ9 k) := by decide +kernel
abbrev cJ9_max_7cf53 : ByteArray := prog_18_method_65_code
def yJ9_max_7cf53 : MethodName := ⟨RJ9, "max", "(II)I"⟩
abbrev cJ9_min_7cf53 : ByteArray := prog_18_method_69_code
def yJ9_min_7cf53 : MethodName := ⟨RJ9, "min", "(II)I"⟩
def RJ0 : String := "java/lang/String"
def TJ0 : u_T := fun k => match k with
  | _ => ("", "", "", false)
def tyJ0 : Nat → FieldType := fun k => match k with
  | _ => .int
abbrev wsJ00 : List Cond := u_ws RJ0 TJ0 0
theorem nmJ0 : ∀ a, a < 0 → ∀ b, b < 0 → a ≠ b → (TJ0 a).2.1 ≠ (TJ0 b).2.1 := by decide +kernel
theorem tyJ0_ok : ∀ k, k < 0 → parseFieldDescriptor (TJ0 k).2.2.1 = some (tyJ0 k) := by decide +kernel
def RJ10 : String := "java/lang/System"
def TJ10 : u_T := fun k => match k with
  | _ => ("", "", "", false)
def tyJ10 : Nat → FieldType := fun k => match k with
  | _ => .int
abbrev wsJ100 : List Cond := u_ws RJ10 TJ10 0
theorem nmJ10 : ∀ a, a < 0 → ∀ b, b < 0 → a ≠ b → (TJ10 a).2.1 ≠ (TJ10 b).2.1 := by decide +kernel
theorem tyJ10_ok : ∀ k, k < 0 → parseFieldDescriptor (TJ10 k).2.2.1 = some (tyJ10 k) := by decide +kernel
def RJxa1e45 : String := "java/util/AbstractCollection"
def TJxa1e45 : u_T := fun k => match k with
  | _ => ("", "", "", false)
def tyJxa1e45 : Nat → FieldType := fun k => match k with
  | _ => .int
abbrev wsJxa1e450 : List Cond := u_ws RJxa1e45 TJxa1e45 0
theorem nmJxa1e45 : ∀ a, a < 0 → ∀ b, b < 0 → a ≠ b → (TJxa1e45 a).2.1 ≠ (TJxa1e45 b).2.1 := by decide +kernel
theorem tyJxa1e45_ok : ∀ k, k < 0 → parseFieldDescriptor (TJxa1e45 k).2.2.1 = some (tyJxa1e45 k) := by decide +kernel
abbrev cJxa1e45_init_da8c8 : ByteArray := prog_24_method_1_code
def yJxa1e45_init_da8c8 : MethodName := ⟨RJxa1e45, "<init>", "()V"⟩
def RJxc12de : String := "java/util/AbstractList"
def TJxc12de : u_T := fun k => match k with
  | _ => ("", "", "", false)
def tyJxc12de : Nat → FieldType := fun k => match k with
  | _ => .int
abbrev wsJxc12de0 : List Cond := u_ws RJxc12de TJxc12de 0
theorem nmJxc12de : ∀ a, a < 0 → ∀ b, b < 0 → a ≠ b → (TJxc12de a).2.1 ≠ (TJxc12de b).2.1 := by decide +kernel
theorem tyJxc12de_ok : ∀ k, k < 0 → parseFieldDescriptor (TJxc12de k).2.2.1 = some (tyJxc12de k) := by decide +kernel
abbrev cJxc12de_init_da8c8 : ByteArray := prog_25_method_1_code
def yJxc12de_init_da8c8 : MethodName := ⟨RJxc12de, "<init>", "()V"⟩
def RJx4a65c : String := "java/util/ArrayList"
def TJx4a65c : u_T := fun k => match k with
  | 0 => ("java/util/AbstractList", "modCount", "I", false)
  | 1 => ("java/util/ArrayList", "elementData", "[Ljava/lang/Object;", false)
  | _ => ("java/util/ArrayList", "size", "I", false)
def tyJx4a65c : Nat → FieldType := fun k => match k with
  | 0 => .int
  | 1 => .array (.object "java/lang/Object")
  | _ => .int
abbrev wsJx4a65c0 : List Cond := u_ws RJx4a65c TJx4a65c 3
theorem nmJx4a65c : ∀ a, a < 3 → ∀ b, b < 3 → a ≠ b → (TJx4a65c a).2.1 ≠ (TJx4a65c b).2.1 := by decide +kernel
theorem tyJx4a65c_ok : ∀ k, k < 3 → parseFieldDescriptor (TJx4a65c k).2.2.1 = some (tyJx4a65c k) := by decide +kernel
abbrev cJx4a65c_init_da8c8 : ByteArray := prog_26_method_2_code
def yJx4a65c_init_da8c8 : MethodName := ⟨RJx4a65c, "<init>", "()V"⟩
abbrev cJx4a65c_grow_92f84 : ByteArray := prog_26_method_6_code
def yJx4a65c_grow_92f84 : MethodName := ⟨RJx4a65c, "grow", "(I)[Ljava/lang/Object;"⟩
abbrev cJx4a65c_grow_d5877 : ByteArray := prog_26_method_7_code
def yJx4a65c_grow_d5877 : MethodName := ⟨RJx4a65c, "grow", "()[Ljava/lang/Object;"⟩
abbrev cJx4a65c_size_8abf5 : ByteArray := prog_26_method_8_code
def yJx4a65c_size_8abf5 : MethodName := ⟨RJx4a65c, "size", "()I"⟩
abbrev cJx4a65c_elementData_915e3 : ByteArray := prog_26_method_18_code
def yJx4a65c_elementData_915e3 : MethodName := ⟨RJx4a65c, "elementData", "(I)Ljava/lang/Object;"⟩
abbrev cJx4a65c_get_915e3 : ByteArray := prog_26_method_20_code
def yJx4a65c_get_915e3 : MethodName := ⟨RJx4a65c, "get", "(I)Ljava/lang/Object;"⟩
abbrev cJx4a65c_add_72be8 : ByteArray := prog_26_method_24_code
def yJx4a65c_add_72be8 : MethodName := ⟨RJx4a65c, "add", "(Ljava/lang/Object;[Ljava/lang/Object;I)V"⟩
abbrev cJx4a65c_add_9ea2d : ByteArray := prog_26_method_25_code
def yJx4a65c_add_9ea2d : MethodName := ⟨RJx4a65c, "add", "(Ljava/lang/Object;)Z"⟩
def RJ7 : String := "java/util/Arrays"
def TJ7 : u_T := fun k => match k with
  | _ => ("", "", "", false)
def tyJ7 : Nat → FieldType := fun k => match k with
  | _ => .int
abbrev wsJ70 : List Cond := u_ws RJ7 TJ7 0
theorem nmJ7 : ∀ a, a < 0 → ∀ b, b < 0 → a ≠ b → (TJ7 a).2.1 ≠ (TJ7 b).2.1 := by decide +kernel
theorem tyJ7_ok : ∀ k, k < 0 → parseFieldDescriptor (TJ7 k).2.2.1 = some (tyJ7 k) := by decide +kernel
abbrev cJ7_copyOf_1904c : ByteArray := prog_27_method_119_code
def yJ7_copyOf_1904c : MethodName := ⟨RJ7, "copyOf", "([Ljava/lang/Object;I)[Ljava/lang/Object;"⟩
abbrev cJ7_copyOf_6403c : ByteArray := prog_27_method_120_code
def yJ7_copyOf_6403c : MethodName := ⟨RJ7, "copyOf", "([Ljava/lang/Object;ILjava/lang/Class;)[Ljava/lang/Object;"⟩
def RJx5ef63 : String := "java/util/Collection"
def TJx5ef63 : u_T := fun k => match k with
  | _ => ("", "", "", false)
def tyJx5ef63 : Nat → FieldType := fun k => match k with
  | _ => .int
abbrev wsJx5ef630 : List Cond := u_ws RJx5ef63 TJx5ef63 0
theorem nmJx5ef63 : ∀ a, a < 0 → ∀ b, b < 0 → a ≠ b → (TJx5ef63 a).2.1 ≠ (TJx5ef63 b).2.1 := by decide +kernel
theorem tyJx5ef63_ok : ∀ k, k < 0 → parseFieldDescriptor (TJx5ef63 k).2.2.1 = some (tyJx5ef63 k) := by decide +kernel
def RJxbd725 : String := "java/util/List"
def TJxbd725 : u_T := fun k => match k with
  | _ => ("", "", "", false)
def tyJxbd725 : Nat → FieldType := fun k => match k with
  | _ => .int
abbrev wsJxbd7250 : List Cond := u_ws RJxbd725 TJxbd725 0
theorem nmJxbd725 : ∀ a, a < 0 → ∀ b, b < 0 → a ≠ b → (TJxbd725 a).2.1 ≠ (TJxbd725 b).2.1 := by decide +kernel
theorem tyJxbd725_ok : ∀ k, k < 0 → parseFieldDescriptor (TJxbd725 k).2.2.1 = some (tyJxbd725 k) := by decide +kernel
def RJ15 : String := "java/util/Objects"
def TJ15 : u_T := fun k => match k with
  | _ => ("", "", "", false)
def tyJ15 : Nat → FieldType := fun k => match k with
  | _ => .int
abbrev wsJ150 : List Cond := u_ws RJ15 TJ15 0
theorem nmJ15 : ∀ a, a < 0 → ∀ b, b < 0 → a ≠ b → (TJ15 a).2.1 ≠ (TJ15 b).2.1 := by decide +kernel
theorem tyJ15_ok : ∀ k, k < 0 → parseFieldDescriptor (TJ15 k).2.2.1 = some (tyJ15 k) := by decide +kernel
abbrev cJ15_checkIndex_7cf53 : ByteArray := prog_31_method_17_code
def yJ15_checkIndex_7cf53 : MethodName := ⟨RJ15, "checkIndex", "(II)I"⟩
def RJxf0a74 : String := "java/util/RandomAccess"
def TJxf0a74 : u_T := fun k => match k with
  | _ => ("", "", "", false)
def tyJxf0a74 : Nat → FieldType := fun k => match k with
  | _ => .int
abbrev wsJxf0a740 : List Cond := u_ws RJxf0a74 TJxf0a74 0
theorem nmJxf0a74 : ∀ a, a < 0 → ∀ b, b < 0 → a ≠ b → (TJxf0a74 a).2.1 ≠ (TJxf0a74 b).2.1 := by decide +kernel
theorem tyJxf0a74_ok : ∀ k, k < 0 → parseFieldDescriptor (TJxf0a74 k).2.2.1 = some (tyJxf0a74 k) := by decide +kernel
def RJxa66e6 : String := "java/util/SequencedCollection"
def TJxa66e6 : u_T := fun k => match k with
  | _ => ("", "", "", false)
def tyJxa66e6 : Nat → FieldType := fun k => match k with
  | _ => .int
abbrev wsJxa66e60 : List Cond := u_ws RJxa66e6 TJxa66e6 0
theorem nmJxa66e6 : ∀ a, a < 0 → ∀ b, b < 0 → a ≠ b → (TJxa66e6 a).2.1 ≠ (TJxa66e6 b).2.1 := by decide +kernel
theorem tyJxa66e6_ok : ∀ k, k < 0 → parseFieldDescriptor (TJxa66e6 k).2.2.1 = some (tyJxa66e6 k) := by decide +kernel
def RJ8 : String := "jdk/internal/util/ArraysSupport"
def TJ8 : u_T := fun k => match k with
  | _ => ("", "", "", false)
def tyJ8 : Nat → FieldType := fun k => match k with
  | _ => .int
abbrev wsJ80 : List Cond := u_ws RJ8 TJ8 0
theorem nmJ8 : ∀ a, a < 0 → ∀ b, b < 0 → a ≠ b → (TJ8 a).2.1 ≠ (TJ8 b).2.1 := by decide +kernel
theorem tyJ8_ok : ∀ k, k < 0 → parseFieldDescriptor (TJ8 k).2.2.1 = some (tyJ8 k) := by decide +kernel
abbrev cJ8_newLength_cabcc : ByteArray := prog_34_method_27_code
def yJ8_newLength_cabcc : MethodName := ⟨RJ8, "newLength", "(III)I"⟩
abbrev cJ8_hugeLength_7cf53 : ByteArray := prog_34_method_28_code
def yJ8_hugeLength_7cf53 : MethodName := ⟨RJ8, "hugeLength", "(II)I"⟩
def RJ3 : String := "jdk/internal/util/Preconditions"
def TJ3 : u_T := fun k => match k with
  | _ => ("", "", "", false)
def tyJ3 : Nat → FieldType := fun k => match k with
  | _ => .int
abbrev wsJ30 : List Cond := u_ws RJ3 TJ3 0
theorem nmJ3 : ∀ a, a < 0 → ∀ b, b < 0 → a ≠ b → (TJ3 a).2.1 ≠ (TJ3 b).2.1 := by decide +kernel
theorem tyJ3_ok : ∀ k, k < 0 → parseFieldDescriptor (TJ3 k).2.2.1 = some (tyJ3 k) := by decide +kernel
abbrev cJ3_checkIndex_8e157 : ByteArray := prog_35_method_11_code
def yJ3_checkIndex_8e157 : MethodName := ⟨RJ3, "checkIndex", "(IILjava/util/function/BiFunction;)I"⟩
def RL : String := "EvenstartGamesLaw"
abbrev cL_athlete : ByteArray := method_3_code
def yL_athlete : MethodName := ⟨RL, "athlete", "(LEvenstartGames;I[J)I"⟩
abbrev cL_body : ByteArray := method_4_code
def yL_body : MethodName := ⟨RL, "body", "(LEvenstartGames;III[J)I"⟩
abbrev cL_show : ByteArray := method_5_code
def yL_show : MethodName := ⟨RL, "show", "(LEvenstartGames;III[J)I"⟩
abbrev cL_found : ByteArray := method_6_code
def yL_found : MethodName := ⟨RL, "found", "(LEvenstartGames;II[J)I"⟩
abbrev cL_classifier : ByteArray := method_7_code
def yL_classifier : MethodName := ⟨RL, "classifier", "(LEvenstartGames;I[J)I"⟩
abbrev cL_kind : ByteArray := method_8_code
def yL_kind : MethodName := ⟨RL, "kind", "(LEvenstartGames;IIII[J)I"⟩
abbrev cL_belongs : ByteArray := method_9_code
def yL_belongs : MethodName := ⟨RL, "belongs", "(LEvenstartGames;I[J)I"⟩
abbrev cL_test : ByteArray := method_10_code
def yL_test : MethodName := ⟨RL, "test", "(LEvenstartGames;III[J)I"⟩
abbrev cL_status : ByteArray := method_11_code
def yL_status : MethodName := ⟨RL, "status", "(LEvenstartGames;I[J)I"⟩
abbrev cL_classOf : ByteArray := method_12_code
def yL_classOf : MethodName := ⟨RL, "classOf", "(LEvenstartGames;I[J)I"⟩
abbrev cL_watch : ByteArray := method_13_code
def yL_watch : MethodName := ⟨RL, "watch", "(LEvenstartGames;I[J)I"⟩
abbrev cL_protest : ByteArray := method_14_code
def yL_protest : MethodName := ⟨RL, "protest", "(LEvenstartGames;II[J)I"⟩
abbrev cL_money : ByteArray := method_15_code
def yL_money : MethodName := ⟨RL, "money", "(LEvenstartGames;I[J)I"⟩
abbrev cL_border : ByteArray := method_16_code
def yL_border : MethodName := ⟨RL, "border", "(LEvenstartGames;III[J)I"⟩
abbrev cL_next : ByteArray := method_17_code
def yL_next : MethodName := ⟨RL, "next", "(LEvenstartGames;[J)I"⟩
abbrev cL_until : ByteArray := method_18_code
def yL_until : MethodName := ⟨RL, "until", "(LEvenstartGames;I[J)I"⟩
abbrev cL_event : ByteArray := method_19_code
def yL_event : MethodName := ⟨RL, "event", "(LEvenstartGames;I[J)I"⟩
abbrev cL_factor : ByteArray := method_20_code
def yL_factor : MethodName := ⟨RL, "factor", "(LEvenstartGames;III[J)I"⟩
abbrev cL_enter : ByteArray := method_21_code
def yL_enter : MethodName := ⟨RL, "enter", "(LEvenstartGames;II[J)I"⟩
abbrev cL_begin : ByteArray := method_22_code
def yL_begin : MethodName := ⟨RL, "begin", "(LEvenstartGames;I[J)I"⟩
abbrev cL_result : ByteArray := method_23_code
def yL_result : MethodName := ⟨RL, "result", "(LEvenstartGames;IIII[J)I"⟩
abbrev cL_fell : ByteArray := method_24_code
def yL_fell : MethodName := ⟨RL, "fell", "(LEvenstartGames;II[J)I"⟩
abbrev cL_time : ByteArray := method_25_code
def yL_time : MethodName := ⟨RL, "time", "(LEvenstartGames;II[J)I"⟩
abbrev cL_inClass : ByteArray := method_26_code
def yL_inClass : MethodName := ⟨RL, "inClass", "(LEvenstartGames;II[J)I"⟩
abbrev cL_close : ByteArray := method_27_code
def yL_close : MethodName := ⟨RL, "close", "(LEvenstartGames;I[J)I"⟩
abbrev cL_at : ByteArray := method_28_code
def yL_at : MethodName := ⟨RL, "at", "(LEvenstartGames;II[J)I"⟩
abbrev cL_place : ByteArray := method_29_code
def yL_place : MethodName := ⟨RL, "place", "(LEvenstartGames;II[J)I"⟩
abbrev cL_slot : ByteArray := method_30_code
def yL_slot : MethodName := ⟨RL, "slot", "(LEvenstartGames;III[J)I"⟩
abbrev cL_record : ByteArray := method_31_code
def yL_record : MethodName := ⟨RL, "record", "(LEvenstartGames;I[J)I"⟩
abbrev cL_floor : ByteArray := method_32_code
def yL_floor : MethodName := ⟨RL, "floor", "(LEvenstartGames;II[J)I"⟩
abbrev cL_swap : ByteArray := method_33_code
def yL_swap : MethodName := ⟨RL, "swap", "(LEvenstartGames;III[J)I"⟩
abbrev cL_onFloor : ByteArray := method_34_code
def yL_onFloor : MethodName := ⟨RL, "onFloor", "(LEvenstartGames;I[J)I"⟩
abbrev cL_points : ByteArray := method_35_code
def yL_points : MethodName := ⟨RL, "points", "(LEvenstartGames;I[J)I"⟩
abbrev cL_fallenShare : ByteArray := method_36_code
def yL_fallenShare : MethodName := ⟨RL, "fallenShare", "(LEvenstartGames;[D)I"⟩
abbrev cL_meanLack : ByteArray := method_37_code
def yL_meanLack : MethodName := ⟨RL, "meanLack", "(LEvenstartGames;I[D)I"⟩
abbrev cL_law : ByteArray := code
def yL_law : MethodName := ⟨RL, "law", "([I)Z"⟩
abbrev vwCl : List vw_C := [(RJx4a65c, TJx4a65c, 3), (RX0, TX0, 10), (RX1, TX1, 1), (RX2, TX2, 4), (RX3, TX3, 5), (RX4, TX4, 6), (RX5, TX5, 1), (RX6, TX6, 6), (RX7, TX7, 26)]
