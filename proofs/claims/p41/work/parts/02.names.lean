/-! ===== BEGIN printed: names, fields, word lists, decode rows ===== -/
def RX0 : String := "EvenstartGames$Athlete"
def TX0 : u_T := fun k => match k with
  | 0 => ("EvenstartGames$Athlete", "number", "I", true)
  | 1 => ("EvenstartGames$Athlete", "land", "I", true)
  | 2 => ("EvenstartGames$Athlete", "is", "LEvenstartGames$Measures;", true)
  | 3 => ("EvenstartGames$Athlete", "told", "LEvenstartGames$Measures;", true)
  | 4 => ("EvenstartGames$Athlete", "found", "LEvenstartGames$Measures;", true)
  | 5 => ("EvenstartGames$Athlete", "wasFound", "Z", false)
  | 6 => ("EvenstartGames$Athlete", "status", "C", false)
  | 7 => ("EvenstartGames$Athlete", "kind", "LEvenstartGames$Kind;", false)
  | 8 => ("EvenstartGames$Athlete", "until", "I", false)
  | _ => ("EvenstartGames$Athlete", "standsOnFloor", "Z", false)
def tyX0 : Nat → FieldType := fun k => match k with
  | 0 => .int
  | 1 => .int
  | 2 => .object "EvenstartGames$Measures"
  | 3 => .object "EvenstartGames$Measures"
  | 4 => .object "EvenstartGames$Measures"
  | 5 => .boolean
  | 6 => .char
  | 7 => .object "EvenstartGames$Kind"
  | 8 => .int
  | _ => .boolean
abbrev wsX00 : List Cond := u_ws RX0 TX0 10
theorem nmX0 : ∀ a, a < 10 → ∀ b, b < 10 → a ≠ b → (TX0 a).2.1 ≠ (TX0 b).2.1 := by decide +kernel
theorem tyX0_ok : ∀ k, k < 10 → parseFieldDescriptor (TX0 k).2.2.1 = some (tyX0 k) := by decide +kernel
abbrev cX0_init : ByteArray := prog_2_method_1_code
def yX0_init : MethodName := ⟨RX0, "<init>", "(II)V"⟩
abbrev cX0_shownOf : ByteArray := prog_2_method_2_code
def yX0_shownOf : MethodName := ⟨RX0, "shownOf", "(I)I"⟩
abbrev cX0_findWhatIsShown : ByteArray := prog_2_method_3_code
def yX0_findWhatIsShown : MethodName := ⟨RX0, "findWhatIsShown", "()V"⟩
abbrev cX0_findWhatIs : ByteArray := prog_2_method_4_code
def yX0_findWhatIs : MethodName := ⟨RX0, "findWhatIs", "()V"⟩
abbrev cX0_mayCompete : ByteArray := prog_2_method_5_code
def yX0_mayCompete : MethodName := ⟨RX0, "mayCompete", "()Z"⟩
abbrev cX0_waits : ByteArray := prog_2_method_6_code
def yX0_waits : MethodName := ⟨RX0, "waits", "()Z"⟩
abbrev cX0_isInOrder : ByteArray := prog_2_method_8_code
def yX0_isInOrder : MethodName := ⟨RX0, "isInOrder", "()Z"⟩
def RX1 : String := "EvenstartGames$Classifier"
def TX1 : u_T := fun k => match k with
  | _ => ("EvenstartGames$Classifier", "land", "I", true)
def tyX1 : Nat → FieldType := fun k => match k with
  | _ => .int
abbrev wsX10 : List Cond := u_ws RX1 TX1 1
theorem nmX1 : ∀ a, a < 1 → ∀ b, b < 1 → a ≠ b → (TX1 a).2.1 ≠ (TX1 b).2.1 := by decide +kernel
theorem tyX1_ok : ∀ k, k < 1 → parseFieldDescriptor (TX1 k).2.2.1 = some (tyX1 k) := by decide +kernel
abbrev cX1_init : ByteArray := prog_3_method_1_code
def yX1_init : MethodName := ⟨RX1, "<init>", "(I)V"⟩
def RX2 : String := "EvenstartGames$Entry"
def TX2 : u_T := fun k => match k with
  | _ => ("", "", "", false)
def tyX2 : Nat → FieldType := fun k => match k with
  | _ => .int
abbrev wsX20 : List Cond := u_ws RX2 TX2 0
theorem nmX2 : ∀ a, a < 0 → ∀ b, b < 0 → a ≠ b → (TX2 a).2.1 ≠ (TX2 b).2.1 := by decide +kernel
theorem tyX2_ok : ∀ k, k < 0 → parseFieldDescriptor (TX2 k).2.2.1 = some (tyX2 k) := by decide +kernel
abbrev cX2_hasTime : ByteArray := prog_4_method_2_code
def yX2_hasTime : MethodName := ⟨RX2, "hasTime", "()Z"⟩
abbrev cX2_fall : ByteArray := prog_4_method_3_code
def yX2_fall : MethodName := ⟨RX2, "fall", "()V"⟩
def RX3 : String := "EvenstartGames$Event"
def TX3 : u_T := fun k => match k with
  | _ => ("", "", "", false)
def tyX3 : Nat → FieldType := fun k => match k with
  | _ => .int
abbrev wsX30 : List Cond := u_ws RX3 TX3 0
theorem nmX3 : ∀ a, a < 0 → ∀ b, b < 0 → a ≠ b → (TX3 a).2.1 ≠ (TX3 b).2.1 := by decide +kernel
theorem tyX3_ok : ∀ k, k < 0 → parseFieldDescriptor (TX3 k).2.2.1 = some (tyX3 k) := by decide +kernel
abbrev cX3_entryOf : ByteArray := prog_5_method_5_code
def yX3_entryOf : MethodName := ⟨RX3, "entryOf", "(LEvenstartGames$Athlete;)LEvenstartGames$Entry;"⟩
abbrev cX3_isInOrder : ByteArray := prog_5_method_17_code
def yX3_isInOrder : MethodName := ⟨RX3, "isInOrder", "()Z"⟩
def RX4 : String := "EvenstartGames$Kind"
def TX4 : u_T := fun k => match k with
  | 0 => ("EvenstartGames$Kind", "number", "I", true)
  | 1 => ("EvenstartGames$Kind", "key", "I", true)
  | 2 => ("EvenstartGames$Kind", "leastLack", "I", true)
  | 3 => ("EvenstartGames$Kind", "leastSum", "I", false)
  | 4 => ("EvenstartGames$Kind", "greatestSum", "I", false)
  | _ => ("EvenstartGames$Kind", "leastTime", "I", false)
def tyX4 : Nat → FieldType := fun k => match k with
  | 0 => .int
  | 1 => .int
  | 2 => .int
  | 3 => .int
  | 4 => .int
  | _ => .int
abbrev wsX40 : List Cond := u_ws RX4 TX4 6
theorem nmX4 : ∀ a, a < 6 → ∀ b, b < 6 → a ≠ b → (TX4 a).2.1 ≠ (TX4 b).2.1 := by decide +kernel
theorem tyX4_ok : ∀ k, k < 6 → parseFieldDescriptor (TX4 k).2.2.1 = some (tyX4 k) := by decide +kernel
abbrev cX4_init : ByteArray := prog_6_method_1_code
def yX4_init : MethodName := ⟨RX4, "<init>", "(III)V"⟩
abbrev cX4_drawBounds : ByteArray := prog_6_method_2_code
def yX4_drawBounds : MethodName := ⟨RX4, "drawBounds", "(II)V"⟩
abbrev cX4_holds : ByteArray := prog_6_method_3_code
def yX4_holds : MethodName := ⟨RX4, "holds", "(LEvenstartGames$Measures;)Z"⟩
def RX5 : String := "EvenstartGames$Measures"
def TX5 : u_T := fun k => match k with
  | _ => ("EvenstartGames$Measures", "values", "[I", true)
def tyX5 : Nat → FieldType := fun k => match k with
  | _ => .array .int
abbrev wsX50 : List Cond := u_ws RX5 TX5 1
theorem nmX5 : ∀ a, a < 1 → ∀ b, b < 1 → a ≠ b → (TX5 a).2.1 ≠ (TX5 b).2.1 := by decide +kernel
theorem tyX5_ok : ∀ k, k < 1 → parseFieldDescriptor (TX5 k).2.2.1 = some (tyX5 k) := by decide +kernel
abbrev cX5_init : ByteArray := prog_7_method_1_code
def yX5_init : MethodName := ⟨RX5, "<init>", "(I)V"⟩
abbrev cX5_of : ByteArray := prog_7_method_2_code
def yX5_of : MethodName := ⟨RX5, "of", "(I)I"⟩
abbrev cX5_tell : ByteArray := prog_7_method_3_code
def yX5_tell : MethodName := ⟨RX5, "tell", "(II)V"⟩
abbrev cX5_lackOf : ByteArray := prog_7_method_4_code
def yX5_lackOf : MethodName := ⟨RX5, "lackOf", "(I)I"⟩
abbrev cX5_sumOfLacks : ByteArray := prog_7_method_5_code
def yX5_sumOfLacks : MethodName := ⟨RX5, "sumOfLacks", "()I"⟩
abbrev cX5_isFarAbove : ByteArray := prog_7_method_6_code
def yX5_isFarAbove : MethodName := ⟨RX5, "isFarAbove", "(LEvenstartGames$Measures;)Z"⟩
def RX6 : String := "EvenstartGames"
def TX6 : u_T := fun k => match k with
  | 0 => ("EvenstartGames", "athletes", "Ljava/util/ArrayList;", true)
  | 1 => ("EvenstartGames", "classifiers", "Ljava/util/ArrayList;", true)
  | 2 => ("EvenstartGames", "kinds", "Ljava/util/ArrayList;", true)
  | 3 => ("EvenstartGames", "events", "Ljava/util/ArrayList;", true)
  | 4 => ("EvenstartGames", "moneyOfLands", "[I", true)
  | _ => ("EvenstartGames", "presentYear", "I", false)
def tyX6 : Nat → FieldType := fun k => match k with
  | 0 => .object "java/util/ArrayList"
  | 1 => .object "java/util/ArrayList"
  | 2 => .object "java/util/ArrayList"
  | 3 => .object "java/util/ArrayList"
  | 4 => .array .int
  | _ => .int
abbrev wsX60 : List Cond := u_ws RX6 TX6 6
theorem nmX6 : ∀ a, a < 6 → ∀ b, b < 6 → a ≠ b → (TX6 a).2.1 ≠ (TX6 b).2.1 := by decide +kernel
theorem tyX6_ok : ∀ k, k < 6 → parseFieldDescriptor (TX6 k).2.2.1 = some (tyX6 k) := by decide +kernel
abbrev cX6_init : ByteArray := prog_1_method_1_code
def yX6_init : MethodName := ⟨RX6, "<init>", "()V"⟩
abbrev cX6_athlete : ByteArray := prog_1_method_2_code
def yX6_athlete : MethodName := ⟨RX6, "athlete", "(I)I"⟩
abbrev cX6_body : ByteArray := prog_1_method_3_code
def yX6_body : MethodName := ⟨RX6, "body", "(III)I"⟩
abbrev cX6_show : ByteArray := prog_1_method_4_code
def yX6_show : MethodName := ⟨RX6, "show", "(III)I"⟩
abbrev cX6_found : ByteArray := prog_1_method_5_code
def yX6_found : MethodName := ⟨RX6, "found", "(II)I"⟩
abbrev cX6_classifier : ByteArray := prog_1_method_6_code
def yX6_classifier : MethodName := ⟨RX6, "classifier", "(I)I"⟩
abbrev cX6_kind : ByteArray := prog_1_method_7_code
def yX6_kind : MethodName := ⟨RX6, "kind", "(IIII)I"⟩
abbrev cX6_belongs : ByteArray := prog_1_method_8_code
def yX6_belongs : MethodName := ⟨RX6, "belongs", "(I)I"⟩
abbrev cX6_test : ByteArray := prog_1_method_9_code
def yX6_test : MethodName := ⟨RX6, "test", "(III)C"⟩
abbrev cX6_status : ByteArray := prog_1_method_10_code
def yX6_status : MethodName := ⟨RX6, "status", "(I)C"⟩
abbrev cX6_classOf : ByteArray := prog_1_method_11_code
def yX6_classOf : MethodName := ⟨RX6, "classOf", "(I)I"⟩
abbrev cX6_watch : ByteArray := prog_1_method_12_code
def yX6_watch : MethodName := ⟨RX6, "watch", "(I)C"⟩
abbrev cX6_protest : ByteArray := prog_1_method_13_code
def yX6_protest : MethodName := ⟨RX6, "protest", "(II)Z"⟩
abbrev cX6_money : ByteArray := prog_1_method_14_code
def yX6_money : MethodName := ⟨RX6, "money", "(I)I"⟩
abbrev cX6_year : ByteArray := prog_1_method_16_code
def yX6_year : MethodName := ⟨RX6, "year", "()I"⟩
abbrev cX6_next : ByteArray := prog_1_method_17_code
def yX6_next : MethodName := ⟨RX6, "next", "()I"⟩
abbrev cX6_until : ByteArray := prog_1_method_18_code
def yX6_until : MethodName := ⟨RX6, "until", "(I)I"⟩
abbrev cX6_meanLack : ByteArray := prog_1_method_38_code
def yX6_meanLack : MethodName := ⟨RX6, "meanLack", "(I)D"⟩
abbrev cX6_isSound : ByteArray := prog_1_method_39_code
def yX6_isSound : MethodName := ⟨RX6, "isSound", "()Z"⟩
abbrev cX6_needLand : ByteArray := prog_1_method_40_code
def yX6_needLand : MethodName := ⟨RX6, "needLand", "(I)V"⟩
abbrev cX6_needMeasure : ByteArray := prog_1_method_41_code
def yX6_needMeasure : MethodName := ⟨RX6, "needMeasure", "(I)V"⟩
abbrev cX6_needBounds : ByteArray := prog_1_method_42_code
def yX6_needBounds : MethodName := ⟨RX6, "needBounds", "(II)V"⟩
abbrev cX6_needAthlete : ByteArray := prog_1_method_43_code
def yX6_needAthlete : MethodName := ⟨RX6, "needAthlete", "(I)LEvenstartGames$Athlete;"⟩
abbrev cX6_needClassifier : ByteArray := prog_1_method_44_code
def yX6_needClassifier : MethodName := ⟨RX6, "needClassifier", "(I)LEvenstartGames$Classifier;"⟩
abbrev cX6_numberOf : ByteArray := prog_1_method_52_code
def yX6_numberOf : MethodName := ⟨RX6, "numberOf", "(LEvenstartGames$Kind;)I"⟩
abbrev cX6_kindAround : ByteArray := prog_1_method_53_code
def yX6_kindAround : MethodName := ⟨RX6, "kindAround", "(LEvenstartGames$Measures;)LEvenstartGames$Kind;"⟩
abbrev cX6_examine : ByteArray := prog_1_method_54_code
def yX6_examine : MethodName := ⟨RX6, "examine", "(LEvenstartGames$Athlete;)V"⟩
abbrev cX6_settleByFound : ByteArray := prog_1_method_55_code
def yX6_settleByFound : MethodName := ⟨RX6, "settleByFound", "(LEvenstartGames$Athlete;C)V"⟩
abbrev cX6_settle : ByteArray := prog_1_method_56_code
def yX6_settle : MethodName := ⟨RX6, "settle", "(LEvenstartGames$Athlete;LEvenstartGames$Kind;C)V"⟩
abbrev cX6_endWaiting : ByteArray := prog_1_method_57_code
def yX6_endWaiting : MethodName := ⟨RX6, "endWaiting", "(LEvenstartGames$Athlete;)V"⟩
abbrev cX6_dropOpenEntries : ByteArray := prog_1_method_58_code
def yX6_dropOpenEntries : MethodName := ⟨RX6, "dropOpenEntries", "(LEvenstartGames$Athlete;)V"⟩
abbrev cX6_hasResult : ByteArray := prog_1_method_59_code
def yX6_hasResult : MethodName := ⟨RX6, "hasResult", "(LEvenstartGames$Athlete;)Z"⟩
def RX7 : String := "EvenstartGamesModel"
def TX7 : u_T := fun k => match k with
  | _ => ("", "", "", false)
def tyX7 : Nat → FieldType := fun k => match k with
  | _ => .int
abbrev wsX70 : List Cond := u_ws RX7 TX7 0
theorem nmX7 : ∀ a, a < 0 → ∀ b, b < 0 → a ≠ b → (TX7 a).2.1 ≠ (TX7 b).2.1 := by decide +kernel
theorem tyX7_ok : ∀ k, k < 0 → parseFieldDescriptor (TX7 k).2.2.1 = some (tyX7 k) := by decide +kernel
def RJx145de : String := "java/io/Serializable"
def TJx145de : u_T := fun k => match k with
  | _ => ("", "", "", false)
def tyJx145de : Nat → FieldType := fun k => match k with
  | _ => .int
abbrev wsJx145de0 : List Cond := u_ws RJx145de TJx145de 0
theorem nmJx145de : ∀ a, a < 0 → ∀ b, b < 0 → a ≠ b → (TJx145de a).2.1 ≠ (TJx145de b).2.1 := by decide +kernel
theorem tyJx145de_ok : ∀ k, k < 0 → parseFieldDescriptor (TJx145de k).2.2.1 = some (tyJx145de k) := by decide +kernel
def RJx8e188 : String := "java/lang/Cloneable"
def TJx8e188 : u_T := fun k => match k with
  | _ => ("", "", "", false)
def tyJx8e188 : Nat → FieldType := fun k => match k with
  | _ => .int
abbrev wsJx8e1880 : List Cond := u_ws RJx8e188 TJx8e188 0
theorem nmJx8e188 : ∀ a, a < 0 → ∀ b, b < 0 → a ≠ b → (TJx8e188 a).2.1 ≠ (TJx8e188 b).2.1 := by decide +kernel
theorem tyJx8e188_ok : ∀ k, k < 0 → parseFieldDescriptor (TJx8e188 k).2.2.1 = some (tyJx8e188 k) := by decide +kernel
def RJxab1ab : String := "java/lang/Iterable"
def TJxab1ab : u_T := fun k => match k with
  | _ => ("", "", "", false)
def tyJxab1ab : Nat → FieldType := fun k => match k with
  | _ => .int
abbrev wsJxab1ab0 : List Cond := u_ws RJxab1ab TJxab1ab 0
theorem nmJxab1ab : ∀ a, a < 0 → ∀ b, b < 0 → a ≠ b → (TJxab1ab a).2.1 ≠ (TJxab1ab b).2.1 := by decide +kernel
theorem tyJxab1ab_ok : ∀ k, k < 0 → parseFieldDescriptor (TJxab1ab k).2.2.1 = some (tyJxab1ab k) := by decide +kernel
def RJ9 : String := "java/lang/Math"
def TJ9 : u_T := fun k => match k with
  | _ => ("", "", "", false)
def tyJ9 : Nat → FieldType := fun k => match k with
  | _ => .int
abbrev wsJ90 : List Cond := u_ws RJ9 TJ9 0
theorem nmJ9 : ∀ a, a < 0 → ∀ b, b < 0 → a ≠ b → (TJ9 a).2.1 ≠ (TJ9 b).2.1 := by decide +kernel
theorem tyJ9_ok : ∀ k, k < 0 → parseFieldDescriptor (TJ9 k).2.2.1 = some (tyJ9 k) := by decide +kernel
abbrev cJ9_max_7cf53 : ByteArray := prog_17_method_65_code
def yJ9_max_7cf53 : MethodName := ⟨RJ9, "max", "(II)I"⟩
abbrev cJ9_min_7cf53 : ByteArray := prog_17_method_69_code
def yJ9_min_7cf53 : MethodName := ⟨RJ9, "min", "(II)I"⟩
def RJ0 : String := "java/lang/String"
def TJ0 : u_T := fun k => match k with
  | _ => ("", "", "", false)
def tyJ0 : Nat → FieldType := fun k => match k with
  | _ => .int
abbrev wsJ00 : List Cond := u_ws RJ0 TJ0 0
theorem nmJ0 : ∀ a, a < 0 → ∀ b, b < 0 → a ≠ b → (TJ0 a).2.1 ≠ (TJ0 b).2.1 := by decide +kernel
theorem tyJ0_ok : ∀ k, k < 0 → parseFieldDescriptor (TJ0 k).2.2.1 = some (tyJ0 k) := by decide +kernel
def RJ10 : String := "java/lang/System"
def TJ10 : u_T := fun k => match k with
  | _ => ("", "", "", false)
def tyJ10 : Nat → FieldType := fun k => match k with
  | _ => .int
abbrev wsJ100 : List Cond := u_ws RJ10 TJ10 0
theorem nmJ10 : ∀ a, a < 0 → ∀ b, b < 0 → a ≠ b → (TJ10 a).2.1 ≠ (TJ10 b).2.1 := by decide +kernel
theorem tyJ10_ok : ∀ k, k < 0 → parseFieldDescriptor (TJ10 k).2.2.1 = some (tyJ10 k) := by decide +kernel
def RJxa1e45 : String := "java/util/AbstractCollection"
def TJxa1e45 : u_T := fun k => match k with
  | _ => ("", "", "", false)
def tyJxa1e45 : Nat → FieldType := fun k => match k with
  | _ => .int
abbrev wsJxa1e450 : List Cond := u_ws RJxa1e45 TJxa1e45 0
theorem nmJxa1e45 : ∀ a, a < 0 → ∀ b, b < 0 → a ≠ b → (TJxa1e45 a).2.1 ≠ (TJxa1e45 b).2.1 := by decide +kernel
theorem tyJxa1e45_ok : ∀ k, k < 0 → parseFieldDescriptor (TJxa1e45 k).2.2.1 = some (tyJxa1e45 k) := by decide +kernel
abbrev cJxa1e45_init_da8c8 : ByteArray := prog_23_method_1_code
def yJxa1e45_init_da8c8 : MethodName := ⟨RJxa1e45, "<init>", "()V"⟩
def RJxc12de : String := "java/util/AbstractList"
def TJxc12de : u_T := fun k => match k with
  | _ => ("", "", "", false)
def tyJxc12de : Nat → FieldType := fun k => match k with
  | _ => .int
abbrev wsJxc12de0 : List Cond := u_ws RJxc12de TJxc12de 0
theorem nmJxc12de : ∀ a, a < 0 → ∀ b, b < 0 → a ≠ b → (TJxc12de a).2.1 ≠ (TJxc12de b).2.1 := by decide +kernel
theorem tyJxc12de_ok : ∀ k, k < 0 → parseFieldDescriptor (TJxc12de k).2.2.1 = some (tyJxc12de k) := by decide +kernel
abbrev cJxc12de_init_da8c8 : ByteArray := prog_24_method_1_code
def yJxc12de_init_da8c8 : MethodName := ⟨RJxc12de, "<init>", "()V"⟩
def RJx4a65c : String := "java/util/ArrayList"
def TJx4a65c : u_T := fun k => match k with
  | 0 => ("java/util/AbstractList", "modCount", "I", false)
  | 1 => ("java/util/ArrayList", "elementData", "[Ljava/lang/Object;", false)
  | _ => ("java/util/ArrayList", "size", "I", false)
def tyJx4a65c : Nat → FieldType := fun k => match k with
  | 0 => .int
  | 1 => .array (.object "java/lang/Object")
  | _ => .int
abbrev wsJx4a65c0 : List Cond := u_ws RJx4a65c TJx4a65c 3
theorem nmJx4a65c : ∀ a, a < 3 → ∀ b, b < 3 → a ≠ b → (TJx4a65c a).2.1 ≠ (TJx4a65c b).2.1 := by decide +kernel
theorem tyJx4a65c_ok : ∀ k, k < 3 → parseFieldDescriptor (TJx4a65c k).2.2.1 = some (tyJx4a65c k) := by decide +kernel
abbrev cJx4a65c_init_da8c8 : ByteArray := prog_25_method_2_code
def yJx4a65c_init_da8c8 : MethodName := ⟨RJx4a65c, "<init>", "()V"⟩
abbrev cJx4a65c_grow_92f84 : ByteArray := prog_25_method_6_code
def yJx4a65c_grow_92f84 : MethodName := ⟨RJx4a65c, "grow", "(I)[Ljava/lang/Object;"⟩
abbrev cJx4a65c_grow_d5877 : ByteArray := prog_25_method_7_code
def yJx4a65c_grow_d5877 : MethodName := ⟨RJx4a65c, "grow", "()[Ljava/lang/Object;"⟩
abbrev cJx4a65c_size_8abf5 : ByteArray := prog_25_method_8_code
def yJx4a65c_size_8abf5 : MethodName := ⟨RJx4a65c, "size", "()I"⟩
abbrev cJx4a65c_elementData_915e3 : ByteArray := prog_25_method_18_code
def yJx4a65c_elementData_915e3 : MethodName := ⟨RJx4a65c, "elementData", "(I)Ljava/lang/Object;"⟩
abbrev cJx4a65c_get_915e3 : ByteArray := prog_25_method_20_code
def yJx4a65c_get_915e3 : MethodName := ⟨RJx4a65c, "get", "(I)Ljava/lang/Object;"⟩
abbrev cJx4a65c_add_72be8 : ByteArray := prog_25_method_24_code
def yJx4a65c_add_72be8 : MethodName := ⟨RJx4a65c, "add", "(Ljava/lang/Object;[Ljava/lang/Object;I)V"⟩
abbrev cJx4a65c_add_9ea2d : ByteArray := prog_25_method_25_code
def yJx4a65c_add_9ea2d : MethodName := ⟨RJx4a65c, "add", "(Ljava/lang/Object;)Z"⟩
def RJ7 : String := "java/util/Arrays"
def TJ7 : u_T := fun k => match k with
  | _ => ("", "", "", false)
def tyJ7 : Nat → FieldType := fun k => match k with
  | _ => .int
abbrev wsJ70 : List Cond := u_ws RJ7 TJ7 0
theorem nmJ7 : ∀ a, a < 0 → ∀ b, b < 0 → a ≠ b → (TJ7 a).2.1 ≠ (TJ7 b).2.1 := by decide +kernel
theorem tyJ7_ok : ∀ k, k < 0 → parseFieldDescriptor (TJ7 k).2.2.1 = some (tyJ7 k) := by decide +kernel
abbrev cJ7_copyOf_1904c : ByteArray := prog_26_method_119_code
def yJ7_copyOf_1904c : MethodName := ⟨RJ7, "copyOf", "([Ljava/lang/Object;I)[Ljava/lang/Object;"⟩
abbrev cJ7_copyOf_6403c : ByteArray := prog_26_method_120_code
def yJ7_copyOf_6403c : MethodName := ⟨RJ7, "copyOf", "([Ljava/lang/Object;ILjava/lang/Class;)[Ljava/lang/Object;"⟩
def RJx5ef63 : String := "java/util/Collection"
def TJx5ef63 : u_T := fun k => match k with
  | _ => ("", "", "", false)
def tyJx5ef63 : Nat → FieldType := fun k => match k with
  | _ => .int
abbrev wsJx5ef630 : List Cond := u_ws RJx5ef63 TJx5ef63 0
theorem nmJx5ef63 : ∀ a, a < 0 → ∀ b, b < 0 → a ≠ b → (TJx5ef63 a).2.1 ≠ (TJx5ef63 b).2.1 := by decide +kernel
theorem tyJx5ef63_ok : ∀ k, k < 0 → parseFieldDescriptor (TJx5ef63 k).2.2.1 = some (tyJx5ef63 k) := by decide +kernel
def RJxbd725 : String := "java/util/List"
def TJxbd725 : u_T := fun k => match k with
  | _ => ("", "", "", false)
def tyJxbd725 : Nat → FieldType := fun k => match k with
  | _ => .int
abbrev wsJxbd7250 : List Cond := u_ws RJxbd725 TJxbd725 0
theorem nmJxbd725 : ∀ a, a < 0 → ∀ b, b < 0 → a ≠ b → (TJxbd725 a).2.1 ≠ (TJxbd725 b).2.1 := by decide +kernel
theorem tyJxbd725_ok : ∀ k, k < 0 → parseFieldDescriptor (TJxbd725 k).2.2.1 = some (tyJxbd725 k) := by decide +kernel
def RJ15 : String := "java/util/Objects"
def TJ15 : u_T := fun k => match k with
  | _ => ("", "", "", false)
def tyJ15 : Nat → FieldType := fun k => match k with
  | _ => .int
abbrev wsJ150 : List Cond := u_ws RJ15 TJ15 0
theorem nmJ15 : ∀ a, a < 0 → ∀ b, b < 0 → a ≠ b → (TJ15 a).2.1 ≠ (TJ15 b).2.1 := by decide +kernel
theorem tyJ15_ok : ∀ k, k < 0 → parseFieldDescriptor (TJ15 k).2.2.1 = some (tyJ15 k) := by decide +kernel
abbrev cJ15_checkIndex_7cf53 : ByteArray := prog_30_method_17_code
def yJ15_checkIndex_7cf53 : MethodName := ⟨RJ15, "checkIndex", "(II)I"⟩
def RJxf0a74 : String := "java/util/RandomAccess"
def TJxf0a74 : u_T := fun k => match k with
  | _ => ("", "", "", false)
def tyJxf0a74 : Nat → FieldType := fun k => match k with
  | _ => .int
abbrev wsJxf0a740 : List Cond := u_ws RJxf0a74 TJxf0a74 0
theorem nmJxf0a74 : ∀ a, a < 0 → ∀ b, b < 0 → a ≠ b → (TJxf0a74 a).2.1 ≠ (TJxf0a74 b).2.1 := by decide +kernel
theorem tyJxf0a74_ok : ∀ k, k < 0 → parseFieldDescriptor (TJxf0a74 k).2.2.1 = some (tyJxf0a74 k) := by decide +kernel
def RJxa66e6 : String := "java/util/SequencedCollection"
def TJxa66e6 : u_T := fun k => match k with
  | _ => ("", "", "", false)
def tyJxa66e6 : Nat → FieldType := fun k => match k with
  | _ => .int
abbrev wsJxa66e60 : List Cond := u_ws RJxa66e6 TJxa66e6 0
theorem nmJxa66e6 : ∀ a, a < 0 → ∀ b, b < 0 → a ≠ b → (TJxa66e6 a).2.1 ≠ (TJxa66e6 b).2.1 := by decide +kernel
theorem tyJxa66e6_ok : ∀ k, k < 0 → parseFieldDescriptor (TJxa66e6 k).2.2.1 = some (tyJxa66e6 k) := by decide +kernel
def RJ8 : String := "jdk/internal/util/ArraysSupport"
def TJ8 : u_T := fun k => match k with
  | _ => ("", "", "", false)
def tyJ8 : Nat → FieldType := fun k => match k with
  | _ => .int
abbrev wsJ80 : List Cond := u_ws RJ8 TJ8 0
theorem nmJ8 : ∀ a, a < 0 → ∀ b, b < 0 → a ≠ b → (TJ8 a).2.1 ≠ (TJ8 b).2.1 := by decide +kernel
theorem tyJ8_ok : ∀ k, k < 0 → parseFieldDescriptor (TJ8 k).2.2.1 = some (tyJ8 k) := by decide +kernel
abbrev cJ8_newLength_cabcc : ByteArray := prog_33_method_27_code
def yJ8_newLength_cabcc : MethodName := ⟨RJ8, "newLength", "(III)I"⟩
abbrev cJ8_hugeLength_7cf53 : ByteArray := prog_33_method_28_code
def yJ8_hugeLength_7cf53 : MethodName := ⟨RJ8, "hugeLength", "(II)I"⟩
def RJ3 : String := "jdk/internal/util/Preconditions"
def TJ3 : u_T := fun k => match k with
  | _ => ("", "", "", false)
def tyJ3 : Nat → FieldType := fun k => match k with
  | _ => .int
abbrev wsJ30 : List Cond := u_ws RJ3 TJ3 0
theorem nmJ3 : ∀ a, a < 0 → ∀ b, b < 0 → a ≠ b → (TJ3 a).2.1 ≠ (TJ3 b).2.1 := by decide +kernel
theorem tyJ3_ok : ∀ k, k < 0 → parseFieldDescriptor (TJ3 k).2.2.1 = some (tyJ3 k) := by decide +kernel
abbrev cJ3_checkIndex_8e157 : ByteArray := prog_34_method_11_code
def yJ3_checkIndex_8e157 : MethodName := ⟨RJ3, "checkIndex", "(IILjava/util/function/BiFunction;)I"⟩
def RL : String := "EvenstartGamesLaw"
abbrev cL_cell : ByteArray := method_2_code
def yL_cell : MethodName := ⟨RL, "cell", "([II)I"⟩
abbrev cL_athlete : ByteArray := method_3_code
def yL_athlete : MethodName := ⟨RL, "athlete", "(LEvenstartGames;I)I"⟩
abbrev cL_body : ByteArray := method_4_code
def yL_body : MethodName := ⟨RL, "body", "(LEvenstartGames;III)I"⟩
abbrev cL_show : ByteArray := method_5_code
def yL_show : MethodName := ⟨RL, "show", "(LEvenstartGames;III)I"⟩
abbrev cL_found : ByteArray := method_6_code
def yL_found : MethodName := ⟨RL, "found", "(LEvenstartGames;II)I"⟩
abbrev cL_classifier : ByteArray := method_7_code
def yL_classifier : MethodName := ⟨RL, "classifier", "(LEvenstartGames;I)I"⟩
abbrev cL_kind : ByteArray := method_8_code
def yL_kind : MethodName := ⟨RL, "kind", "(LEvenstartGames;IIII)I"⟩
abbrev cL_belongs : ByteArray := method_9_code
def yL_belongs : MethodName := ⟨RL, "belongs", "(LEvenstartGames;I)I"⟩
abbrev cL_test : ByteArray := method_10_code
def yL_test : MethodName := ⟨RL, "test", "(LEvenstartGames;III)I"⟩
abbrev cL_status : ByteArray := method_11_code
def yL_status : MethodName := ⟨RL, "status", "(LEvenstartGames;I)I"⟩
abbrev cL_classOf : ByteArray := method_12_code
def yL_classOf : MethodName := ⟨RL, "classOf", "(LEvenstartGames;I)I"⟩
abbrev cL_watch : ByteArray := method_13_code
def yL_watch : MethodName := ⟨RL, "watch", "(LEvenstartGames;I)I"⟩
abbrev cL_money : ByteArray := method_14_code
def yL_money : MethodName := ⟨RL, "money", "(LEvenstartGames;I)I"⟩
abbrev cL_next : ByteArray := method_15_code
def yL_next : MethodName := ⟨RL, "next", "(LEvenstartGames;)I"⟩
abbrev cL_until : ByteArray := method_16_code
def yL_until : MethodName := ⟨RL, "until", "(LEvenstartGames;I)I"⟩
abbrev cL_protest : ByteArray := method_17_code
def yL_protest : MethodName := ⟨RL, "protest", "(LEvenstartGames;II)I"⟩
abbrev cL_in : ByteArray := method_18_code
def yL_in : MethodName := ⟨RL, "in", "([III)I"⟩
abbrev cL_law : ByteArray := code
def yL_law : MethodName := ⟨RL, "law", "([I)Z"⟩
/-- the classes by the places that whole gave them; a place that this law has not is a second row of another class -/
abbrev vwCl : List vw_C := [(RJx4a65c, TJx4a65c, 3), (RX0, TX0, 10), (RX1, TX1, 1), (RX1, TX1, 1), (RX1, TX1, 1), (RX4, TX4, 6), (RX5, TX5, 1), (RX6, TX6, 6)]
