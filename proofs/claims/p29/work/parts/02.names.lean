def RX0 : String := "PuzzleRegistry$Answers"
def TX0 : u_T := fun k => match k with
  | 0 => ("PuzzleRegistry$Answers", "teams", "[I", true)
  | 1 => ("PuzzleRegistry$Answers", "riddles", "[I", true)
  | 2 => ("PuzzleRegistry$Answers", "words", "[I", true)
  | 3 => ("PuzzleRegistry$Answers", "minutes", "[I", true)
  | _ => ("PuzzleRegistry$Answers", "count", "I", false)
def tyX0 : Nat → FieldType := fun k => match k with
  | 0 => .array .int
  | 1 => .array .int
  | 2 => .array .int
  | 3 => .array .int
  | _ => .int
abbrev wsX00 : List Cond := u_ws RX0 TX0 5
theorem nmX0 : ∀ a, a < 5 → ∀ b, b < 5 → a ≠ b → (TX0 a).2.1 ≠ (TX0 b).2.1 := by decide +kernel
theorem tyX0_ok : ∀ k, k < 5 → parseFieldDescriptor (TX0 k).2.2.1 = some (tyX0 k) := by decide +kernel
abbrev cX0_init : ByteArray := prog_2_method_1_code
def yX0_init : MethodName := ⟨RX0, "<init>", "()V"⟩
abbrev cX0_append : ByteArray := prog_2_method_2_code
def yX0_append : MethodName := ⟨RX0, "append", "(IIII)V"⟩
abbrev cX0_giversOf : ByteArray := prog_2_method_3_code
def yX0_giversOf : MethodName := ⟨RX0, "giversOf", "(II)I"⟩
abbrev cX0_areSame : ByteArray := prog_2_method_4_code
def yX0_areSame : MethodName := ⟨RX0, "areSame", "(II)Z"⟩
abbrev cX0_isRepeated : ByteArray := prog_2_method_5_code
def yX0_isRepeated : MethodName := ⟨RX0, "isRepeated", "(I)Z"⟩
def RX1 : String := "PuzzleRegistry$Judge"
def TX1 : u_T := fun k => match k with
  | 0 => ("PuzzleRegistry$Judge", "cleared", "[I", true)
  | 1 => ("PuzzleRegistry$Judge", "pardoned", "[I", true)
  | _ => ("PuzzleRegistry$Judge", "bound", "I", false)
def tyX1 : Nat → FieldType := fun k => match k with
  | 0 => .array .int
  | 1 => .array .int
  | _ => .int
abbrev wsX10 : List Cond := u_ws RX1 TX1 3
theorem nmX1 : ∀ a, a < 3 → ∀ b, b < 3 → a ≠ b → (TX1 a).2.1 ≠ (TX1 b).2.1 := by decide +kernel
theorem tyX1_ok : ∀ k, k < 3 → parseFieldDescriptor (TX1 k).2.2.1 = some (tyX1 k) := by decide +kernel
abbrev cX1_init : ByteArray := prog_3_method_1_code
def yX1_init : MethodName := ⟨RX1, "<init>", "()V"⟩
abbrev cX1_switchPardon : ByteArray := prog_3_method_2_code
def yX1_switchPardon : MethodName := ⟨RX1, "switchPardon", "(II)Z"⟩
abbrev cX1_links : ByteArray := prog_3_method_3_code
def yX1_links : MethodName := ⟨RX1, "links", "(III)Z"⟩
def RX2 : String := "PuzzleRegistry$Records"
def TX2 : u_T := fun k => match k with
  | 0 => ("PuzzleRegistry$Records", "solved", "[I", true)
  | 1 => ("PuzzleRegistry$Records", "tooSoon", "[I", true)
  | 2 => ("PuzzleRegistry$Records", "solveMinutes", "[I", true)
  | 3 => ("PuzzleRegistry$Records", "paid", "[I", true)
  | 4 => ("PuzzleRegistry$Records", "likenesses", "[I", true)
  | _ => ("PuzzleRegistry$Records", "commons", "[I", true)
def tyX2 : Nat → FieldType := fun k => match k with
  | 0 => .array .int
  | 1 => .array .int
  | 2 => .array .int
  | 3 => .array .int
  | 4 => .array .int
  | _ => .array .int
abbrev wsX20 : List Cond := u_ws RX2 TX2 6
theorem nmX2 : ∀ a, a < 6 → ∀ b, b < 6 → a ≠ b → (TX2 a).2.1 ≠ (TX2 b).2.1 := by decide +kernel
theorem tyX2_ok : ∀ k, k < 6 → parseFieldDescriptor (TX2 k).2.2.1 = some (tyX2 k) := by decide +kernel
abbrev cX2_init : ByteArray := prog_4_method_1_code
def yX2_init : MethodName := ⟨RX2, "<init>", "()V"⟩
abbrev cX2_wipe : ByteArray := prog_4_method_2_code
def yX2_wipe : MethodName := ⟨RX2, "wipe", "()V"⟩
abbrev cX2_solve : ByteArray := prog_4_method_3_code
def yX2_solve : MethodName := ⟨RX2, "solve", "(IIIZ)V"⟩
abbrev cX2_pay : ByteArray := prog_4_method_4_code
def yX2_pay : MethodName := ⟨RX2, "pay", "(III)V"⟩
abbrev cX2_noteCommon : ByteArray := prog_4_method_5_code
def yX2_noteCommon : MethodName := ⟨RX2, "noteCommon", "(III)V"⟩
abbrev cX2_lastSolveMinute : ByteArray := prog_4_method_6_code
def yX2_lastSolveMinute : MethodName := ⟨RX2, "lastSolveMinute", "(II)I"⟩
def RX3 : String := "PuzzleRegistry$Riddles"
def TX3 : u_T := fun k => match k with
  | 0 => ("PuzzleRegistry$Riddles", "points", "[I", true)
  | 1 => ("PuzzleRegistry$Riddles", "keys", "[I", true)
  | 2 => ("PuzzleRegistry$Riddles", "leastTimes", "[I", true)
  | 3 => ("PuzzleRegistry$Riddles", "firstPrices", "[I", true)
  | 4 => ("PuzzleRegistry$Riddles", "needs", "[I", true)
  | 5 => ("PuzzleRegistry$Riddles", "touched", "I", false)
  | _ => ("PuzzleRegistry$Riddles", "count", "I", false)
def tyX3 : Nat → FieldType := fun k => match k with
  | 0 => .array .int
  | 1 => .array .int
  | 2 => .array .int
  | 3 => .array .int
  | 4 => .array .int
  | 5 => .int
  | _ => .int
abbrev wsX30 : List Cond := u_ws RX3 TX3 7
theorem nmX3 : ∀ a, a < 7 → ∀ b, b < 7 → a ≠ b → (TX3 a).2.1 ≠ (TX3 b).2.1 := by decide +kernel
theorem tyX3_ok : ∀ k, k < 7 → parseFieldDescriptor (TX3 k).2.2.1 = some (tyX3 k) := by decide +kernel
abbrev cX3_init : ByteArray := prog_5_method_1_code
def yX3_init : MethodName := ⟨RX3, "<init>", "()V"⟩
abbrev cX3_append : ByteArray := prog_5_method_2_code
def yX3_append : MethodName := ⟨RX3, "append", "(IIII)I"⟩
abbrev cX3_hangingOn : ByteArray := prog_5_method_3_code
def yX3_hangingOn : MethodName := ⟨RX3, "hangingOn", "(I)I"⟩
abbrev cX3_spread : ByteArray := prog_5_method_4_code
def yX3_spread : MethodName := ⟨RX3, "spread", "(I)I"⟩
def RX4 : String := "PuzzleRegistry$Sales"
def TX4 : u_T := fun k => match k with
  | 0 => ("PuzzleRegistry$Sales", "bought", "[I", true)
  | _ => ("PuzzleRegistry$Sales", "prices", "[I", true)
def tyX4 : Nat → FieldType := fun k => match k with
  | 0 => .array .int
  | _ => .array .int
abbrev wsX40 : List Cond := u_ws RX4 TX4 2
theorem nmX4 : ∀ a, a < 2 → ∀ b, b < 2 → a ≠ b → (TX4 a).2.1 ≠ (TX4 b).2.1 := by decide +kernel
theorem tyX4_ok : ∀ k, k < 2 → parseFieldDescriptor (TX4 k).2.2.1 = some (tyX4 k) := by decide +kernel
abbrev cX4_init : ByteArray := prog_6_method_1_code
def yX4_init : MethodName := ⟨RX4, "<init>", "()V"⟩
abbrev cX4_append : ByteArray := prog_6_method_2_code
def yX4_append : MethodName := ⟨RX4, "append", "(III)V"⟩
abbrev cX4_countBuyers : ByteArray := prog_6_method_3_code
def yX4_countBuyers : MethodName := ⟨RX4, "countBuyers", "(II)I"⟩
def RX5 : String := "PuzzleRegistry"
def TX5 : u_T := fun k => match k with
  | 0 => ("PuzzleRegistry", "riddles", "LPuzzleRegistry$Riddles;", true)
  | 1 => ("PuzzleRegistry", "answers", "LPuzzleRegistry$Answers;", true)
  | 2 => ("PuzzleRegistry", "sales", "LPuzzleRegistry$Sales;", true)
  | 3 => ("PuzzleRegistry", "judge", "LPuzzleRegistry$Judge;", true)
  | 4 => ("PuzzleRegistry", "kept", "LPuzzleRegistry$Records;", true)
  | 5 => ("PuzzleRegistry", "anew", "LPuzzleRegistry$Records;", true)
  | 6 => ("PuzzleRegistry", "scores", "[I", true)
  | 7 => ("PuzzleRegistry", "lastMinutes", "[I", true)
  | 8 => ("PuzzleRegistry", "prizes", "[I", true)
  | 9 => ("PuzzleRegistry", "teamCount", "I", false)
  | 10 => ("PuzzleRegistry", "minute", "I", false)
  | _ => ("PuzzleRegistry", "ended", "Z", false)
def tyX5 : Nat → FieldType := fun k => match k with
  | 0 => .object "PuzzleRegistry$Riddles"
  | 1 => .object "PuzzleRegistry$Answers"
  | 2 => .object "PuzzleRegistry$Sales"
  | 3 => .object "PuzzleRegistry$Judge"
  | 4 => .object "PuzzleRegistry$Records"
  | 5 => .object "PuzzleRegistry$Records"
  | 6 => .array .int
  | 7 => .array .int
  | 8 => .array .int
  | 9 => .int
  | 10 => .int
  | _ => .boolean
abbrev wsX50 : List Cond := u_ws RX5 TX5 12
theorem nmX5 : ∀ a, a < 12 → ∀ b, b < 12 → a ≠ b → (TX5 a).2.1 ≠ (TX5 b).2.1 := by decide +kernel
theorem tyX5_ok : ∀ k, k < 12 → parseFieldDescriptor (TX5 k).2.2.1 = some (tyX5 k) := by decide +kernel
abbrev cX5_init : ByteArray := prog_1_method_1_code
def yX5_init : MethodName := ⟨RX5, "<init>", "()V"⟩
abbrev cX5_pass : ByteArray := prog_1_method_2_code
def yX5_pass : MethodName := ⟨RX5, "pass", "(I)I"⟩
abbrev cX5_now : ByteArray := prog_1_method_3_code
def yX5_now : MethodName := ⟨RX5, "now", "()I"⟩
abbrev cX5_addRiddle : ByteArray := prog_1_method_4_code
def yX5_addRiddle : MethodName := ⟨RX5, "addRiddle", "(IIII)I"⟩
abbrev cX5_need : ByteArray := prog_1_method_5_code
def yX5_need : MethodName := ⟨RX5, "need", "(II)I"⟩
abbrev cX5_addTeam : ByteArray := prog_1_method_6_code
def yX5_addTeam : MethodName := ⟨RX5, "addTeam", "()I"⟩
abbrev cX5_end : ByteArray := prog_1_method_7_code
def yX5_end : MethodName := ⟨RX5, "end", "()I"⟩
abbrev cX5_answer : ByteArray := prog_1_method_8_code
def yX5_answer : MethodName := ⟨RX5, "answer", "(III)Z"⟩
abbrev cX5_hint : ByteArray := prog_1_method_9_code
def yX5_hint : MethodName := ⟨RX5, "hint", "(II)I"⟩
abbrev cX5_price : ByteArray := prog_1_method_10_code
def yX5_price : MethodName := ⟨RX5, "price", "(II)I"⟩
abbrev cX5_openedAt : ByteArray := prog_1_method_11_code
def yX5_openedAt : MethodName := ⟨RX5, "openedAt", "(II)I"⟩
abbrev cX5_solvedAt : ByteArray := prog_1_method_12_code
def yX5_solvedAt : MethodName := ⟨RX5, "solvedAt", "(II)I"⟩
abbrev cX5_clear : ByteArray := prog_1_method_13_code
def yX5_clear : MethodName := ⟨RX5, "clear", "(II)Z"⟩
abbrev cX5_pardon : ByteArray := prog_1_method_14_code
def yX5_pardon : MethodName := ⟨RX5, "pardon", "(II)Z"⟩
abbrev cX5_setBound : ByteArray := prog_1_method_15_code
def yX5_setBound : MethodName := ⟨RX5, "setBound", "(I)I"⟩
abbrev cX5_isFree : ByteArray := prog_1_method_16_code
def yX5_isFree : MethodName := ⟨RX5, "isFree", "(I)Z"⟩
abbrev cX5_likeness : ByteArray := prog_1_method_17_code
def yX5_likeness : MethodName := ⟨RX5, "likeness", "(II)I"⟩
abbrev cX5_areLinked : ByteArray := prog_1_method_18_code
def yX5_areLinked : MethodName := ⟨RX5, "areLinked", "(II)Z"⟩
abbrev cX5_isCheated : ByteArray := prog_1_method_19_code
def yX5_isCheated : MethodName := ⟨RX5, "isCheated", "(II)Z"⟩
abbrev cX5_isVoid : ByteArray := prog_1_method_20_code
def yX5_isVoid : MethodName := ⟨RX5, "isVoid", "(II)Z"⟩
abbrev cX5_hanging : ByteArray := prog_1_method_21_code
def yX5_hanging : MethodName := ⟨RX5, "hanging", "(I)I"⟩
abbrev cX5_score : ByteArray := prog_1_method_22_code
def yX5_score : MethodName := ⟨RX5, "score", "(I)I"⟩
abbrev cX5_scoreAnew : ByteArray := prog_1_method_23_code
def yX5_scoreAnew : MethodName := ⟨RX5, "scoreAnew", "(I)I"⟩
abbrev cX5_place : ByteArray := prog_1_method_24_code
def yX5_place : MethodName := ⟨RX5, "place", "(I)I"⟩
abbrev cX5_teamAt : ByteArray := prog_1_method_25_code
def yX5_teamAt : MethodName := ⟨RX5, "teamAt", "(I)I"⟩
abbrev cX5_setPrize : ByteArray := prog_1_method_26_code
def yX5_setPrize : MethodName := ⟨RX5, "setPrize", "(II)I"⟩
abbrev cX5_prize : ByteArray := prog_1_method_27_code
def yX5_prize : MethodName := ⟨RX5, "prize", "(I)I"⟩
abbrev cX5_requireTeam : ByteArray := prog_1_method_28_code
def yX5_requireTeam : MethodName := ⟨RX5, "requireTeam", "(I)V"⟩
abbrev cX5_requireRiddle : ByteArray := prog_1_method_29_code
def yX5_requireRiddle : MethodName := ⟨RX5, "requireRiddle", "(I)V"⟩
abbrev cX5_requireRange : ByteArray := prog_1_method_30_code
def yX5_requireRange : MethodName := ⟨RX5, "requireRange", "(III)V"⟩
abbrev cX5_bit : ByteArray := prog_1_method_31_code
def yX5_bit : MethodName := ⟨RX5, "bit", "(I)I"⟩
abbrev cX5_has : ByteArray := prog_1_method_32_code
def yX5_has : MethodName := ⟨RX5, "has", "(II)Z"⟩
abbrev cX5_cell : ByteArray := prog_1_method_33_code
def yX5_cell : MethodName := ⟨RX5, "cell", "(II)I"⟩
abbrev cX5_sale : ByteArray := prog_1_method_34_code
def yX5_sale : MethodName := ⟨RX5, "sale", "(III)I"⟩
abbrev cX5_pair : ByteArray := prog_1_method_35_code
def yX5_pair : MethodName := ⟨RX5, "pair", "(II)I"⟩
abbrev cX5_openMinute : ByteArray := prog_1_method_36_code
def yX5_openMinute : MethodName := ⟨RX5, "openMinute", "(LPuzzleRegistry$Records;II)I"⟩
abbrev cX5_isUnderWay : ByteArray := prog_1_method_37_code
def yX5_isUnderWay : MethodName := ⟨RX5, "isUnderWay", "(II)Z"⟩
abbrev cX5_hasHintsLeft : ByteArray := prog_1_method_38_code
def yX5_hasHintsLeft : MethodName := ⟨RX5, "hasHintsLeft", "(II)Z"⟩
abbrev cX5_nextPrice : ByteArray := prog_1_method_39_code
def yX5_nextPrice : MethodName := ⟨RX5, "nextPrice", "(II)I"⟩
abbrev cX5_noteSolved : ByteArray := prog_1_method_40_code
def yX5_noteSolved : MethodName := ⟨RX5, "noteSolved", "(LPuzzleRegistry$Records;III)V"⟩
abbrev cX5_noteWrong : ByteArray := prog_1_method_41_code
def yX5_noteWrong : MethodName := ⟨RX5, "noteWrong", "(III)V"⟩
abbrev cX5_freeSet : ByteArray := prog_1_method_42_code
def yX5_freeSet : MethodName := ⟨RX5, "freeSet", "(LPuzzleRegistry$Records;)I"⟩
abbrev cX5_cheatedSet : ByteArray := prog_1_method_43_code
def yX5_cheatedSet : MethodName := ⟨RX5, "cheatedSet", "(LPuzzleRegistry$Records;I)I"⟩
abbrev cX5_voidSet : ByteArray := prog_1_method_44_code
def yX5_voidSet : MethodName := ⟨RX5, "voidSet", "(LPuzzleRegistry$Records;I)I"⟩
abbrev cX5_countingSet : ByteArray := prog_1_method_45_code
def yX5_countingSet : MethodName := ⟨RX5, "countingSet", "(LPuzzleRegistry$Records;I)I"⟩
abbrev cX5_sumUp : ByteArray := prog_1_method_46_code
def yX5_sumUp : MethodName := ⟨RX5, "sumUp", "(LPuzzleRegistry$Records;II)I"⟩
abbrev cX5_replaySolutions : ByteArray := prog_1_method_47_code
def yX5_replaySolutions : MethodName := ⟨RX5, "replaySolutions", "()V"⟩
abbrev cX5_comparePairs : ByteArray := prog_1_method_48_code
def yX5_comparePairs : MethodName := ⟨RX5, "comparePairs", "(I)V"⟩
abbrev cX5_compareWithOthers : ByteArray := prog_1_method_49_code
def yX5_compareWithOthers : MethodName := ⟨RX5, "compareWithOthers", "(I)V"⟩
abbrev cX5_replaySales : ByteArray := prog_1_method_50_code
def yX5_replaySales : MethodName := ⟨RX5, "replaySales", "(I)V"⟩
abbrev cX5_isRight : ByteArray := prog_1_method_51_code
def yX5_isRight : MethodName := ⟨RX5, "isRight", "(I)Z"⟩
abbrev cX5_rateTeams : ByteArray := prog_1_method_52_code
def yX5_rateTeams : MethodName := ⟨RX5, "rateTeams", "()V"⟩
abbrev cX5_countBetter : ByteArray := prog_1_method_53_code
def yX5_countBetter : MethodName := ⟨RX5, "countBetter", "(I)I"⟩
abbrev cX5_countAlike : ByteArray := prog_1_method_54_code
def yX5_countAlike : MethodName := ⟨RX5, "countAlike", "(II)I"⟩
abbrev cX5_sumPrizes : ByteArray := prog_1_method_55_code
def yX5_sumPrizes : MethodName := ⟨RX5, "sumPrizes", "(II)I"⟩
def RX6 : String := "PuzzleRegistryModel"
def TX6 : u_T := fun k => match k with
  | _ => ("", "", "", false)
def tyX6 : Nat → FieldType := fun k => match k with
  | _ => .int
abbrev wsX60 : List Cond := u_ws RX6 TX6 0
theorem nmX6 : ∀ a, a < 0 → ∀ b, b < 0 → a ≠ b → (TX6 a).2.1 ≠ (TX6 b).2.1 := by decide +kernel
theorem tyX6_ok : ∀ k, k < 0 → parseFieldDescriptor (TX6 k).2.2.1 = some (tyX6 k) := by decide +kernel
def RJx145de : String := "java/io/Serializable"
def TJx145de : u_T := fun k => match k with
  | _ => ("", "", "", false)
def tyJx145de : Nat → FieldType := fun k => match k with
  | _ => .int
abbrev wsJx145de0 : List Cond := u_ws RJx145de TJx145de 0
theorem nmJx145de : ∀ a, a < 0 → ∀ b, b < 0 → a ≠ b → (TJx145de a).2.1 ≠ (TJx145de b).2.1 := by decide +kernel
theorem tyJx145de_ok : ∀ k, k < 0 → parseFieldDescriptor (TJx145de k).2.2.1 = some (tyJx145de k) := by decide +kernel
def RJ6 : String := "java/lang/Integer"
def TJ6 : u_T := fun k => match k with
  | _ => ("", "", "", false)
def tyJ6 : Nat → FieldType := fun k => match k with
  | _ => .int
abbrev wsJ60 : List Cond := u_ws RJ6 TJ6 0
theorem nmJ6 : ∀ a, a < 0 → ∀ b, b < 0 → a ≠ b → (TJ6 a).2.1 ≠ (TJ6 b).2.1 := by decide +kernel
theorem tyJ6_ok : ∀ k, k < 0 → parseFieldDescriptor (TJ6 k).2.2.1 = some (tyJ6 k) := by decide +kernel
abbrev cJ6_bitCount_0f7a4 : ByteArray := prog_14_method_49_code
def yJ6_bitCount_0f7a4 : MethodName := ⟨RJ6, "bitCount", "(I)I"⟩
def RJ9 : String := "java/lang/Math"
def TJ9 : u_T := fun k => match k with
  | _ => ("", "", "", false)
def tyJ9 : Nat → FieldType := fun k => match k with
  | _ => .int
abbrev wsJ90 : List Cond := u_ws RJ9 TJ9 0
theorem nmJ9 : ∀ a, a < 0 → ∀ b, b < 0 → a ≠ b → (TJ9 a).2.1 ≠ (TJ9 b).2.1 := by decide +kernel
theorem tyJ9_ok : ∀ k, k < 0 → parseFieldDescriptor (TJ9 k).2.2.1 = some (tyJ9 k) := by decide +kernel
abbrev cJ9_max_7cf53 : ByteArray := prog_15_method_65_code
def yJ9_max_7cf53 : MethodName := ⟨RJ9, "max", "(II)I"⟩
def RJ0 : String := "java/lang/String"
def TJ0 : u_T := fun k => match k with
  | _ => ("", "", "", false)
def tyJ0 : Nat → FieldType := fun k => match k with
  | _ => .int
abbrev wsJ00 : List Cond := u_ws RJ0 TJ0 0
theorem nmJ0 : ∀ a, a < 0 → ∀ b, b < 0 → a ≠ b → (TJ0 a).2.1 ≠ (TJ0 b).2.1 := by decide +kernel
theorem tyJ0_ok : ∀ k, k < 0 → parseFieldDescriptor (TJ0 k).2.2.1 = some (tyJ0 k) := by decide +kernel
def RJ7 : String := "java/util/Arrays"
def TJ7 : u_T := fun k => match k with
  | _ => ("", "", "", false)
def tyJ7 : Nat → FieldType := fun k => match k with
  | _ => .int
abbrev wsJ70 : List Cond := u_ws RJ7 TJ7 0
theorem nmJ7 : ∀ a, a < 0 → ∀ b, b < 0 → a ≠ b → (TJ7 a).2.1 ≠ (TJ7 b).2.1 := by decide +kernel
theorem tyJ7_ok : ∀ k, k < 0 → parseFieldDescriptor (TJ7 k).2.2.1 = some (tyJ7 k) := by decide +kernel
abbrev cJ7_fill_53178 : ByteArray := prog_19_method_103_code
def yJ7_fill_53178 : MethodName := ⟨RJ7, "fill", "([II)V"⟩
def RL : String := "PuzzleRegistryLaw"
abbrev cL_dice : ByteArray := method_2_code
def yL_dice : MethodName := ⟨RL, "dice", "([II)I"⟩
abbrev cL_act : ByteArray := method_3_code
def yL_act : MethodName := ⟨RL, "act", "(LPuzzleRegistry;IIIII)I"⟩
abbrev cL_of : ByteArray := method_4_code
def yL_of : MethodName := ⟨RL, "of", "(LPuzzleRegistry;III)I"⟩
abbrev cL_all : ByteArray := method_5_code
def yL_all : MethodName := ⟨RL, "all", "(LPuzzleRegistry;[I)J"⟩
abbrev cL_areOpened : ByteArray := method_6_code
def yL_areOpened : MethodName := ⟨RL, "areOpened", "(LPuzzleRegistry;[I[I[I[I)Z"⟩
abbrev cL_isSame : ByteArray := method_7_code
def yL_isSame : MethodName := ⟨RL, "isSame", "([III)Z"⟩
abbrev cL_isCommon : ByteArray := method_8_code
def yL_isCommon : MethodName := ⟨RL, "isCommon", "([I[I[III)Z"⟩
abbrev cL_areLinks : ByteArray := method_9_code
def yL_areLinks : MethodName := ⟨RL, "areLinks", "(LPuzzleRegistry;[I[I[I[III)Z"⟩
abbrev cL_areVoid : ByteArray := method_10_code
def yL_areVoid : MethodName := ⟨RL, "areVoid", "(LPuzzleRegistry;[I[II)Z"⟩
abbrev cL_last : ByteArray := method_11_code
def yL_last : MethodName := ⟨RL, "last", "(LPuzzleRegistry;[II)I"⟩
abbrev cL_areScores : ByteArray := method_12_code
def yL_areScores : MethodName := ⟨RL, "areScores", "(LPuzzleRegistry;[I[I[I[I)Z"⟩
abbrev cL_isRefused : ByteArray := method_13_code
def yL_isRefused : MethodName := ⟨RL, "isRefused", "(LPuzzleRegistry;[I[I[I[II)Z"⟩
abbrev cL_isAnswered : ByteArray := method_14_code
def yL_isAnswered : MethodName := ⟨RL, "isAnswered", "(LPuzzleRegistry;[I[I[I[IIII)Z"⟩
abbrev cL_isCleared : ByteArray := method_15_code
def yL_isCleared : MethodName := ⟨RL, "isCleared", "(LPuzzleRegistry;[I[III)Z"⟩
abbrev cL_law : ByteArray := code
def yL_law : MethodName := ⟨RL, "law", "([I)Z"⟩
