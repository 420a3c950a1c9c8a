/-! ===== BEGIN printed: names, fields, word lists, decode rows ===== -/
def RX0 : String := "RegretLine$Ease"
def TX0 : u_T := fun k => match k with
  | 0 => ("RegretLine$Ease", "train", "LRegretLine$Train;", true)
  | 1 => ("RegretLine$Ease", "toGo", "[[I", true)
  | 2 => ("RegretLine$Ease", "behind", "[I", true)
  | 3 => ("RegretLine$Ease", "sitting", "[I", true)
  | 4 => ("RegretLine$Ease", "ways", "I", false)
  | 5 => ("RegretLine$Ease", "row", "[I", true)
  | 6 => ("RegretLine$Ease", "trouble", "I", false)
  | _ => ("RegretLine$Ease", "stuckIn", "I", false)
def tyX0 : Nat → FieldType := fun k => match k with
  | 0 => .object "RegretLine$Train"
  | 1 => .array (.array .int)
  | 2 => .array .int
  | 3 => .array .int
  | 4 => .int
  | 5 => .array .int
  | 6 => .int
  | _ => .int
abbrev wsX00 : List Cond := u_ws RX0 TX0 8
theorem nmX0 : ∀ a, a < 8 → ∀ b, b < 8 → a ≠ b → (TX0 a).2.1 ≠ (TX0 b).2.1 := by decide +kernel
theorem tyX0_ok : ∀ k, k < 8 → parseFieldDescriptor (TX0 k).2.2.1 = some (tyX0 k) := by decide +kernel
abbrev cX0_init : ByteArray := prog_2_method_1_code
def yX0_init : MethodName := ⟨RX0, "<init>", "(LRegretLine$Train;)V"⟩
abbrev cX0_seek : ByteArray := prog_2_method_2_code
def yX0_seek : MethodName := ⟨RX0, "seek", "()V"⟩
abbrev cX0_weigh : ByteArray := prog_2_method_3_code
def yX0_weigh : MethodName := ⟨RX0, "weigh", "(I)Z"⟩
abbrev cX0_lowIn : ByteArray := prog_2_method_4_code
def yX0_lowIn : MethodName := ⟨RX0, "lowIn", "(II)I"⟩
abbrev cX0_lookBack : ByteArray := prog_2_method_5_code
def yX0_lookBack : MethodName := ⟨RX0, "lookBack", "(I)V"⟩
abbrev cX0_letChange : ByteArray := prog_2_method_6_code
def yX0_letChange : MethodName := ⟨RX0, "letChange", "(III)V"⟩
abbrev cX0_choose : ByteArray := prog_2_method_7_code
def yX0_choose : MethodName := ⟨RX0, "choose", "()V"⟩
abbrev cX0_firstOfLeast : ByteArray := prog_2_method_8_code
def yX0_firstOfLeast : MethodName := ⟨RX0, "firstOfLeast", "(II)I"⟩
abbrev cX0_changesBetween : ByteArray := prog_2_method_9_code
def yX0_changesBetween : MethodName := ⟨RX0, "changesBetween", "(II)I"⟩
abbrev cX0_write : ByteArray := prog_2_method_10_code
def yX0_write : MethodName := ⟨RX0, "write", "(II)V"⟩
def RX1 : String := "RegretLine$Readings"
def TX1 : u_T := fun k => match k with
  | 0 => ("RegretLine$Readings", "who", "[I", true)
  | 1 => ("RegretLine$Readings", "where", "[I", true)
  | 2 => ("RegretLine$Readings", "seen", "[I", true)
  | _ => ("RegretLine$Readings", "count", "I", false)
def tyX1 : Nat → FieldType := fun k => match k with
  | 0 => .array .int
  | 1 => .array .int
  | 2 => .array .int
  | _ => .int
abbrev wsX10 : List Cond := u_ws RX1 TX1 4
theorem nmX1 : ∀ a, a < 4 → ∀ b, b < 4 → a ≠ b → (TX1 a).2.1 ≠ (TX1 b).2.1 := by decide +kernel
theorem tyX1_ok : ∀ k, k < 4 → parseFieldDescriptor (TX1 k).2.2.1 = some (tyX1 k) := by decide +kernel
abbrev cX1_init : ByteArray := prog_3_method_1_code
def yX1_init : MethodName := ⟨RX1, "<init>", "()V"⟩
abbrev cX1_keep : ByteArray := prog_3_method_2_code
def yX1_keep : MethodName := ⟨RX1, "keep", "(III)I"⟩
abbrev cX1_areSo : ByteArray := prog_3_method_3_code
def yX1_areSo : MethodName := ⟨RX1, "areSo", "(LRegretLine$Train;)Z"⟩
def RX2 : String := "RegretLine$Seating"
def TX2 : u_T := fun k => match k with
  | 0 => ("RegretLine$Seating", "train", "LRegretLine$Train;", true)
  | 1 => ("RegretLine$Seating", "row", "[I", true)
  | _ => ("RegretLine$Seating", "sitting", "[I", true)
def tyX2 : Nat → FieldType := fun k => match k with
  | 0 => .object "RegretLine$Train"
  | 1 => .array .int
  | _ => .array .int
abbrev wsX20 : List Cond := u_ws RX2 TX2 3
theorem nmX2 : ∀ a, a < 3 → ∀ b, b < 3 → a ≠ b → (TX2 a).2.1 ≠ (TX2 b).2.1 := by decide +kernel
theorem tyX2_ok : ∀ k, k < 3 → parseFieldDescriptor (TX2 k).2.2.1 = some (tyX2 k) := by decide +kernel
abbrev cX2_init : ByteArray := prog_4_method_1_code
def yX2_init : MethodName := ⟨RX2, "<init>", "(LRegretLine$Train;)V"⟩
abbrev cX2_readFrom : ByteArray := prog_4_method_2_code
def yX2_readFrom : MethodName := ⟨RX2, "readFrom", "([II)Z"⟩
abbrev cX2_classOf : ByteArray := prog_4_method_3_code
def yX2_classOf : MethodName := ⟨RX2, "classOf", "(II)I"⟩
abbrev cX2_firstWrong : ByteArray := prog_4_method_4_code
def yX2_firstWrong : MethodName := ⟨RX2, "firstWrong", "()I"⟩
abbrev cX2_countChanges : ByteArray := prog_4_method_5_code
def yX2_countChanges : MethodName := ⟨RX2, "countChanges", "()I"⟩
abbrev cX2_countLow : ByteArray := prog_4_method_6_code
def yX2_countLow : MethodName := ⟨RX2, "countLow", "()I"⟩
abbrev cX2_countAbove : ByteArray := prog_4_method_7_code
def yX2_countAbove : MethodName := ⟨RX2, "countAbove", "()I"⟩
abbrev cX2_milesAbove : ByteArray := prog_4_method_8_code
def yX2_milesAbove : MethodName := ⟨RX2, "milesAbove", "(I)I"⟩
def RX3 : String := "RegretLine$Sheet"
def TX3 : u_T := fun k => match k with
  | 0 => ("RegretLine$Sheet", "cells", "[I", true)
  | 1 => ("RegretLine$Sheet", "lane", "I", false)
  | _ => ("RegretLine$Sheet", "size", "I", false)
def tyX3 : Nat → FieldType := fun k => match k with
  | 0 => .array .int
  | 1 => .int
  | _ => .int
abbrev wsX30 : List Cond := u_ws RX3 TX3 3
theorem nmX3 : ∀ a, a < 3 → ∀ b, b < 3 → a ≠ b → (TX3 a).2.1 ≠ (TX3 b).2.1 := by decide +kernel
theorem tyX3_ok : ∀ k, k < 3 → parseFieldDescriptor (TX3 k).2.2.1 = some (tyX3 k) := by decide +kernel
abbrev cX3_init : ByteArray := prog_5_method_1_code
def yX3_init : MethodName := ⟨RX3, "<init>", "()V"⟩
abbrev cX3_renew : ByteArray := prog_5_method_2_code
def yX3_renew : MethodName := ⟨RX3, "renew", "(II)V"⟩
abbrev cX3_hasNothing : ByteArray := prog_5_method_3_code
def yX3_hasNothing : MethodName := ⟨RX3, "hasNothing", "()Z"⟩
abbrev cX3_noCell : ByteArray := prog_5_method_4_code
def yX3_noCell : MethodName := ⟨RX3, "noCell", "(I)Z"⟩
abbrev cX3_lacksCells : ByteArray := prog_5_method_5_code
def yX3_lacksCells : MethodName := ⟨RX3, "lacksCells", "(II)Z"⟩
abbrev cX3_cut : ByteArray := prog_5_method_6_code
def yX3_cut : MethodName := ⟨RX3, "cut", "(I)I"⟩
abbrev cX3_faultOfRow : ByteArray := prog_5_method_7_code
def yX3_faultOfRow : MethodName := ⟨RX3, "faultOfRow", "(I)I"⟩
abbrev cX3_faultOfCells : ByteArray := prog_5_method_8_code
def yX3_faultOfCells : MethodName := ⟨RX3, "faultOfCells", "(III)I"⟩
def RX4 : String := "RegretLine$Text"
def TX4 : u_T := fun k => match k with
  | _ => ("", "", "", false)
def tyX4 : Nat → FieldType := fun k => match k with
  | _ => .int
abbrev wsX40 : List Cond := u_ws RX4 TX4 0
theorem nmX4 : ∀ a, a < 0 → ∀ b, b < 0 → a ≠ b → (TX4 a).2.1 ≠ (TX4 b).2.1 := by decide +kernel
theorem tyX4_ok : ∀ k, k < 0 → parseFieldDescriptor (TX4 k).2.2.1 = some (tyX4 k) := by decide +kernel
abbrev cX4_firstFault : ByteArray := prog_6_method_2_code
def yX4_firstFault : MethodName := ⟨RX4, "firstFault", "([III)I"⟩
abbrev cX4_fitsHead : ByteArray := prog_6_method_3_code
def yX4_fitsHead : MethodName := ⟨RX4, "fitsHead", "(II)Z"⟩
abbrev cX4_isMile : ByteArray := prog_6_method_4_code
def yX4_isMile : MethodName := ⟨RX4, "isMile", "(I)Z"⟩
abbrev cX4_fitsPassenger : ByteArray := prog_6_method_5_code
def yX4_fitsPassenger : MethodName := ⟨RX4, "fitsPassenger", "(II)Z"⟩
abbrev cX4_isDigit : ByteArray := prog_6_method_6_code
def yX4_isDigit : MethodName := ⟨RX4, "isDigit", "(II)Z"⟩
abbrev cX4_kindOf : ByteArray := prog_6_method_7_code
def yX4_kindOf : MethodName := ⟨RX4, "kindOf", "(I)I"⟩
def RX5 : String := "RegretLine$Train"
def TX5 : u_T := fun k => match k with
  | 0 => ("RegretLine$Train", "seatsOf", "[I", true)
  | 1 => ("RegretLine$Train", "tunnel", "[Z", true)
  | 2 => ("RegretLine$Train", "talker", "[I", true)
  | 3 => ("RegretLine$Train", "listener", "[I", true)
  | 4 => ("RegretLine$Train", "kind", "[I", true)
  | 5 => ("RegretLine$Train", "first", "[I", true)
  | 6 => ("RegretLine$Train", "fades", "[I", true)
  | 7 => ("RegretLine$Train", "regrets", "[[I", true)
  | 8 => ("RegretLine$Train", "miles", "I", false)
  | 9 => ("RegretLine$Train", "passengers", "I", false)
  | 10 => ("RegretLine$Train", "firstLimit", "I", false)
  | _ => ("RegretLine$Train", "secondLimit", "I", false)
def tyX5 : Nat → FieldType := fun k => match k with
  | 0 => .array .int
  | 1 => .array .boolean
  | 2 => .array .int
  | 3 => .array .int
  | 4 => .array .int
  | 5 => .array .int
  | 6 => .array .int
  | 7 => .array (.array .int)
  | 8 => .int
  | 9 => .int
  | 10 => .int
  | _ => .int
abbrev wsX50 : List Cond := u_ws RX5 TX5 12
theorem nmX5 : ∀ a, a < 12 → ∀ b, b < 12 → a ≠ b → (TX5 a).2.1 ≠ (TX5 b).2.1 := by decide +kernel
theorem tyX5_ok : ∀ k, k < 12 → parseFieldDescriptor (TX5 k).2.2.1 = some (tyX5 k) := by decide +kernel
abbrev cX5_init : ByteArray := prog_7_method_1_code
def yX5_init : MethodName := ⟨RX5, "<init>", "()V"⟩
abbrev cX5_readFrom : ByteArray := prog_7_method_2_code
def yX5_readFrom : MethodName := ⟨RX5, "readFrom", "([III)V"⟩
abbrev cX5_becomeLike : ByteArray := prog_7_method_3_code
def yX5_becomeLike : MethodName := ⟨RX5, "becomeLike", "(LRegretLine$Train;)V"⟩
abbrev cX5_rideAll : ByteArray := prog_7_method_4_code
def yX5_rideAll : MethodName := ⟨RX5, "rideAll", "()V"⟩
abbrev cX5_rideFrom : ByteArray := prog_7_method_5_code
def yX5_rideFrom : MethodName := ⟨RX5, "rideFrom", "(I)V"⟩
abbrev cX5_digAndRide : ByteArray := prog_7_method_6_code
def yX5_digAndRide : MethodName := ⟨RX5, "digAndRide", "(I)V"⟩
abbrev cX5_rideThrough : ByteArray := prog_7_method_7_code
def yX5_rideThrough : MethodName := ⟨RX5, "rideThrough", "(I)V"⟩
abbrev cX5_regretBehind : ByteArray := prog_7_method_8_code
def yX5_regretBehind : MethodName := ⟨RX5, "regretBehind", "(II)I"⟩
abbrev cX5_regretAhead : ByteArray := prog_7_method_9_code
def yX5_regretAhead : MethodName := ⟨RX5, "regretAhead", "(II)I"⟩
abbrev cX5_classDue : ByteArray := prog_7_method_10_code
def yX5_classDue : MethodName := ⟨RX5, "classDue", "(II)I"⟩
abbrev cX5_dueTogether : ByteArray := prog_7_method_11_code
def yX5_dueTogether : MethodName := ⟨RX5, "dueTogether", "(I)I"⟩
def RX6 : String := "RegretLine"
def TX6 : u_T := fun k => match k with
  | 0 => ("RegretLine", "sheets", "[LRegretLine$Sheet;", true)
  | 1 => ("RegretLine", "train", "LRegretLine$Train;", true)
  | 2 => ("RegretLine", "guess", "LRegretLine$Train;", true)
  | 3 => ("RegretLine", "readings", "LRegretLine$Readings;", true)
  | 4 => ("RegretLine", "told", "LRegretLine$Seating;", true)
  | 5 => ("RegretLine", "least", "LRegretLine$Ease;", true)
  | 6 => ("RegretLine", "leastKnown", "Z", false)
  | 7 => ("RegretLine", "traced", "I", false)
  | _ => ("RegretLine", "lastFault", "I", false)
def tyX6 : Nat → FieldType := fun k => match k with
  | 0 => .array (.object "RegretLine$Sheet")
  | 1 => .object "RegretLine$Train"
  | 2 => .object "RegretLine$Train"
  | 3 => .object "RegretLine$Readings"
  | 4 => .object "RegretLine$Seating"
  | 5 => .object "RegretLine$Ease"
  | 6 => .boolean
  | 7 => .int
  | _ => .int
abbrev wsX60 : List Cond := u_ws RX6 TX6 9
theorem nmX6 : ∀ a, a < 9 → ∀ b, b < 9 → a ≠ b → (TX6 a).2.1 ≠ (TX6 b).2.1 := by decide +kernel
theorem tyX6_ok : ∀ k, k < 9 → parseFieldDescriptor (TX6 k).2.2.1 = some (tyX6 k) := by decide +kernel
abbrev cX6_init : ByteArray := prog_1_method_1_code
def yX6_init : MethodName := ⟨RX6, "<init>", "()V"⟩
abbrev cX6_line : ByteArray := prog_1_method_2_code
def yX6_line : MethodName := ⟨RX6, "line", "(IIII)I"⟩
abbrev cX6_ofPassenger : ByteArray := prog_1_method_3_code
def yX6_ofPassenger : MethodName := ⟨RX6, "ofPassenger", "(II)I"⟩
abbrev cX6_seats : ByteArray := prog_1_method_4_code
def yX6_seats : MethodName := ⟨RX6, "seats", "(II)I"⟩
abbrev cX6_limits : ByteArray := prog_1_method_5_code
def yX6_limits : MethodName := ⟨RX6, "limits", "(II)I"⟩
abbrev cX6_dig : ByteArray := prog_1_method_6_code
def yX6_dig : MethodName := ⟨RX6, "dig", "(IZ)I"⟩
abbrev cX6_talk : ByteArray := prog_1_method_7_code
def yX6_talk : MethodName := ⟨RX6, "talk", "(III)I"⟩
abbrev cX6_regret : ByteArray := prog_1_method_8_code
def yX6_regret : MethodName := ⟨RX6, "regret", "(II)I"⟩
abbrev cX6_due : ByteArray := prog_1_method_9_code
def yX6_due : MethodName := ⟨RX6, "due", "(II)I"⟩
abbrev cX6_seating : ByteArray := prog_1_method_10_code
def yX6_seating : MethodName := ⟨RX6, "seating", "(IIIII)I"⟩
abbrev cX6_noQuestionOfSeating : ByteArray := prog_1_method_11_code
def yX6_noQuestionOfSeating : MethodName := ⟨RX6, "noQuestionOfSeating", "(I)Z"⟩
abbrev cX6_ofSeating : ByteArray := prog_1_method_12_code
def yX6_ofSeating : MethodName := ⟨RX6, "ofSeating", "(I)I"⟩
abbrev cX6_ease : ByteArray := prog_1_method_13_code
def yX6_ease : MethodName := ⟨RX6, "ease", "(I)I"⟩
abbrev cX6_stuck : ByteArray := prog_1_method_14_code
def yX6_stuck : MethodName := ⟨RX6, "stuck", "()I"⟩
abbrev cX6_help : ByteArray := prog_1_method_15_code
def yX6_help : MethodName := ⟨RX6, "help", "(III)I"⟩
abbrev cX6_knowLeast : ByteArray := prog_1_method_16_code
def yX6_knowLeast : MethodName := ⟨RX6, "knowLeast", "()V"⟩
abbrev cX6_reading : ByteArray := prog_1_method_17_code
def yX6_reading : MethodName := ⟨RX6, "reading", "(III)I"⟩
abbrev cX6_back : ByteArray := prog_1_method_18_code
def yX6_back : MethodName := ⟨RX6, "back", "(I)I"⟩
abbrev cX6_began : ByteArray := prog_1_method_19_code
def yX6_began : MethodName := ⟨RX6, "began", "(II)I"⟩
abbrev cX6_kinds : ByteArray := prog_1_method_20_code
def yX6_kinds : MethodName := ⟨RX6, "kinds", "(I)I"⟩
abbrev cX6_fadings : ByteArray := prog_1_method_21_code
def yX6_fadings : MethodName := ⟨RX6, "fadings", "(I)I"⟩
abbrev cX6_guessIsSo : ByteArray := prog_1_method_22_code
def yX6_guessIsSo : MethodName := ⟨RX6, "guessIsSo", "()Z"⟩
abbrev cX6_odds : ByteArray := prog_1_method_23_code
def yX6_odds : MethodName := ⟨RX6, "odds", "(III)J"⟩
abbrev cX6_waysToBeDue : ByteArray := prog_1_method_24_code
def yX6_waysToBeDue : MethodName := ⟨RX6, "waysToBeDue", "(II)I"⟩
abbrev cX6_sheet : ByteArray := prog_1_method_25_code
def yX6_sheet : MethodName := ⟨RX6, "sheet", "(III)I"⟩
abbrev cX6_lose : ByteArray := prog_1_method_26_code
def yX6_lose : MethodName := ⟨RX6, "lose", "(I)I"⟩
abbrev cX6_put : ByteArray := prog_1_method_27_code
def yX6_put : MethodName := ⟨RX6, "put", "(III)I"⟩
abbrev cX6_cell : ByteArray := prog_1_method_28_code
def yX6_cell : MethodName := ⟨RX6, "cell", "(III)J"⟩
abbrev cX6_copy : ByteArray := prog_1_method_29_code
def yX6_copy : MethodName := ⟨RX6, "copy", "(IIIII)I"⟩
abbrev cX6_tell : ByteArray := prog_1_method_30_code
def yX6_tell : MethodName := ⟨RX6, "tell", "(I)I"⟩
abbrev cX6_tellPassenger : ByteArray := prog_1_method_31_code
def yX6_tellPassenger : MethodName := ⟨RX6, "tellPassenger", "(I)I"⟩
abbrev cX6_tellWidow : ByteArray := prog_1_method_32_code
def yX6_tellWidow : MethodName := ⟨RX6, "tellWidow", "(I)I"⟩
abbrev cX6_tellHoneymooner : ByteArray := prog_1_method_33_code
def yX6_tellHoneymooner : MethodName := ⟨RX6, "tellHoneymooner", "(I)I"⟩
abbrev cX6_call : ByteArray := prog_1_method_34_code
def yX6_call : MethodName := ⟨RX6, "call", "(I)I"⟩
abbrev cX6_leaveTrace : ByteArray := prog_1_method_35_code
def yX6_leaveTrace : MethodName := ⟨RX6, "leaveTrace", "(I)V"⟩
abbrev cX6_as : ByteArray := prog_1_method_36_code
def yX6_as : MethodName := ⟨RX6, "as", "(II)I"⟩
abbrev cX6_trace : ByteArray := prog_1_method_37_code
def yX6_trace : MethodName := ⟨RX6, "trace", "()I"⟩
abbrev cX6_fault : ByteArray := prog_1_method_38_code
def yX6_fault : MethodName := ⟨RX6, "fault", "()I"⟩
abbrev cX6_many : ByteArray := prog_1_method_39_code
def yX6_many : MethodName := ⟨RX6, "many", "(I)I"⟩
abbrev cX6_comeTo : ByteArray := prog_1_method_40_code
def yX6_comeTo : MethodName := ⟨RX6, "comeTo", "(I)I"⟩
abbrev cX6_rideAnew : ByteArray := prog_1_method_41_code
def yX6_rideAnew : MethodName := ⟨RX6, "rideAnew", "()V"⟩
abbrev cX6_noLine : ByteArray := prog_1_method_42_code
def yX6_noLine : MethodName := ⟨RX6, "noLine", "()Z"⟩
abbrev cX6_noPassenger : ByteArray := prog_1_method_43_code
def yX6_noPassenger : MethodName := ⟨RX6, "noPassenger", "(I)Z"⟩
abbrev cX6_noPair : ByteArray := prog_1_method_44_code
def yX6_noPair : MethodName := ⟨RX6, "noPair", "(II)Z"⟩
abbrev cX6_noMile : ByteArray := prog_1_method_45_code
def yX6_noMile : MethodName := ⟨RX6, "noMile", "(I)Z"⟩
abbrev cX6_noMileNorEnd : ByteArray := prog_1_method_46_code
def yX6_noMileNorEnd : MethodName := ⟨RX6, "noMileNorEnd", "(I)Z"⟩
abbrev cX6_noClass : ByteArray := prog_1_method_47_code
def yX6_noClass : MethodName := ⟨RX6, "noClass", "(I)Z"⟩
abbrev cX6_noSheet : ByteArray := prog_1_method_48_code
def yX6_noSheet : MethodName := ⟨RX6, "noSheet", "(I)Z"⟩
abbrev cX6_noLane : ByteArray := prog_1_method_49_code
def yX6_noLane : MethodName := ⟨RX6, "noLane", "(I)Z"⟩
def RX7 : String := "RegretLineModel"
def TX7 : u_T := fun k => match k with
  | 0 => ("RegretLineModel", "fault", "I", false)
  | 1 => ("RegretLineModel", "trace", "I", false)
  | 2 => ("RegretLineModel", "sorts", "[I", true)
  | 3 => ("RegretLineModel", "sheetLong", "[I", true)
  | 4 => ("RegretLineModel", "cells", "[I", true)
  | 5 => ("RegretLineModel", "miles", "I", false)
  | 6 => ("RegretLineModel", "people", "I", false)
  | 7 => ("RegretLineModel", "first", "I", false)
  | 8 => ("RegretLineModel", "second", "I", false)
  | 9 => ("RegretLineModel", "seatsOf", "[I", true)
  | 10 => ("RegretLineModel", "isTunnel", "[Z", true)
  | 11 => ("RegretLineModel", "talksA", "[I", true)
  | 12 => ("RegretLineModel", "talksB", "[I", true)
  | 13 => ("RegretLineModel", "kind", "[I", true)
  | 14 => ("RegretLineModel", "began", "[I", true)
  | 15 => ("RegretLineModel", "fades", "[I", true)
  | 16 => ("RegretLineModel", "at", "I", false)
  | 17 => ("RegretLineModel", "readMiles", "I", false)
  | 18 => ("RegretLineModel", "readMany", "I", false)
  | 19 => ("RegretLineModel", "readSeats", "[I", true)
  | 20 => ("RegretLineModel", "readTunnel", "[Z", true)
  | 21 => ("RegretLineModel", "read", "[I", true)
  | 22 => ("RegretLineModel", "regrets", "[I", true)
  | 23 => ("RegretLineModel", "dues", "[I", true)
  | 24 => ("RegretLineModel", "trouble", "[I", true)
  | 25 => ("RegretLineModel", "unit", "[I", true)
  | 26 => ("RegretLineModel", "readings", "I", false)
  | 27 => ("RegretLineModel", "readWho", "[I", true)
  | 28 => ("RegretLineModel", "readMile", "[I", true)
  | _ => ("RegretLineModel", "readClass", "[I", true)
def tyX7 : Nat → FieldType := fun k => match k with
  | 0 => .int
  | 1 => .int
  | 2 => .array .int
  | 3 => .array .int
  | 4 => .array .int
  | 5 => .int
  | 6 => .int
  | 7 => .int
  | 8 => .int
  | 9 => .array .int
  | 10 => .array .boolean
  | 11 => .array .int
  | 12 => .array .int
  | 13 => .array .int
  | 14 => .array .int
  | 15 => .array .int
  | 16 => .int
  | 17 => .int
  | 18 => .int
  | 19 => .array .int
  | 20 => .array .boolean
  | 21 => .array .int
  | 22 => .array .int
  | 23 => .array .int
  | 24 => .array .int
  | 25 => .array .int
  | 26 => .int
  | 27 => .array .int
  | 28 => .array .int
  | _ => .array .int
abbrev wsX70 : List Cond := u_ws RX7 TX7 30
theorem nmX7 : ∀ a, a < 30 → ∀ b, b < 30 → a ≠ b → (TX7 a).2.1 ≠ (TX7 b).2.1 := by decide +kernel
theorem tyX7_ok : ∀ k, k < 30 → parseFieldDescriptor (TX7 k).2.2.1 = some (tyX7 k) := by decide +kernel
abbrev cX7_init : ByteArray := prog_9_method_1_code
def yX7_init : MethodName := ⟨RX7, "<init>", "()V"⟩
abbrev cX7_fails : ByteArray := prog_9_method_3_code
def yX7_fails : MethodName := ⟨RX7, "fails", "(I)I"⟩
abbrev cX7_lost : ByteArray := prog_9_method_4_code
def yX7_lost : MethodName := ⟨RX7, "lost", "(I)J"⟩
abbrev cX7_within : ByteArray := prog_9_method_5_code
def yX7_within : MethodName := ⟨RX7, "within", "(III)Z"⟩
abbrev cX7_isSheet : ByteArray := prog_9_method_6_code
def yX7_isSheet : MethodName := ⟨RX7, "isSheet", "(I)Z"⟩
abbrev cX7_isSort : ByteArray := prog_9_method_7_code
def yX7_isSort : MethodName := ⟨RX7, "isSort", "(I)Z"⟩
abbrev cX7_against : ByteArray := prog_9_method_8_code
def yX7_against : MethodName := ⟨RX7, "against", "(IIII)I"⟩
abbrev cX7_isPassenger : ByteArray := prog_9_method_9_code
def yX7_isPassenger : MethodName := ⟨RX7, "isPassenger", "(I)Z"⟩
abbrev cX7_isMile : ByteArray := prog_9_method_10_code
def yX7_isMile : MethodName := ⟨RX7, "isMile", "(I)Z"⟩
abbrev cX7_digit : ByteArray := prog_9_method_11_code
def yX7_digit : MethodName := ⟨RX7, "digit", "(III)I"⟩
abbrev cX7_isSign : ByteArray := prog_9_method_12_code
def yX7_isSign : MethodName := ⟨RX7, "isSign", "(II)Z"⟩
abbrev cX7_line : ByteArray := prog_9_method_13_code
def yX7_line : MethodName := ⟨RX7, "line", "(IIII)I"⟩
abbrev cX7_takeLine : ByteArray := prog_9_method_14_code
def yX7_takeLine : MethodName := ⟨RX7, "takeLine", "()V"⟩
abbrev cX7_readLine : ByteArray := prog_9_method_15_code
def yX7_readLine : MethodName := ⟨RX7, "readLine", "(I)Z"⟩
abbrev cX7_readPassenger : ByteArray := prog_9_method_16_code
def yX7_readPassenger : MethodName := ⟨RX7, "readPassenger", "(I)Z"⟩
abbrev cX7_ofPassenger : ByteArray := prog_9_method_17_code
def yX7_ofPassenger : MethodName := ⟨RX7, "ofPassenger", "(II)I"⟩
abbrev cX7_seats : ByteArray := prog_9_method_18_code
def yX7_seats : MethodName := ⟨RX7, "seats", "(II)I"⟩
abbrev cX7_limits : ByteArray := prog_9_method_19_code
def yX7_limits : MethodName := ⟨RX7, "limits", "(II)I"⟩
abbrev cX7_dig : ByteArray := prog_9_method_20_code
def yX7_dig : MethodName := ⟨RX7, "dig", "(IZ)I"⟩
abbrev cX7_talk : ByteArray := prog_9_method_21_code
def yX7_talk : MethodName := ⟨RX7, "talk", "(III)I"⟩
abbrev cX7_bounded : ByteArray := prog_9_method_22_code
def yX7_bounded : MethodName := ⟨RX7, "bounded", "(I)I"⟩
abbrev cX7_changes : ByteArray := prog_9_method_23_code
def yX7_changes : MethodName := ⟨RX7, "changes", "(IZ)I"⟩
abbrev cX7_goMile : ByteArray := prog_9_method_24_code
def yX7_goMile : MethodName := ⟨RX7, "goMile", "(IZ)V"⟩
abbrev cX7_begin : ByteArray := prog_9_method_25_code
def yX7_begin : MethodName := ⟨RX7, "begin", "()V"⟩
abbrev cX7_goTo : ByteArray := prog_9_method_26_code
def yX7_goTo : MethodName := ⟨RX7, "goTo", "(I)V"⟩
abbrev cX7_dueBy : ByteArray := prog_9_method_27_code
def yX7_dueBy : MethodName := ⟨RX7, "dueBy", "(I)I"⟩
abbrev cX7_regret : ByteArray := prog_9_method_28_code
def yX7_regret : MethodName := ⟨RX7, "regret", "(II)I"⟩
abbrev cX7_due : ByteArray := prog_9_method_29_code
def yX7_due : MethodName := ⟨RX7, "due", "(II)I"⟩
abbrev cX7_layDues : ByteArray := prog_9_method_30_code
def yX7_layDues : MethodName := ⟨RX7, "layDues", "()V"⟩
abbrev cX7_seatedIn : ByteArray := prog_9_method_31_code
def yX7_seatedIn : MethodName := ⟨RX7, "seatedIn", "(II)I"⟩
abbrev cX7_wrongBy : ByteArray := prog_9_method_32_code
def yX7_wrongBy : MethodName := ⟨RX7, "wrongBy", "(I)I"⟩
abbrev cX7_changesBy : ByteArray := prog_9_method_33_code
def yX7_changesBy : MethodName := ⟨RX7, "changesBy", "(I)I"⟩
abbrev cX7_lowBy : ByteArray := prog_9_method_34_code
def yX7_lowBy : MethodName := ⟨RX7, "lowBy", "(I)I"⟩
abbrev cX7_aboveBy : ByteArray := prog_9_method_35_code
def yX7_aboveBy : MethodName := ⟨RX7, "aboveBy", "(II)I"⟩
abbrev cX7_seating : ByteArray := prog_9_method_36_code
def yX7_seating : MethodName := ⟨RX7, "seating", "(IIIII)I"⟩
abbrev cX7_tellSeating : ByteArray := prog_9_method_37_code
def yX7_tellSeating : MethodName := ⟨RX7, "tellSeating", "(II)I"⟩
abbrev cX7_rows : ByteArray := prog_9_method_38_code
def yX7_rows : MethodName := ⟨RX7, "rows", "()I"⟩
abbrev cX7_place : ByteArray := prog_9_method_39_code
def yX7_place : MethodName := ⟨RX7, "place", "(II)I"⟩
abbrev cX7_lowIn : ByteArray := prog_9_method_40_code
def yX7_lowIn : MethodName := ⟨RX7, "lowIn", "(II)I"⟩
abbrev cX7_changed : ByteArray := prog_9_method_41_code
def yX7_changed : MethodName := ⟨RX7, "changed", "(II)I"⟩
abbrev cX7_bestBehind : ByteArray := prog_9_method_42_code
def yX7_bestBehind : MethodName := ⟨RX7, "bestBehind", "(III)I"⟩
abbrev cX7_findEase : ByteArray := prog_9_method_43_code
def yX7_findEase : MethodName := ⟨RX7, "findEase", "(I)V"⟩
abbrev cX7_bestRow : ByteArray := prog_9_method_44_code
def yX7_bestRow : MethodName := ⟨RX7, "bestRow", "(III)I"⟩
abbrev cX7_ease : ByteArray := prog_9_method_45_code
def yX7_ease : MethodName := ⟨RX7, "ease", "(I)I"⟩
abbrev cX7_stuck : ByteArray := prog_9_method_46_code
def yX7_stuck : MethodName := ⟨RX7, "stuck", "()I"⟩
abbrev cX7_dueTogether : ByteArray := prog_9_method_47_code
def yX7_dueTogether : MethodName := ⟨RX7, "dueTogether", "(II)I"⟩
abbrev cX7_help : ByteArray := prog_9_method_48_code
def yX7_help : MethodName := ⟨RX7, "help", "(III)I"⟩
abbrev cX7_reading : ByteArray := prog_9_method_49_code
def yX7_reading : MethodName := ⟨RX7, "reading", "(III)I"⟩
abbrev cX7_back : ByteArray := prog_9_method_50_code
def yX7_back : MethodName := ⟨RX7, "back", "(I)I"⟩
abbrev cX7_areSoIn : ByteArray := prog_9_method_51_code
def yX7_areSoIn : MethodName := ⟨RX7, "areSoIn", "(I)Z"⟩
abbrev cX7_areSo : ByteArray := prog_9_method_52_code
def yX7_areSo : MethodName := ⟨RX7, "areSo", "()Z"⟩
abbrev cX7_began : ByteArray := prog_9_method_53_code
def yX7_began : MethodName := ⟨RX7, "began", "(II)I"⟩
abbrev cX7_kinds : ByteArray := prog_9_method_54_code
def yX7_kinds : MethodName := ⟨RX7, "kinds", "(I)I"⟩
abbrev cX7_fadings : ByteArray := prog_9_method_55_code
def yX7_fadings : MethodName := ⟨RX7, "fadings", "(I)I"⟩
abbrev cX7_inLeastTerms : ByteArray := prog_9_method_56_code
def yX7_inLeastTerms : MethodName := ⟨RX7, "inLeastTerms", "(JJI)J"⟩
abbrev cX7_odds : ByteArray := prog_9_method_57_code
def yX7_odds : MethodName := ⟨RX7, "odds", "(III)J"⟩
abbrev cX7_sheet : ByteArray := prog_9_method_58_code
def yX7_sheet : MethodName := ⟨RX7, "sheet", "(III)I"⟩
abbrev cX7_lose : ByteArray := prog_9_method_59_code
def yX7_lose : MethodName := ⟨RX7, "lose", "(I)I"⟩
abbrev cX7_put : ByteArray := prog_9_method_60_code
def yX7_put : MethodName := ⟨RX7, "put", "(III)I"⟩
abbrev cX7_cell : ByteArray := prog_9_method_61_code
def yX7_cell : MethodName := ⟨RX7, "cell", "(III)J"⟩
abbrev cX7_copy : ByteArray := prog_9_method_62_code
def yX7_copy : MethodName := ⟨RX7, "copy", "(IIIII)I"⟩
abbrev cX7_begins : ByteArray := prog_9_method_63_code
def yX7_begins : MethodName := ⟨RX7, "begins", "(I)V"⟩
abbrev cX7_tell : ByteArray := prog_9_method_64_code
def yX7_tell : MethodName := ⟨RX7, "tell", "(I)I"⟩
abbrev cX7_call : ByteArray := prog_9_method_65_code
def yX7_call : MethodName := ⟨RX7, "call", "(I)I"⟩
abbrev cX7_as : ByteArray := prog_9_method_66_code
def yX7_as : MethodName := ⟨RX7, "as", "(II)I"⟩
abbrev cX7_trace : ByteArray := prog_9_method_67_code
def yX7_trace : MethodName := ⟨RX7, "trace", "()I"⟩
abbrev cX7_fault : ByteArray := prog_9_method_68_code
def yX7_fault : MethodName := ⟨RX7, "fault", "()I"⟩
abbrev cX7_many : ByteArray := prog_9_method_69_code
def yX7_many : MethodName := ⟨RX7, "many", "(I)I"⟩
def RJ9 : String := "java/lang/Math"
def TJ9 : u_T := fun k => match k with
  | _ => ("", "", "", false)
def tyJ9 : Nat → FieldType := fun k => match k with
  | _ => .int
abbrev wsJ90 : List Cond := u_ws RJ9 TJ9 0
theorem nmJ9 : ∀ a, a < 0 → ∀ b, b < 0 → a ≠ b → (TJ9 a).2.1 ≠ (TJ9 b).2.1 := by decide +kernel
theorem tyJ9_ok : ∀ k, k < 0 → parseFieldDescriptor (TJ9 k).2.2.1 = some (tyJ9 k) := by decide +kernel
abbrev cJ9_max_7cf53 : ByteArray := prog_10_method_65_code
def yJ9_max_7cf53 : MethodName := ⟨RJ9, "max", "(II)I"⟩
abbrev cJ9_min_7cf53 : ByteArray := prog_10_method_69_code
def yJ9_min_7cf53 : MethodName := ⟨RJ9, "min", "(II)I"⟩
def RJ10 : String := "java/lang/System"
def TJ10 : u_T := fun k => match k with
  | _ => ("", "", "", false)
def tyJ10 : Nat → FieldType := fun k => match k with
  | _ => .int
abbrev wsJ100 : List Cond := u_ws RJ10 TJ10 0
theorem nmJ10 : ∀ a, a < 0 → ∀ b, b < 0 → a ≠ b → (TJ10 a).2.1 ≠ (TJ10 b).2.1 := by decide +kernel
theorem tyJ10_ok : ∀ k, k < 0 → parseFieldDescriptor (TJ10 k).2.2.1 = some (tyJ10 k) := by decide +kernel
def RJ7 : String := "java/util/Arrays"
def TJ7 : u_T := fun k => match k with
  | _ => ("", "", "", false)
def tyJ7 : Nat → FieldType := fun k => match k with
  | _ => .int
abbrev wsJ70 : List Cond := u_ws RJ7 TJ7 0
theorem nmJ7 : ∀ a, a < 0 → ∀ b, b < 0 → a ≠ b → (TJ7 a).2.1 ≠ (TJ7 b).2.1 := by decide +kernel
theorem tyJ7_ok : ∀ k, k < 0 → parseFieldDescriptor (TJ7 k).2.2.1 = some (tyJ7 k) := by decide +kernel
abbrev cJ7_fill_53178 : ByteArray := prog_12_method_103_code
def yJ7_fill_53178 : MethodName := ⟨RJ7, "fill", "([II)V"⟩
def RL : String := "RegretLineLaw"
abbrev cL_law : ByteArray := code
def yL_law : MethodName := ⟨RL, "law", "([I)Z"⟩
abbrev vwCl : List vw_C := [(RX0, TX0, 8), (RX1, TX1, 4), (RX2, TX2, 3), (RX3, TX3, 3), (RX5, TX5, 12), (RX6, TX6, 9), (RX7, TX7, 30)]
/-- the tables' words that every state keeps -/
def am_BW : List Cond := lw_tbl.filter goodWord
theorem am_BW_good : GoodIn lw_tbl am_BW := fun w h => ⟨(List.mem_filter.mp h).1, good_of_word (List.mem_filter.mp h).2⟩
theorem am_BW_self : GoodIn am_BW am_BW := fun w h => ⟨h, good_of_word (List.mem_filter.mp h).2⟩
theorem am_BW_i {w : Cond} (i : Nat) (h : lw_tbl[i]? = some w) (g : goodWord w = true) : w ∈ am_BW := List.mem_filter.mpr ⟨List.mem_of_getElem? h, g⟩
theorem wE_yX6_rideAnew : Cond.selects RX6 yX6_rideAnew yX6_rideAnew ∈ am_BW := am_BW_i 0 rfl rfl
theorem wE_yX5_regretBehind : Cond.selects RX5 yX5_regretBehind yX5_regretBehind ∈ am_BW := am_BW_i 1 rfl rfl
theorem wE_yX6_noPassenger : Cond.selects RX6 yX6_noPassenger yX6_noPassenger ∈ am_BW := am_BW_i 2 rfl rfl
theorem wE_yX6_noLine : Cond.selects RX6 yX6_noLine yX6_noLine ∈ am_BW := am_BW_i 3 rfl rfl
theorem wE_yX6_noMile : Cond.selects RX6 yX6_noMile yX6_noMile ∈ am_BW := am_BW_i 4 rfl rfl
theorem wE_yX6_noPair : Cond.selects RX6 yX6_noPair yX6_noPair ∈ am_BW := am_BW_i 5 rfl rfl
theorem wE_yX6_noMileNorEnd : Cond.selects RX6 yX6_noMileNorEnd yX6_noMileNorEnd ∈ am_BW := am_BW_i 6 rfl rfl
theorem wE_yX6_ofSeating : Cond.selects RX6 yX6_ofSeating yX6_ofSeating ∈ am_BW := am_BW_i 7 rfl rfl
theorem wE_yX2_classOf : Cond.selects RX2 yX2_classOf yX2_classOf ∈ am_BW := am_BW_i 8 rfl rfl
theorem wE_yX6_knowLeast : Cond.selects RX6 yX6_knowLeast yX6_knowLeast ∈ am_BW := am_BW_i 9 rfl rfl
theorem wE_yX0_weigh : Cond.selects RX0 yX0_weigh yX0_weigh ∈ am_BW := am_BW_i 10 rfl rfl
theorem wE_yX0_lowIn : Cond.selects RX0 yX0_lowIn yX0_lowIn ∈ am_BW := am_BW_i 11 rfl rfl
theorem wE_yX0_lookBack : Cond.selects RX0 yX0_lookBack yX0_lookBack ∈ am_BW := am_BW_i 12 rfl rfl
theorem wE_yX0_letChange : Cond.selects RX0 yX0_letChange yX0_letChange ∈ am_BW := am_BW_i 13 rfl rfl
theorem wE_yX0_choose : Cond.selects RX0 yX0_choose yX0_choose ∈ am_BW := am_BW_i 14 rfl rfl
theorem wE_yX0_firstOfLeast : Cond.selects RX0 yX0_firstOfLeast yX0_firstOfLeast ∈ am_BW := am_BW_i 15 rfl rfl
theorem wE_yX0_write : Cond.selects RX0 yX0_write yX0_write ∈ am_BW := am_BW_i 16 rfl rfl
theorem wE_yX6_guessIsSo : Cond.selects RX6 yX6_guessIsSo yX6_guessIsSo ∈ am_BW := am_BW_i 17 rfl rfl
theorem wE_yX6_waysToBeDue : Cond.selects RX6 yX6_waysToBeDue yX6_waysToBeDue ∈ am_BW := am_BW_i 18 rfl rfl
theorem wE_yX6_comeTo : Cond.selects RX6 yX6_comeTo yX6_comeTo ∈ am_BW := am_BW_i 19 rfl rfl
theorem wE_yX6_tellHoneymooner : Cond.selects RX6 yX6_tellHoneymooner yX6_tellHoneymooner ∈ am_BW := am_BW_i 20 rfl rfl
theorem wE_yX6_leaveTrace : Cond.selects RX6 yX6_leaveTrace yX6_leaveTrace ∈ am_BW := am_BW_i 21 rfl rfl
theorem wE_yX6_tellWidow : Cond.selects RX6 yX6_tellWidow yX6_tellWidow ∈ am_BW := am_BW_i 22 rfl rfl
theorem wE_yX6_tellPassenger : Cond.selects RX6 yX6_tellPassenger yX6_tellPassenger ∈ am_BW := am_BW_i 23 rfl rfl
theorem wE_yX7_against : Cond.selects RX7 yX7_against yX7_against ∈ am_BW := am_BW_i 24 rfl rfl
theorem wE_yX7_fails : Cond.selects RX7 yX7_fails yX7_fails ∈ am_BW := am_BW_i 25 rfl rfl
theorem wE_yX7_readLine : Cond.selects RX7 yX7_readLine yX7_readLine ∈ am_BW := am_BW_i 26 rfl rfl
theorem wE_yX7_isSign : Cond.selects RX7 yX7_isSign yX7_isSign ∈ am_BW := am_BW_i 27 rfl rfl
theorem wE_yX7_digit : Cond.selects RX7 yX7_digit yX7_digit ∈ am_BW := am_BW_i 28 rfl rfl
theorem wE_yX7_readPassenger : Cond.selects RX7 yX7_readPassenger yX7_readPassenger ∈ am_BW := am_BW_i 29 rfl rfl
theorem wE_yX7_takeLine : Cond.selects RX7 yX7_takeLine yX7_takeLine ∈ am_BW := am_BW_i 30 rfl rfl
theorem wE_yX7_isPassenger : Cond.selects RX7 yX7_isPassenger yX7_isPassenger ∈ am_BW := am_BW_i 31 rfl rfl
theorem wE_yX7_isMile : Cond.selects RX7 yX7_isMile yX7_isMile ∈ am_BW := am_BW_i 32 rfl rfl
theorem wE_yX7_goTo : Cond.selects RX7 yX7_goTo yX7_goTo ∈ am_BW := am_BW_i 33 rfl rfl
theorem wE_yX7_begin : Cond.selects RX7 yX7_begin yX7_begin ∈ am_BW := am_BW_i 34 rfl rfl
theorem wE_yX7_goMile : Cond.selects RX7 yX7_goMile yX7_goMile ∈ am_BW := am_BW_i 35 rfl rfl
theorem wE_yX7_changes : Cond.selects RX7 yX7_changes yX7_changes ∈ am_BW := am_BW_i 36 rfl rfl
theorem wE_yX7_dueBy : Cond.selects RX7 yX7_dueBy yX7_dueBy ∈ am_BW := am_BW_i 37 rfl rfl
theorem wE_yX7_wrongBy : Cond.selects RX7 yX7_wrongBy yX7_wrongBy ∈ am_BW := am_BW_i 38 rfl rfl
theorem wE_yX7_seatedIn : Cond.selects RX7 yX7_seatedIn yX7_seatedIn ∈ am_BW := am_BW_i 39 rfl rfl
theorem wE_yX7_tellSeating : Cond.selects RX7 yX7_tellSeating yX7_tellSeating ∈ am_BW := am_BW_i 40 rfl rfl
theorem wE_yX7_layDues : Cond.selects RX7 yX7_layDues yX7_layDues ∈ am_BW := am_BW_i 41 rfl rfl
theorem wE_yX7_changesBy : Cond.selects RX7 yX7_changesBy yX7_changesBy ∈ am_BW := am_BW_i 42 rfl rfl
theorem wE_yX7_lowBy : Cond.selects RX7 yX7_lowBy yX7_lowBy ∈ am_BW := am_BW_i 43 rfl rfl
theorem wE_yX7_aboveBy : Cond.selects RX7 yX7_aboveBy yX7_aboveBy ∈ am_BW := am_BW_i 44 rfl rfl
theorem wE_yX7_rows : Cond.selects RX7 yX7_rows yX7_rows ∈ am_BW := am_BW_i 45 rfl rfl
theorem wE_yX7_findEase : Cond.selects RX7 yX7_findEase yX7_findEase ∈ am_BW := am_BW_i 46 rfl rfl
theorem wE_yX7_lowIn : Cond.selects RX7 yX7_lowIn yX7_lowIn ∈ am_BW := am_BW_i 47 rfl rfl
theorem wE_yX7_place : Cond.selects RX7 yX7_place yX7_place ∈ am_BW := am_BW_i 48 rfl rfl
theorem wE_yX7_bestBehind : Cond.selects RX7 yX7_bestBehind yX7_bestBehind ∈ am_BW := am_BW_i 49 rfl rfl
theorem wE_yX7_changed : Cond.selects RX7 yX7_changed yX7_changed ∈ am_BW := am_BW_i 50 rfl rfl
theorem wE_yX7_bestRow : Cond.selects RX7 yX7_bestRow yX7_bestRow ∈ am_BW := am_BW_i 51 rfl rfl
theorem wE_yX7_dueTogether : Cond.selects RX7 yX7_dueTogether yX7_dueTogether ∈ am_BW := am_BW_i 52 rfl rfl
theorem wE_yX7_areSo : Cond.selects RX7 yX7_areSo yX7_areSo ∈ am_BW := am_BW_i 53 rfl rfl
theorem wE_yX7_areSoIn : Cond.selects RX7 yX7_areSoIn yX7_areSoIn ∈ am_BW := am_BW_i 54 rfl rfl
theorem wE_yX7_lost : Cond.selects RX7 yX7_lost yX7_lost ∈ am_BW := am_BW_i 55 rfl rfl
theorem wE_yX7_begins : Cond.selects RX7 yX7_begins yX7_begins ∈ am_BW := am_BW_i 56 rfl rfl
theorem wI_L : Cond.initialized RL ∈ am_BW := am_BW_i 57 rfl rfl
theorem wI_X6 : Cond.initialized RX6 ∈ am_BW := am_BW_i 58 rfl rfl
theorem wI_X3 : Cond.initialized RX3 ∈ am_BW := am_BW_i 59 rfl rfl
theorem wI_X5 : Cond.initialized RX5 ∈ am_BW := am_BW_i 60 rfl rfl
theorem wI_X1 : Cond.initialized RX1 ∈ am_BW := am_BW_i 61 rfl rfl
theorem wI_X2 : Cond.initialized RX2 ∈ am_BW := am_BW_i 62 rfl rfl
theorem wI_X0 : Cond.initialized RX0 ∈ am_BW := am_BW_i 63 rfl rfl
theorem wI_X7 : Cond.initialized RX7 ∈ am_BW := am_BW_i 64 rfl rfl
theorem wI_X4 : Cond.initialized RX4 ∈ am_BW := am_BW_i 65 rfl rfl
theorem wI_J7 : Cond.initialized RJ7 ∈ am_BW := am_BW_i 66 rfl rfl
theorem wI_J10 : Cond.initialized RJ10 ∈ am_BW := am_BW_i 67 rfl rfl
theorem wI_J9 : Cond.initialized RJ9 ∈ am_BW := am_BW_i 68 rfl rfl
theorem wK_L_7 : Cond.classLink RL 7 RX6 ∈ am_BW := am_BW_i 69 rfl rfl
theorem wT_X6 : Cond.instantiable RX6 9 ∈ lw_tbl := List.mem_of_getElem? (i := 70) rfl
theorem wM_L_9 : Cond.methodLink RL 9 yX6_init ∈ am_BW := am_BW_i 71 rfl rfl
theorem wN_yX6_init : Cond.instanceMethod yX6_init ∈ am_BW := am_BW_i 72 rfl rfl
theorem wC_yX6_init : Cond.code yX6_init cX6_init 2 none ∈ am_BW := am_BW_i 73 rfl rfl
theorem wM_X6_3 : Cond.methodLink RX6 3 objectInit ∈ am_BW := am_BW_i 74 rfl rfl
theorem wN_objectInit : Cond.instanceMethod objectInit ∈ am_BW := am_BW_i 75 rfl rfl
theorem wC_objectInit : Cond.code objectInit object_method_1_code 1 none ∈ am_BW := am_BW_i 76 rfl rfl
theorem wK_X6_11 : Cond.classLink RX6 11 RX3 ∈ am_BW := am_BW_i 77 rfl rfl
theorem wO_78 : Cond.arrayOver (FieldType.object "RegretLine$Sheet") ∈ lw_tbl := List.mem_of_getElem? (i := 78) rfl
theorem wT_X3 : Cond.instantiable RX3 3 ∈ lw_tbl := List.mem_of_getElem? (i := 79) rfl
theorem wMN_X6_17 : Cond.methodLinkNest RX6 17 yX3_init RX6 ∈ lw_tbl := List.mem_of_getElem? (i := 80) rfl
theorem wN_yX3_init : Cond.instanceMethod yX3_init ∈ am_BW := am_BW_i 81 rfl rfl
theorem wC_yX3_init : Cond.code yX3_init cX3_init 1 none ∈ am_BW := am_BW_i 82 rfl rfl
theorem wM_X3_3 : Cond.methodLink RX3 3 objectInit ∈ am_BW := am_BW_i 83 rfl rfl
theorem wF_X3_9 : Cond.fieldLink RX3 9 "RegretLine$Sheet" "cells" "[I" ∈ am_BW := am_BW_i 84 rfl rfl
theorem wF_X6_73 : Cond.fieldLink RX6 73 "RegretLine$Sheet" "cells" "[I" ∈ am_BW := am_BW_i 85 rfl rfl
theorem wF_X3_15 : Cond.fieldLink RX3 15 "RegretLine$Sheet" "lane" "I" ∈ am_BW := am_BW_i 86 rfl rfl
theorem wF_X6_236 : Cond.fieldLink RX6 236 "RegretLine$Sheet" "lane" "I" ∈ am_BW := am_BW_i 87 rfl rfl
theorem wF_X3_19 : Cond.fieldLink RX3 19 "RegretLine$Sheet" "size" "I" ∈ am_BW := am_BW_i 88 rfl rfl
theorem wA_int : Cond.arrayClass .int ∈ am_BW := am_BW_i 96 rfl rfl
theorem wK_X6_18 : Cond.classLink RX6 18 RX5 ∈ am_BW := am_BW_i 97 rfl rfl
theorem wT_X5 : Cond.instantiable RX5 12 ∈ lw_tbl := List.mem_of_getElem? (i := 98) rfl
theorem wMN_X6_20 : Cond.methodLinkNest RX6 20 yX5_init RX6 ∈ lw_tbl := List.mem_of_getElem? (i := 99) rfl
theorem wN_yX5_init : Cond.instanceMethod yX5_init ∈ am_BW := am_BW_i 100 rfl rfl
theorem wC_yX5_init : Cond.code yX5_init cX5_init 1 none ∈ am_BW := am_BW_i 101 rfl rfl
theorem wM_X5_3 : Cond.methodLink RX5 3 objectInit ∈ am_BW := am_BW_i 102 rfl rfl
theorem wK_X5_34 : Cond.classLink RX5 34 "[[I" ∈ am_BW := am_BW_i 103 rfl rfl
theorem wO_104 : Cond.arrayOver (FieldType.array FieldType.int) ∈ lw_tbl := List.mem_of_getElem? (i := 104) rfl
theorem wF_X5_9 : Cond.fieldLink RX5 9 "RegretLine$Train" "seatsOf" "[I" ∈ am_BW := am_BW_i 105 rfl rfl
theorem wF_X6_115 : Cond.fieldLink RX6 115 "RegretLine$Train" "seatsOf" "[I" ∈ am_BW := am_BW_i 106 rfl rfl
theorem wF_X2_45 : Cond.fieldLink RX2 45 "RegretLine$Train" "seatsOf" "[I" ∈ am_BW := am_BW_i 107 rfl rfl
theorem wF_X0_77 : Cond.fieldLink RX0 77 "RegretLine$Train" "seatsOf" "[I" ∈ am_BW := am_BW_i 108 rfl rfl
theorem wF_X5_15 : Cond.fieldLink RX5 15 "RegretLine$Train" "tunnel" "[Z" ∈ am_BW := am_BW_i 109 rfl rfl
theorem wF_X6_127 : Cond.fieldLink RX6 127 "RegretLine$Train" "tunnel" "[Z" ∈ am_BW := am_BW_i 110 rfl rfl
theorem wF_X5_19 : Cond.fieldLink RX5 19 "RegretLine$Train" "talker" "[I" ∈ am_BW := am_BW_i 111 rfl rfl
theorem wF_X6_135 : Cond.fieldLink RX6 135 "RegretLine$Train" "talker" "[I" ∈ am_BW := am_BW_i 112 rfl rfl
theorem wF_X5_22 : Cond.fieldLink RX5 22 "RegretLine$Train" "listener" "[I" ∈ am_BW := am_BW_i 113 rfl rfl
theorem wF_X6_138 : Cond.fieldLink RX6 138 "RegretLine$Train" "listener" "[I" ∈ am_BW := am_BW_i 114 rfl rfl
theorem wF_X5_25 : Cond.fieldLink RX5 25 "RegretLine$Train" "kind" "[I" ∈ am_BW := am_BW_i 115 rfl rfl
theorem wF_X6_99 : Cond.fieldLink RX6 99 "RegretLine$Train" "kind" "[I" ∈ am_BW := am_BW_i 116 rfl rfl
theorem wF_X5_28 : Cond.fieldLink RX5 28 "RegretLine$Train" "first" "[I" ∈ am_BW := am_BW_i 117 rfl rfl
theorem wF_X6_102 : Cond.fieldLink RX6 102 "RegretLine$Train" "first" "[I" ∈ am_BW := am_BW_i 118 rfl rfl
theorem wF_X5_31 : Cond.fieldLink RX5 31 "RegretLine$Train" "fades" "[I" ∈ am_BW := am_BW_i 119 rfl rfl
theorem wF_X6_105 : Cond.fieldLink RX6 105 "RegretLine$Train" "fades" "[I" ∈ am_BW := am_BW_i 120 rfl rfl
theorem wF_X5_36 : Cond.fieldLink RX5 36 "RegretLine$Train" "regrets" "[[I" ∈ am_BW := am_BW_i 121 rfl rfl
theorem wF_X5_39 : Cond.fieldLink RX5 39 "RegretLine$Train" "miles" "I" ∈ am_BW := am_BW_i 122 rfl rfl
theorem wF_X2_22 : Cond.fieldLink RX2 22 "RegretLine$Train" "miles" "I" ∈ am_BW := am_BW_i 123 rfl rfl
theorem wF_X0_51 : Cond.fieldLink RX0 51 "RegretLine$Train" "miles" "I" ∈ am_BW := am_BW_i 124 rfl rfl
theorem wF_X6_154 : Cond.fieldLink RX6 154 "RegretLine$Train" "miles" "I" ∈ am_BW := am_BW_i 125 rfl rfl
theorem wF_X5_43 : Cond.fieldLink RX5 43 "RegretLine$Train" "passengers" "I" ∈ am_BW := am_BW_i 126 rfl rfl
theorem wF_X2_28 : Cond.fieldLink RX2 28 "RegretLine$Train" "passengers" "I" ∈ am_BW := am_BW_i 127 rfl rfl
theorem wF_X0_40 : Cond.fieldLink RX0 40 "RegretLine$Train" "passengers" "I" ∈ am_BW := am_BW_i 128 rfl rfl
theorem wF_X6_93 : Cond.fieldLink RX6 93 "RegretLine$Train" "passengers" "I" ∈ am_BW := am_BW_i 129 rfl rfl
theorem wF_X5_46 : Cond.fieldLink RX5 46 "RegretLine$Train" "firstLimit" "I" ∈ am_BW := am_BW_i 130 rfl rfl
theorem wF_X6_118 : Cond.fieldLink RX6 118 "RegretLine$Train" "firstLimit" "I" ∈ am_BW := am_BW_i 131 rfl rfl
theorem wF_X5_49 : Cond.fieldLink RX5 49 "RegretLine$Train" "secondLimit" "I" ∈ am_BW := am_BW_i 132 rfl rfl
theorem wF_X6_121 : Cond.fieldLink RX6 121 "RegretLine$Train" "secondLimit" "I" ∈ am_BW := am_BW_i 133 rfl rfl
theorem wA_boolean : Cond.arrayClass .boolean ∈ am_BW := am_BW_i 159 rfl rfl
theorem wK_X6_28 : Cond.classLink RX6 28 RX1 ∈ am_BW := am_BW_i 160 rfl rfl
theorem wT_X1 : Cond.instantiable RX1 4 ∈ lw_tbl := List.mem_of_getElem? (i := 161) rfl
theorem wMN_X6_30 : Cond.methodLinkNest RX6 30 yX1_init RX6 ∈ lw_tbl := List.mem_of_getElem? (i := 162) rfl
theorem wN_yX1_init : Cond.instanceMethod yX1_init ∈ am_BW := am_BW_i 163 rfl rfl
theorem wC_yX1_init : Cond.code yX1_init cX1_init 1 none ∈ am_BW := am_BW_i 164 rfl rfl
theorem wM_X1_3 : Cond.methodLink RX1 3 objectInit ∈ am_BW := am_BW_i 165 rfl rfl
theorem wF_X1_9 : Cond.fieldLink RX1 9 "RegretLine$Readings" "who" "[I" ∈ am_BW := am_BW_i 166 rfl rfl
theorem wF_X1_15 : Cond.fieldLink RX1 15 "RegretLine$Readings" "where" "[I" ∈ am_BW := am_BW_i 167 rfl rfl
theorem wF_X1_18 : Cond.fieldLink RX1 18 "RegretLine$Readings" "seen" "[I" ∈ am_BW := am_BW_i 168 rfl rfl
theorem wF_X1_21 : Cond.fieldLink RX1 21 "RegretLine$Readings" "count" "I" ∈ am_BW := am_BW_i 169 rfl rfl
theorem wF_X6_87 : Cond.fieldLink RX6 87 "RegretLine$Readings" "count" "I" ∈ am_BW := am_BW_i 170 rfl rfl
theorem wK_X6_35 : Cond.classLink RX6 35 RX2 ∈ am_BW := am_BW_i 180 rfl rfl
theorem wT_X2 : Cond.instantiable RX2 3 ∈ lw_tbl := List.mem_of_getElem? (i := 181) rfl
theorem wM_X6_37 : Cond.methodLink RX6 37 yX2_init ∈ am_BW := am_BW_i 182 rfl rfl
theorem wN_yX2_init : Cond.instanceMethod yX2_init ∈ am_BW := am_BW_i 183 rfl rfl
theorem wC_yX2_init : Cond.code yX2_init cX2_init 2 none ∈ am_BW := am_BW_i 184 rfl rfl
theorem wM_X2_3 : Cond.methodLink RX2 3 objectInit ∈ am_BW := am_BW_i 185 rfl rfl
theorem wF_X2_18 : Cond.fieldLink RX2 18 "RegretLine$Seating" "train" "LRegretLine$Train;" ∈ am_BW := am_BW_i 186 rfl rfl
theorem wF_X2_9 : Cond.fieldLink RX2 9 "RegretLine$Seating" "row" "[I" ∈ am_BW := am_BW_i 187 rfl rfl
theorem wF_X2_15 : Cond.fieldLink RX2 15 "RegretLine$Seating" "sitting" "[I" ∈ am_BW := am_BW_i 188 rfl rfl
theorem wK_X6_44 : Cond.classLink RX6 44 RX0 ∈ am_BW := am_BW_i 196 rfl rfl
theorem wT_X0 : Cond.instantiable RX0 8 ∈ lw_tbl := List.mem_of_getElem? (i := 197) rfl
theorem wM_X6_46 : Cond.methodLink RX6 46 yX0_init ∈ am_BW := am_BW_i 198 rfl rfl
theorem wN_yX0_init : Cond.instanceMethod yX0_init ∈ am_BW := am_BW_i 199 rfl rfl
theorem wC_yX0_init : Cond.code yX0_init cX0_init 2 none ∈ am_BW := am_BW_i 200 rfl rfl
theorem wM_X0_3 : Cond.methodLink RX0 3 objectInit ∈ am_BW := am_BW_i 201 rfl rfl
theorem wK_X0_11 : Cond.classLink RX0 11 "[[I" ∈ am_BW := am_BW_i 202 rfl rfl
theorem wF_X0_36 : Cond.fieldLink RX0 36 "RegretLine$Ease" "train" "LRegretLine$Train;" ∈ am_BW := am_BW_i 203 rfl rfl
theorem wF_X0_13 : Cond.fieldLink RX0 13 "RegretLine$Ease" "toGo" "[[I" ∈ am_BW := am_BW_i 204 rfl rfl
theorem wF_X0_16 : Cond.fieldLink RX0 16 "RegretLine$Ease" "behind" "[I" ∈ am_BW := am_BW_i 205 rfl rfl
theorem wF_X0_20 : Cond.fieldLink RX0 20 "RegretLine$Ease" "sitting" "[I" ∈ am_BW := am_BW_i 206 rfl rfl
theorem wF_X0_23 : Cond.fieldLink RX0 23 "RegretLine$Ease" "ways" "I" ∈ am_BW := am_BW_i 207 rfl rfl
theorem wF_X0_27 : Cond.fieldLink RX0 27 "RegretLine$Ease" "row" "[I" ∈ am_BW := am_BW_i 208 rfl rfl
theorem wF_X6_186 : Cond.fieldLink RX6 186 "RegretLine$Ease" "row" "[I" ∈ am_BW := am_BW_i 209 rfl rfl
theorem wF_X0_30 : Cond.fieldLink RX0 30 "RegretLine$Ease" "trouble" "I" ∈ am_BW := am_BW_i 210 rfl rfl
theorem wF_X6_183 : Cond.fieldLink RX6 183 "RegretLine$Ease" "trouble" "I" ∈ am_BW := am_BW_i 211 rfl rfl
theorem wF_X0_33 : Cond.fieldLink RX0 33 "RegretLine$Ease" "stuckIn" "I" ∈ am_BW := am_BW_i 212 rfl rfl
theorem wF_X6_189 : Cond.fieldLink RX6 189 "RegretLine$Ease" "stuckIn" "I" ∈ am_BW := am_BW_i 213 rfl rfl
theorem wF_X6_13 : Cond.fieldLink RX6 13 "RegretLine" "sheets" "[LRegretLine$Sheet;" ∈ am_BW := am_BW_i 231 rfl rfl
theorem wF_X6_21 : Cond.fieldLink RX6 21 "RegretLine" "train" "LRegretLine$Train;" ∈ am_BW := am_BW_i 232 rfl rfl
theorem wF_X6_25 : Cond.fieldLink RX6 25 "RegretLine" "guess" "LRegretLine$Train;" ∈ am_BW := am_BW_i 233 rfl rfl
theorem wF_X6_31 : Cond.fieldLink RX6 31 "RegretLine" "readings" "LRegretLine$Readings;" ∈ am_BW := am_BW_i 234 rfl rfl
theorem wF_X6_40 : Cond.fieldLink RX6 40 "RegretLine" "told" "LRegretLine$Seating;" ∈ am_BW := am_BW_i 235 rfl rfl
theorem wF_X6_47 : Cond.fieldLink RX6 47 "RegretLine" "least" "LRegretLine$Ease;" ∈ am_BW := am_BW_i 236 rfl rfl
theorem wF_X6_51 : Cond.fieldLink RX6 51 "RegretLine" "leastKnown" "Z" ∈ am_BW := am_BW_i 237 rfl rfl
theorem wF_X6_55 : Cond.fieldLink RX6 55 "RegretLine" "traced" "I" ∈ am_BW := am_BW_i 238 rfl rfl
theorem wF_X6_59 : Cond.fieldLink RX6 59 "RegretLine" "lastFault" "I" ∈ am_BW := am_BW_i 239 rfl rfl
theorem wM_L_13 : Cond.methodLink RL 13 yX6_line ∈ am_BW := am_BW_i 259 rfl rfl
theorem wN_yX6_line : Cond.instanceMethod yX6_line ∈ am_BW := am_BW_i 260 rfl rfl
theorem wE_yX6_line : Cond.selects RX6 yX6_line yX6_line ∈ am_BW := am_BW_i 261 rfl rfl
theorem wC_yX6_line : Cond.code yX6_line cX6_line 7 (some .int) ∈ am_BW := am_BW_i 262 rfl rfl
theorem wM_X6_62 : Cond.methodLink RX6 62 yX6_noSheet ∈ am_BW := am_BW_i 263 rfl rfl
theorem wS_yX6_noSheet : Cond.static yX6_noSheet ∈ am_BW := am_BW_i 264 rfl rfl
theorem wC_yX6_noSheet : Cond.code yX6_noSheet cX6_noSheet 1 (some .boolean) ∈ am_BW := am_BW_i 265 rfl rfl
theorem wM_X6_66 : Cond.methodLink RX6 66 yX6_noLane ∈ am_BW := am_BW_i 266 rfl rfl
theorem wS_yX6_noLane : Cond.static yX6_noLane ∈ am_BW := am_BW_i 267 rfl rfl
theorem wC_yX6_noLane : Cond.code yX6_noLane cX6_noLane 1 (some .boolean) ∈ am_BW := am_BW_i 268 rfl rfl
theorem wM_X6_69 : Cond.methodLink RX6 69 yX3_faultOfCells ∈ am_BW := am_BW_i 269 rfl rfl
theorem wN_yX3_faultOfCells : Cond.instanceMethod yX3_faultOfCells ∈ am_BW := am_BW_i 270 rfl rfl
theorem wE_yX3_faultOfCells : Cond.selects RX3 yX3_faultOfCells yX3_faultOfCells ∈ am_BW := am_BW_i 271 rfl rfl
theorem wC_yX3_faultOfCells : Cond.code yX3_faultOfCells cX3_faultOfCells 5 (some .int) ∈ am_BW := am_BW_i 272 rfl rfl
theorem wM_X3_32 : Cond.methodLink RX3 32 yX3_faultOfRow ∈ am_BW := am_BW_i 273 rfl rfl
theorem wN_yX3_faultOfRow : Cond.instanceMethod yX3_faultOfRow ∈ am_BW := am_BW_i 274 rfl rfl
theorem wE_yX3_faultOfRow : Cond.selects RX3 yX3_faultOfRow yX3_faultOfRow ∈ am_BW := am_BW_i 275 rfl rfl
theorem wC_yX3_faultOfRow : Cond.code yX3_faultOfRow cX3_faultOfRow 2 (some .int) ∈ am_BW := am_BW_i 276 rfl rfl
theorem wM_X3_28 : Cond.methodLink RX3 28 yX3_hasNothing ∈ am_BW := am_BW_i 277 rfl rfl
theorem wN_yX3_hasNothing : Cond.instanceMethod yX3_hasNothing ∈ am_BW := am_BW_i 278 rfl rfl
theorem wE_yX3_hasNothing : Cond.selects RX3 yX3_hasNothing yX3_hasNothing ∈ am_BW := am_BW_i 279 rfl rfl
theorem wC_yX3_hasNothing : Cond.code yX3_hasNothing cX3_hasNothing 1 (some .boolean) ∈ am_BW := am_BW_i 280 rfl rfl
theorem wM_X3_36 : Cond.methodLink RX3 36 yX3_lacksCells ∈ am_BW := am_BW_i 281 rfl rfl
theorem wN_yX3_lacksCells : Cond.instanceMethod yX3_lacksCells ∈ am_BW := am_BW_i 282 rfl rfl
theorem wE_yX3_lacksCells : Cond.selects RX3 yX3_lacksCells yX3_lacksCells ∈ am_BW := am_BW_i 283 rfl rfl
theorem wC_yX3_lacksCells : Cond.code yX3_lacksCells cX3_lacksCells 3 (some .boolean) ∈ am_BW := am_BW_i 284 rfl rfl
theorem wM_X6_77 : Cond.methodLink RX6 77 yX4_firstFault ∈ am_BW := am_BW_i 285 rfl rfl
theorem wS_yX4_firstFault : Cond.static yX4_firstFault ∈ am_BW := am_BW_i 286 rfl rfl
theorem wC_yX4_firstFault : Cond.code yX4_firstFault cX4_firstFault 6 (some .int) ∈ am_BW := am_BW_i 287 rfl rfl
theorem wM_X4_9 : Cond.methodLink RX4 9 yX4_fitsHead ∈ am_BW := am_BW_i 288 rfl rfl
theorem wS_yX4_fitsHead : Cond.static yX4_fitsHead ∈ am_BW := am_BW_i 289 rfl rfl
theorem wC_yX4_fitsHead : Cond.code yX4_fitsHead cX4_fitsHead 2 (some .boolean) ∈ am_BW := am_BW_i 290 rfl rfl
theorem wM_X4_22 : Cond.methodLink RX4 22 yX4_isDigit ∈ am_BW := am_BW_i 291 rfl rfl
theorem wS_yX4_isDigit : Cond.static yX4_isDigit ∈ am_BW := am_BW_i 292 rfl rfl
theorem wC_yX4_isDigit : Cond.code yX4_isDigit cX4_isDigit 2 (some .boolean) ∈ am_BW := am_BW_i 293 rfl rfl
theorem wM_X4_15 : Cond.methodLink RX4 15 yX4_isMile ∈ am_BW := am_BW_i 294 rfl rfl
theorem wS_yX4_isMile : Cond.static yX4_isMile ∈ am_BW := am_BW_i 295 rfl rfl
theorem wC_yX4_isMile : Cond.code yX4_isMile cX4_isMile 1 (some .boolean) ∈ am_BW := am_BW_i 296 rfl rfl
theorem wM_X4_19 : Cond.methodLink RX4 19 yX4_fitsPassenger ∈ am_BW := am_BW_i 297 rfl rfl
theorem wS_yX4_fitsPassenger : Cond.static yX4_fitsPassenger ∈ am_BW := am_BW_i 298 rfl rfl
theorem wC_yX4_fitsPassenger : Cond.code yX4_fitsPassenger cX4_fitsPassenger 2 (some .boolean) ∈ am_BW := am_BW_i 299 rfl rfl
theorem wM_X4_25 : Cond.methodLink RX4 25 yX4_kindOf ∈ am_BW := am_BW_i 300 rfl rfl
set_option maxRecDepth 16000 in
theorem wS_yX4_kindOf : Cond.static yX4_kindOf ∈ am_BW := am_BW_i 301 rfl rfl
set_option maxRecDepth 16000 in
theorem wC_yX4_kindOf : Cond.code yX4_kindOf cX4_kindOf 1 (some .int) ∈ am_BW := am_BW_i 302 rfl rfl
set_option maxRecDepth 16000 in
theorem wM_X6_83 : Cond.methodLink RX6 83 yX5_readFrom ∈ am_BW := am_BW_i 303 rfl rfl
set_option maxRecDepth 16000 in
theorem wN_yX5_readFrom : Cond.instanceMethod yX5_readFrom ∈ am_BW := am_BW_i 304 rfl rfl
set_option maxRecDepth 16000 in
theorem wE_yX5_readFrom : Cond.selects RX5 yX5_readFrom yX5_readFrom ∈ am_BW := am_BW_i 305 rfl rfl
set_option maxRecDepth 16000 in
theorem wC_yX5_readFrom : Cond.code yX5_readFrom cX5_readFrom 6 none ∈ am_BW := am_BW_i 306 rfl rfl
set_option maxRecDepth 16000 in
theorem wM_X5_52 : Cond.methodLink RX5 52 yX4_kindOf ∈ am_BW := am_BW_i 307 rfl rfl
set_option maxRecDepth 16000 in
theorem wM_X5_58 : Cond.methodLink RX5 58 yJ7_fill_53178 ∈ am_BW := am_BW_i 308 rfl rfl
set_option maxRecDepth 16000 in
theorem wS_yJ7_fill_53178 : Cond.static yJ7_fill_53178 ∈ am_BW := am_BW_i 309 rfl rfl
set_option maxRecDepth 16000 in
theorem wC_yJ7_fill_53178 : Cond.code yJ7_fill_53178 cJ7_fill_53178 4 none ∈ am_BW := am_BW_i 310 rfl rfl
set_option maxRecDepth 16000 in
theorem wM_X6_90 : Cond.methodLink RX6 90 yX6_rideAnew ∈ am_BW := am_BW_i 311 rfl rfl
set_option maxRecDepth 16000 in
theorem wN_yX6_rideAnew : Cond.instanceMethod yX6_rideAnew ∈ am_BW := am_BW_i 313 rfl rfl
set_option maxRecDepth 16000 in
theorem wC_yX6_rideAnew : Cond.code yX6_rideAnew cX6_rideAnew 1 none ∈ am_BW := am_BW_i 314 rfl rfl
set_option maxRecDepth 16000 in
theorem wM_X6_211 : Cond.methodLink RX6 211 yX5_rideAll ∈ am_BW := am_BW_i 315 rfl rfl
set_option maxRecDepth 16000 in
theorem wN_yX5_rideAll : Cond.instanceMethod yX5_rideAll ∈ am_BW := am_BW_i 316 rfl rfl
set_option maxRecDepth 16000 in
theorem wE_yX5_rideAll : Cond.selects RX5 yX5_rideAll yX5_rideAll ∈ am_BW := am_BW_i 317 rfl rfl
set_option maxRecDepth 16000 in
theorem wC_yX5_rideAll : Cond.code yX5_rideAll cX5_rideAll 1 none ∈ am_BW := am_BW_i 318 rfl rfl
set_option maxRecDepth 16000 in
theorem wM_X5_64 : Cond.methodLink RX5 64 arraycopyName ∈ am_BW := am_BW_i 319 rfl rfl
set_option maxRecDepth 16000 in
theorem wS_arraycopyName : Cond.static arraycopyName ∈ am_BW := am_BW_i 320 rfl rfl
set_option maxRecDepth 16000 in
theorem wNat : Cond.native arraycopyName ∈ am_BW := am_BW_i 321 rfl rfl
set_option maxRecDepth 16000 in
theorem wM_X5_70 : Cond.methodLink RX5 70 yX5_rideFrom ∈ am_BW := am_BW_i 322 rfl rfl
set_option maxRecDepth 16000 in
theorem wN_yX5_rideFrom : Cond.instanceMethod yX5_rideFrom ∈ am_BW := am_BW_i 323 rfl rfl
set_option maxRecDepth 16000 in
theorem wE_yX5_rideFrom : Cond.selects RX5 yX5_rideFrom yX5_rideFrom ∈ am_BW := am_BW_i 324 rfl rfl
set_option maxRecDepth 16000 in
theorem wC_yX5_rideFrom : Cond.code yX5_rideFrom cX5_rideFrom 3 none ∈ am_BW := am_BW_i 325 rfl rfl
set_option maxRecDepth 16000 in
theorem wM_X5_74 : Cond.methodLink RX5 74 yX5_rideThrough ∈ am_BW := am_BW_i 326 rfl rfl
set_option maxRecDepth 16000 in
theorem wN_yX5_rideThrough : Cond.instanceMethod yX5_rideThrough ∈ am_BW := am_BW_i 327 rfl rfl
set_option maxRecDepth 16000 in
theorem wE_yX5_rideThrough : Cond.selects RX5 yX5_rideThrough yX5_rideThrough ∈ am_BW := am_BW_i 328 rfl rfl
set_option maxRecDepth 16000 in
theorem wC_yX5_rideThrough : Cond.code yX5_rideThrough cX5_rideThrough 6 none ∈ am_BW := am_BW_i 329 rfl rfl
set_option maxRecDepth 16000 in
theorem wM_X5_77 : Cond.methodLink RX5 77 yX5_regretBehind ∈ am_BW := am_BW_i 330 rfl rfl
set_option maxRecDepth 16000 in
theorem wN_yX5_regretBehind : Cond.instanceMethod yX5_regretBehind ∈ am_BW := am_BW_i 332 rfl rfl
set_option maxRecDepth 16000 in
theorem wC_yX5_regretBehind : Cond.code yX5_regretBehind cX5_regretBehind 5 (some .int) ∈ am_BW := am_BW_i 333 rfl rfl
set_option maxRecDepth 16000 in
theorem wM_X5_81 : Cond.methodLink RX5 81 yJ9_min_7cf53 ∈ am_BW := am_BW_i 334 rfl rfl
set_option maxRecDepth 16000 in
theorem wS_yJ9_min_7cf53 : Cond.static yJ9_min_7cf53 ∈ am_BW := am_BW_i 335 rfl rfl
set_option maxRecDepth 16000 in
theorem wC_yJ9_min_7cf53 : Cond.code yJ9_min_7cf53 cJ9_min_7cf53 2 (some .int) ∈ am_BW := am_BW_i 336 rfl rfl
set_option maxRecDepth 16000 in
theorem wM_X5_86 : Cond.methodLink RX5 86 yJ9_max_7cf53 ∈ am_BW := am_BW_i 337 rfl rfl
set_option maxRecDepth 16000 in
theorem wS_yJ9_max_7cf53 : Cond.static yJ9_max_7cf53 ∈ am_BW := am_BW_i 338 rfl rfl
set_option maxRecDepth 16000 in
theorem wC_yJ9_max_7cf53 : Cond.code yJ9_max_7cf53 cJ9_max_7cf53 2 (some .int) ∈ am_BW := am_BW_i 339 rfl rfl
set_option maxRecDepth 16000 in
theorem wM_L_18 : Cond.methodLink RL 18 yX6_ofPassenger ∈ am_BW := am_BW_i 340 rfl rfl
set_option maxRecDepth 16000 in
theorem wN_yX6_ofPassenger : Cond.instanceMethod yX6_ofPassenger ∈ am_BW := am_BW_i 341 rfl rfl
set_option maxRecDepth 16000 in
theorem wE_yX6_ofPassenger : Cond.selects RX6 yX6_ofPassenger yX6_ofPassenger ∈ am_BW := am_BW_i 342 rfl rfl
set_option maxRecDepth 16000 in
theorem wC_yX6_ofPassenger : Cond.code yX6_ofPassenger cX6_ofPassenger 3 (some .int) ∈ am_BW := am_BW_i 343 rfl rfl
set_option maxRecDepth 16000 in
theorem wM_X6_96 : Cond.methodLink RX6 96 yX6_noPassenger ∈ am_BW := am_BW_i 344 rfl rfl
set_option maxRecDepth 16000 in
theorem wN_yX6_noPassenger : Cond.instanceMethod yX6_noPassenger ∈ am_BW := am_BW_i 346 rfl rfl
set_option maxRecDepth 16000 in
theorem wC_yX6_noPassenger : Cond.code yX6_noPassenger cX6_noPassenger 2 (some .boolean) ∈ am_BW := am_BW_i 347 rfl rfl
set_option maxRecDepth 16000 in
theorem wM_L_23 : Cond.methodLink RL 23 yX6_seats ∈ am_BW := am_BW_i 348 rfl rfl
set_option maxRecDepth 16000 in
theorem wN_yX6_seats : Cond.instanceMethod yX6_seats ∈ am_BW := am_BW_i 349 rfl rfl
set_option maxRecDepth 16000 in
theorem wE_yX6_seats : Cond.selects RX6 yX6_seats yX6_seats ∈ am_BW := am_BW_i 350 rfl rfl
set_option maxRecDepth 16000 in
theorem wC_yX6_seats : Cond.code yX6_seats cX6_seats 4 (some .int) ∈ am_BW := am_BW_i 351 rfl rfl
set_option maxRecDepth 16000 in
theorem wM_X6_108 : Cond.methodLink RX6 108 yX6_noLine ∈ am_BW := am_BW_i 352 rfl rfl
set_option maxRecDepth 16000 in
theorem wN_yX6_noLine : Cond.instanceMethod yX6_noLine ∈ am_BW := am_BW_i 354 rfl rfl
set_option maxRecDepth 16000 in
theorem wC_yX6_noLine : Cond.code yX6_noLine cX6_noLine 1 (some .boolean) ∈ am_BW := am_BW_i 355 rfl rfl
set_option maxRecDepth 16000 in
theorem wM_X6_112 : Cond.methodLink RX6 112 yX6_noClass ∈ am_BW := am_BW_i 356 rfl rfl
set_option maxRecDepth 16000 in
theorem wS_yX6_noClass : Cond.static yX6_noClass ∈ am_BW := am_BW_i 357 rfl rfl
set_option maxRecDepth 16000 in
theorem wC_yX6_noClass : Cond.code yX6_noClass cX6_noClass 1 (some .boolean) ∈ am_BW := am_BW_i 358 rfl rfl
set_option maxRecDepth 16000 in
theorem wM_L_27 : Cond.methodLink RL 27 yX6_limits ∈ am_BW := am_BW_i 359 rfl rfl
set_option maxRecDepth 16000 in
theorem wN_yX6_limits : Cond.instanceMethod yX6_limits ∈ am_BW := am_BW_i 360 rfl rfl
set_option maxRecDepth 16000 in
theorem wE_yX6_limits : Cond.selects RX6 yX6_limits yX6_limits ∈ am_BW := am_BW_i 361 rfl rfl
set_option maxRecDepth 16000 in
theorem wC_yX6_limits : Cond.code yX6_limits cX6_limits 4 (some .int) ∈ am_BW := am_BW_i 362 rfl rfl
set_option maxRecDepth 16000 in
theorem wM_L_31 : Cond.methodLink RL 31 yX6_dig ∈ am_BW := am_BW_i 363 rfl rfl
set_option maxRecDepth 16000 in
theorem wN_yX6_dig : Cond.instanceMethod yX6_dig ∈ am_BW := am_BW_i 364 rfl rfl
set_option maxRecDepth 16000 in
theorem wE_yX6_dig : Cond.selects RX6 yX6_dig yX6_dig ∈ am_BW := am_BW_i 365 rfl rfl
set_option maxRecDepth 16000 in
theorem wC_yX6_dig : Cond.code yX6_dig cX6_dig 3 (some .int) ∈ am_BW := am_BW_i 366 rfl rfl
set_option maxRecDepth 16000 in
theorem wM_X6_124 : Cond.methodLink RX6 124 yX6_noMile ∈ am_BW := am_BW_i 367 rfl rfl
set_option maxRecDepth 16000 in
theorem wN_yX6_noMile : Cond.instanceMethod yX6_noMile ∈ am_BW := am_BW_i 369 rfl rfl
set_option maxRecDepth 16000 in
theorem wC_yX6_noMile : Cond.code yX6_noMile cX6_noMile 2 (some .boolean) ∈ am_BW := am_BW_i 370 rfl rfl
set_option maxRecDepth 16000 in
theorem wM_L_36 : Cond.methodLink RL 36 yX6_talk ∈ am_BW := am_BW_i 371 rfl rfl
set_option maxRecDepth 16000 in
theorem wN_yX6_talk : Cond.instanceMethod yX6_talk ∈ am_BW := am_BW_i 372 rfl rfl
set_option maxRecDepth 16000 in
theorem wE_yX6_talk : Cond.selects RX6 yX6_talk yX6_talk ∈ am_BW := am_BW_i 373 rfl rfl
set_option maxRecDepth 16000 in
theorem wC_yX6_talk : Cond.code yX6_talk cX6_talk 6 (some .int) ∈ am_BW := am_BW_i 374 rfl rfl
set_option maxRecDepth 16000 in
theorem wM_X6_131 : Cond.methodLink RX6 131 yX6_noPair ∈ am_BW := am_BW_i 375 rfl rfl
set_option maxRecDepth 16000 in
theorem wN_yX6_noPair : Cond.instanceMethod yX6_noPair ∈ am_BW := am_BW_i 377 rfl rfl
set_option maxRecDepth 16000 in
theorem wC_yX6_noPair : Cond.code yX6_noPair cX6_noPair 3 (some .boolean) ∈ am_BW := am_BW_i 378 rfl rfl
set_option maxRecDepth 16000 in
theorem wM_L_41 : Cond.methodLink RL 41 yX6_regret ∈ am_BW := am_BW_i 379 rfl rfl
set_option maxRecDepth 16000 in
theorem wN_yX6_regret : Cond.instanceMethod yX6_regret ∈ am_BW := am_BW_i 380 rfl rfl
set_option maxRecDepth 16000 in
theorem wE_yX6_regret : Cond.selects RX6 yX6_regret yX6_regret ∈ am_BW := am_BW_i 381 rfl rfl
set_option maxRecDepth 16000 in
theorem wC_yX6_regret : Cond.code yX6_regret cX6_regret 3 (some .int) ∈ am_BW := am_BW_i 382 rfl rfl
set_option maxRecDepth 16000 in
theorem wM_X6_141 : Cond.methodLink RX6 141 yX6_noMileNorEnd ∈ am_BW := am_BW_i 383 rfl rfl
set_option maxRecDepth 16000 in
theorem wN_yX6_noMileNorEnd : Cond.instanceMethod yX6_noMileNorEnd ∈ am_BW := am_BW_i 385 rfl rfl
set_option maxRecDepth 16000 in
theorem wC_yX6_noMileNorEnd : Cond.code yX6_noMileNorEnd cX6_noMileNorEnd 2 (some .boolean) ∈ am_BW := am_BW_i 386 rfl rfl
set_option maxRecDepth 16000 in
theorem wM_X6_144 : Cond.methodLink RX6 144 yX5_regretAhead ∈ am_BW := am_BW_i 387 rfl rfl
set_option maxRecDepth 16000 in
theorem wN_yX5_regretAhead : Cond.instanceMethod yX5_regretAhead ∈ am_BW := am_BW_i 388 rfl rfl
set_option maxRecDepth 16000 in
theorem wE_yX5_regretAhead : Cond.selects RX5 yX5_regretAhead yX5_regretAhead ∈ am_BW := am_BW_i 389 rfl rfl
set_option maxRecDepth 16000 in
theorem wC_yX5_regretAhead : Cond.code yX5_regretAhead cX5_regretAhead 3 (some .int) ∈ am_BW := am_BW_i 390 rfl rfl
set_option maxRecDepth 16000 in
theorem wM_L_45 : Cond.methodLink RL 45 yX6_due ∈ am_BW := am_BW_i 391 rfl rfl
set_option maxRecDepth 16000 in
theorem wN_yX6_due : Cond.instanceMethod yX6_due ∈ am_BW := am_BW_i 392 rfl rfl
set_option maxRecDepth 16000 in
theorem wE_yX6_due : Cond.selects RX6 yX6_due yX6_due ∈ am_BW := am_BW_i 393 rfl rfl
set_option maxRecDepth 16000 in
theorem wC_yX6_due : Cond.code yX6_due cX6_due 3 (some .int) ∈ am_BW := am_BW_i 394 rfl rfl
set_option maxRecDepth 16000 in
theorem wM_X6_148 : Cond.methodLink RX6 148 yX5_classDue ∈ am_BW := am_BW_i 395 rfl rfl
set_option maxRecDepth 16000 in
theorem wN_yX5_classDue : Cond.instanceMethod yX5_classDue ∈ am_BW := am_BW_i 396 rfl rfl
set_option maxRecDepth 16000 in
theorem wE_yX5_classDue : Cond.selects RX5 yX5_classDue yX5_classDue ∈ am_BW := am_BW_i 397 rfl rfl
set_option maxRecDepth 16000 in
theorem wC_yX5_classDue : Cond.code yX5_classDue cX5_classDue 4 (some .int) ∈ am_BW := am_BW_i 398 rfl rfl
set_option maxRecDepth 16000 in
theorem wM_L_49 : Cond.methodLink RL 49 yX6_seating ∈ am_BW := am_BW_i 399 rfl rfl
set_option maxRecDepth 16000 in
theorem wN_yX6_seating : Cond.instanceMethod yX6_seating ∈ am_BW := am_BW_i 400 rfl rfl
set_option maxRecDepth 16000 in
theorem wE_yX6_seating : Cond.selects RX6 yX6_seating yX6_seating ∈ am_BW := am_BW_i 401 rfl rfl
set_option maxRecDepth 16000 in
theorem wC_yX6_seating : Cond.code yX6_seating cX6_seating 6 (some .int) ∈ am_BW := am_BW_i 402 rfl rfl
set_option maxRecDepth 16000 in
theorem wM_X6_151 : Cond.methodLink RX6 151 yX6_noQuestionOfSeating ∈ am_BW := am_BW_i 403 rfl rfl
set_option maxRecDepth 16000 in
theorem wS_yX6_noQuestionOfSeating : Cond.static yX6_noQuestionOfSeating ∈ am_BW := am_BW_i 404 rfl rfl
set_option maxRecDepth 16000 in
theorem wC_yX6_noQuestionOfSeating : Cond.code yX6_noQuestionOfSeating cX6_noQuestionOfSeating 3 (some .boolean) ∈ am_BW := am_BW_i 405 rfl rfl
set_option maxRecDepth 16000 in
theorem wM_X6_157 : Cond.methodLink RX6 157 yX2_readFrom ∈ am_BW := am_BW_i 406 rfl rfl
set_option maxRecDepth 16000 in
theorem wN_yX2_readFrom : Cond.instanceMethod yX2_readFrom ∈ am_BW := am_BW_i 407 rfl rfl
set_option maxRecDepth 16000 in
theorem wE_yX2_readFrom : Cond.selects RX2 yX2_readFrom yX2_readFrom ∈ am_BW := am_BW_i 408 rfl rfl
set_option maxRecDepth 16000 in
theorem wC_yX2_readFrom : Cond.code yX2_readFrom cX2_readFrom 5 (some .boolean) ∈ am_BW := am_BW_i 409 rfl rfl
set_option maxRecDepth 16000 in
theorem wMN_X2_31 : Cond.methodLinkNest RX2 31 yX6_noClass RX6 ∈ lw_tbl := List.mem_of_getElem? (i := 410) rfl
set_option maxRecDepth 16000 in
theorem wM_X6_160 : Cond.methodLink RX6 160 yX6_ofSeating ∈ am_BW := am_BW_i 411 rfl rfl
set_option maxRecDepth 16000 in
theorem wN_yX6_ofSeating : Cond.instanceMethod yX6_ofSeating ∈ am_BW := am_BW_i 413 rfl rfl
set_option maxRecDepth 16000 in
theorem wC_yX6_ofSeating : Cond.code yX6_ofSeating cX6_ofSeating 3 (some .int) ∈ am_BW := am_BW_i 414 rfl rfl
set_option maxRecDepth 16000 in
theorem wM_X6_164 : Cond.methodLink RX6 164 yX2_firstWrong ∈ am_BW := am_BW_i 415 rfl rfl
set_option maxRecDepth 16000 in
theorem wN_yX2_firstWrong : Cond.instanceMethod yX2_firstWrong ∈ am_BW := am_BW_i 416 rfl rfl
set_option maxRecDepth 16000 in
theorem wE_yX2_firstWrong : Cond.selects RX2 yX2_firstWrong yX2_firstWrong ∈ am_BW := am_BW_i 417 rfl rfl
set_option maxRecDepth 16000 in
theorem wC_yX2_firstWrong : Cond.code yX2_firstWrong cX2_firstWrong 4 (some .int) ∈ am_BW := am_BW_i 418 rfl rfl
set_option maxRecDepth 16000 in
theorem wM_X2_35 : Cond.methodLink RX2 35 yJ7_fill_53178 ∈ am_BW := am_BW_i 419 rfl rfl
set_option maxRecDepth 16000 in
theorem wM_X2_41 : Cond.methodLink RX2 41 yX2_classOf ∈ am_BW := am_BW_i 420 rfl rfl
set_option maxRecDepth 16000 in
theorem wN_yX2_classOf : Cond.instanceMethod yX2_classOf ∈ am_BW := am_BW_i 422 rfl rfl
set_option maxRecDepth 16000 in
theorem wC_yX2_classOf : Cond.code yX2_classOf cX2_classOf 3 (some .int) ∈ am_BW := am_BW_i 423 rfl rfl
set_option maxRecDepth 16000 in
theorem wM_X6_168 : Cond.methodLink RX6 168 yX2_countChanges ∈ am_BW := am_BW_i 424 rfl rfl
set_option maxRecDepth 16000 in
theorem wN_yX2_countChanges : Cond.instanceMethod yX2_countChanges ∈ am_BW := am_BW_i 425 rfl rfl
set_option maxRecDepth 16000 in
theorem wE_yX2_countChanges : Cond.selects RX2 yX2_countChanges yX2_countChanges ∈ am_BW := am_BW_i 426 rfl rfl
set_option maxRecDepth 16000 in
theorem wC_yX2_countChanges : Cond.code yX2_countChanges cX2_countChanges 4 (some .int) ∈ am_BW := am_BW_i 427 rfl rfl
set_option maxRecDepth 16000 in
theorem wM_X6_171 : Cond.methodLink RX6 171 yX2_countLow ∈ am_BW := am_BW_i 428 rfl rfl
set_option maxRecDepth 16000 in
theorem wN_yX2_countLow : Cond.instanceMethod yX2_countLow ∈ am_BW := am_BW_i 429 rfl rfl
set_option maxRecDepth 16000 in
theorem wE_yX2_countLow : Cond.selects RX2 yX2_countLow yX2_countLow ∈ am_BW := am_BW_i 430 rfl rfl
set_option maxRecDepth 16000 in
theorem wC_yX2_countLow : Cond.code yX2_countLow cX2_countLow 4 (some .int) ∈ am_BW := am_BW_i 431 rfl rfl
set_option maxRecDepth 16000 in
theorem wM_X2_48 : Cond.methodLink RX2 48 yX5_classDue ∈ am_BW := am_BW_i 432 rfl rfl
set_option maxRecDepth 16000 in
theorem wM_X2_51 : Cond.methodLink RX2 51 yJ9_max_7cf53 ∈ am_BW := am_BW_i 433 rfl rfl
set_option maxRecDepth 16000 in
theorem wM_X6_174 : Cond.methodLink RX6 174 yX2_countAbove ∈ am_BW := am_BW_i 434 rfl rfl
set_option maxRecDepth 16000 in
theorem wN_yX2_countAbove : Cond.instanceMethod yX2_countAbove ∈ am_BW := am_BW_i 435 rfl rfl
set_option maxRecDepth 16000 in
theorem wE_yX2_countAbove : Cond.selects RX2 yX2_countAbove yX2_countAbove ∈ am_BW := am_BW_i 436 rfl rfl
set_option maxRecDepth 16000 in
theorem wC_yX2_countAbove : Cond.code yX2_countAbove cX2_countAbove 3 (some .int) ∈ am_BW := am_BW_i 437 rfl rfl
set_option maxRecDepth 16000 in
theorem wM_X2_56 : Cond.methodLink RX2 56 yX2_milesAbove ∈ am_BW := am_BW_i 438 rfl rfl
set_option maxRecDepth 16000 in
theorem wN_yX2_milesAbove : Cond.instanceMethod yX2_milesAbove ∈ am_BW := am_BW_i 439 rfl rfl
set_option maxRecDepth 16000 in
theorem wE_yX2_milesAbove : Cond.selects RX2 yX2_milesAbove yX2_milesAbove ∈ am_BW := am_BW_i 440 rfl rfl
set_option maxRecDepth 16000 in
theorem wC_yX2_milesAbove : Cond.code yX2_milesAbove cX2_milesAbove 4 (some .int) ∈ am_BW := am_BW_i 441 rfl rfl
set_option maxRecDepth 16000 in
theorem wM_X6_177 : Cond.methodLink RX6 177 yX2_milesAbove ∈ am_BW := am_BW_i 442 rfl rfl
set_option maxRecDepth 16000 in
theorem wM_L_54 : Cond.methodLink RL 54 yX6_ease ∈ am_BW := am_BW_i 443 rfl rfl
set_option maxRecDepth 16000 in
theorem wN_yX6_ease : Cond.instanceMethod yX6_ease ∈ am_BW := am_BW_i 444 rfl rfl
set_option maxRecDepth 16000 in
theorem wE_yX6_ease : Cond.selects RX6 yX6_ease yX6_ease ∈ am_BW := am_BW_i 445 rfl rfl
set_option maxRecDepth 16000 in
theorem wC_yX6_ease : Cond.code yX6_ease cX6_ease 2 (some .int) ∈ am_BW := am_BW_i 446 rfl rfl
set_option maxRecDepth 16000 in
theorem wM_X6_180 : Cond.methodLink RX6 180 yX6_knowLeast ∈ am_BW := am_BW_i 447 rfl rfl
set_option maxRecDepth 16000 in
theorem wN_yX6_knowLeast : Cond.instanceMethod yX6_knowLeast ∈ am_BW := am_BW_i 449 rfl rfl
set_option maxRecDepth 16000 in
theorem wC_yX6_knowLeast : Cond.code yX6_knowLeast cX6_knowLeast 1 none ∈ am_BW := am_BW_i 450 rfl rfl
set_option maxRecDepth 16000 in
theorem wM_X6_202 : Cond.methodLink RX6 202 yX0_seek ∈ am_BW := am_BW_i 451 rfl rfl
set_option maxRecDepth 16000 in
theorem wN_yX0_seek : Cond.instanceMethod yX0_seek ∈ am_BW := am_BW_i 452 rfl rfl
set_option maxRecDepth 16000 in
theorem wE_yX0_seek : Cond.selects RX0 yX0_seek yX0_seek ∈ am_BW := am_BW_i 453 rfl rfl
set_option maxRecDepth 16000 in
theorem wC_yX0_seek : Cond.code yX0_seek cX0_seek 2 none ∈ am_BW := am_BW_i 454 rfl rfl
set_option maxRecDepth 16000 in
theorem wM_X0_45 : Cond.methodLink RX0 45 yJ7_fill_53178 ∈ am_BW := am_BW_i 455 rfl rfl
set_option maxRecDepth 16000 in
theorem wM_X0_54 : Cond.methodLink RX0 54 yX0_weigh ∈ am_BW := am_BW_i 456 rfl rfl
set_option maxRecDepth 16000 in
theorem wN_yX0_weigh : Cond.instanceMethod yX0_weigh ∈ am_BW := am_BW_i 458 rfl rfl
set_option maxRecDepth 16000 in
theorem wC_yX0_weigh : Cond.code yX0_weigh cX0_weigh 5 (some .boolean) ∈ am_BW := am_BW_i 459 rfl rfl
set_option maxRecDepth 16000 in
theorem wM_X0_65 : Cond.methodLink RX0 65 yX0_lowIn ∈ am_BW := am_BW_i 460 rfl rfl
set_option maxRecDepth 16000 in
theorem wN_yX0_lowIn : Cond.instanceMethod yX0_lowIn ∈ am_BW := am_BW_i 462 rfl rfl
set_option maxRecDepth 16000 in
theorem wC_yX0_lowIn : Cond.code yX0_lowIn cX0_lowIn 8 (some .int) ∈ am_BW := am_BW_i 463 rfl rfl
set_option maxRecDepth 16000 in
theorem wM_X0_74 : Cond.methodLink RX0 74 yX5_classDue ∈ am_BW := am_BW_i 464 rfl rfl
set_option maxRecDepth 16000 in
theorem wM_X0_69 : Cond.methodLink RX0 69 yJ9_min_7cf53 ∈ am_BW := am_BW_i 465 rfl rfl
set_option maxRecDepth 16000 in
theorem wM_X0_58 : Cond.methodLink RX0 58 yX0_lookBack ∈ am_BW := am_BW_i 466 rfl rfl
set_option maxRecDepth 16000 in
theorem wN_yX0_lookBack : Cond.instanceMethod yX0_lookBack ∈ am_BW := am_BW_i 468 rfl rfl
set_option maxRecDepth 16000 in
theorem wC_yX0_lookBack : Cond.code yX0_lookBack cX0_lookBack 4 none ∈ am_BW := am_BW_i 469 rfl rfl
set_option maxRecDepth 16000 in
theorem wM_X0_80 : Cond.methodLink RX0 80 arraycopyName ∈ am_BW := am_BW_i 470 rfl rfl
set_option maxRecDepth 16000 in
theorem wM_X0_86 : Cond.methodLink RX0 86 yX0_letChange ∈ am_BW := am_BW_i 471 rfl rfl
set_option maxRecDepth 16000 in
theorem wN_yX0_letChange : Cond.instanceMethod yX0_letChange ∈ am_BW := am_BW_i 473 rfl rfl
set_option maxRecDepth 16000 in
theorem wC_yX0_letChange : Cond.code yX0_letChange cX0_letChange 5 none ∈ am_BW := am_BW_i 474 rfl rfl
set_option maxRecDepth 16000 in
theorem wM_X0_62 : Cond.methodLink RX0 62 yX0_choose ∈ am_BW := am_BW_i 475 rfl rfl
set_option maxRecDepth 16000 in
theorem wN_yX0_choose : Cond.instanceMethod yX0_choose ∈ am_BW := am_BW_i 477 rfl rfl
set_option maxRecDepth 16000 in
theorem wC_yX0_choose : Cond.code yX0_choose cX0_choose 3 none ∈ am_BW := am_BW_i 478 rfl rfl
set_option maxRecDepth 16000 in
theorem wM_X0_90 : Cond.methodLink RX0 90 yX0_firstOfLeast ∈ am_BW := am_BW_i 479 rfl rfl
set_option maxRecDepth 16000 in
theorem wN_yX0_firstOfLeast : Cond.instanceMethod yX0_firstOfLeast ∈ am_BW := am_BW_i 481 rfl rfl
set_option maxRecDepth 16000 in
theorem wC_yX0_firstOfLeast : Cond.code yX0_firstOfLeast cX0_firstOfLeast 7 (some .int) ∈ am_BW := am_BW_i 482 rfl rfl
set_option maxRecDepth 16000 in
theorem wM_X0_97 : Cond.methodLink RX0 97 yX0_changesBetween ∈ am_BW := am_BW_i 483 rfl rfl
set_option maxRecDepth 16000 in
theorem wS_yX0_changesBetween : Cond.static yX0_changesBetween ∈ am_BW := am_BW_i 484 rfl rfl
set_option maxRecDepth 16000 in
theorem wC_yX0_changesBetween : Cond.code yX0_changesBetween cX0_changesBetween 6 (some .int) ∈ am_BW := am_BW_i 485 rfl rfl
set_option maxRecDepth 16000 in
theorem wM_X0_93 : Cond.methodLink RX0 93 yX0_write ∈ am_BW := am_BW_i 486 rfl rfl
set_option maxRecDepth 16000 in
theorem wN_yX0_write : Cond.instanceMethod yX0_write ∈ am_BW := am_BW_i 488 rfl rfl
set_option maxRecDepth 16000 in
theorem wC_yX0_write : Cond.code yX0_write cX0_write 5 none ∈ am_BW := am_BW_i 489 rfl rfl
set_option maxRecDepth 16000 in
theorem wM_L_59 : Cond.methodLink RL 59 yX6_stuck ∈ am_BW := am_BW_i 490 rfl rfl
set_option maxRecDepth 16000 in
theorem wN_yX6_stuck : Cond.instanceMethod yX6_stuck ∈ am_BW := am_BW_i 491 rfl rfl
set_option maxRecDepth 16000 in
theorem wE_yX6_stuck : Cond.selects RX6 yX6_stuck yX6_stuck ∈ am_BW := am_BW_i 492 rfl rfl
set_option maxRecDepth 16000 in
theorem wC_yX6_stuck : Cond.code yX6_stuck cX6_stuck 1 (some .int) ∈ am_BW := am_BW_i 493 rfl rfl
set_option maxRecDepth 16000 in
theorem wM_L_64 : Cond.methodLink RL 64 yX6_help ∈ am_BW := am_BW_i 494 rfl rfl
set_option maxRecDepth 16000 in
theorem wN_yX6_help : Cond.instanceMethod yX6_help ∈ am_BW := am_BW_i 495 rfl rfl
set_option maxRecDepth 16000 in
theorem wE_yX6_help : Cond.selects RX6 yX6_help yX6_help ∈ am_BW := am_BW_i 496 rfl rfl
set_option maxRecDepth 16000 in
theorem wC_yX6_help : Cond.code yX6_help cX6_help 6 (some .int) ∈ am_BW := am_BW_i 497 rfl rfl
set_option maxRecDepth 16000 in
theorem wM_X6_192 : Cond.methodLink RX6 192 yX5_becomeLike ∈ am_BW := am_BW_i 498 rfl rfl
set_option maxRecDepth 16000 in
theorem wN_yX5_becomeLike : Cond.instanceMethod yX5_becomeLike ∈ am_BW := am_BW_i 499 rfl rfl
set_option maxRecDepth 16000 in
theorem wE_yX5_becomeLike : Cond.selects RX5 yX5_becomeLike yX5_becomeLike ∈ am_BW := am_BW_i 500 rfl rfl
set_option maxRecDepth 16000 in
theorem wC_yX5_becomeLike : Cond.code yX5_becomeLike cX5_becomeLike 3 none ∈ am_BW := am_BW_i 501 rfl rfl
set_option maxRecDepth 16000 in
theorem wM_X6_195 : Cond.methodLink RX6 195 yX5_rideFrom ∈ am_BW := am_BW_i 502 rfl rfl
set_option maxRecDepth 16000 in
theorem wM_X6_199 : Cond.methodLink RX6 199 yX5_dueTogether ∈ am_BW := am_BW_i 503 rfl rfl
set_option maxRecDepth 16000 in
theorem wN_yX5_dueTogether : Cond.instanceMethod yX5_dueTogether ∈ am_BW := am_BW_i 504 rfl rfl
set_option maxRecDepth 16000 in
theorem wE_yX5_dueTogether : Cond.selects RX5 yX5_dueTogether yX5_dueTogether ∈ am_BW := am_BW_i 505 rfl rfl
set_option maxRecDepth 16000 in
theorem wC_yX5_dueTogether : Cond.code yX5_dueTogether cX5_dueTogether 4 (some .int) ∈ am_BW := am_BW_i 506 rfl rfl
set_option maxRecDepth 16000 in
theorem wM_X5_89 : Cond.methodLink RX5 89 yX5_classDue ∈ am_BW := am_BW_i 507 rfl rfl
set_option maxRecDepth 16000 in
theorem wM_L_68 : Cond.methodLink RL 68 yX6_reading ∈ am_BW := am_BW_i 508 rfl rfl
set_option maxRecDepth 16000 in
theorem wN_yX6_reading : Cond.instanceMethod yX6_reading ∈ am_BW := am_BW_i 509 rfl rfl
set_option maxRecDepth 16000 in
theorem wE_yX6_reading : Cond.selects RX6 yX6_reading yX6_reading ∈ am_BW := am_BW_i 510 rfl rfl
set_option maxRecDepth 16000 in
theorem wC_yX6_reading : Cond.code yX6_reading cX6_reading 4 (some .int) ∈ am_BW := am_BW_i 511 rfl rfl
set_option maxRecDepth 16000 in
theorem wM_X6_205 : Cond.methodLink RX6 205 yX1_keep ∈ am_BW := am_BW_i 512 rfl rfl
set_option maxRecDepth 16000 in
theorem wN_yX1_keep : Cond.instanceMethod yX1_keep ∈ am_BW := am_BW_i 513 rfl rfl
set_option maxRecDepth 16000 in
theorem wE_yX1_keep : Cond.selects RX1 yX1_keep yX1_keep ∈ am_BW := am_BW_i 514 rfl rfl
set_option maxRecDepth 16000 in
theorem wC_yX1_keep : Cond.code yX1_keep cX1_keep 4 (some .int) ∈ am_BW := am_BW_i 515 rfl rfl
set_option maxRecDepth 16000 in
theorem wM_L_72 : Cond.methodLink RL 72 yX6_back ∈ am_BW := am_BW_i 516 rfl rfl
set_option maxRecDepth 16000 in
theorem wN_yX6_back : Cond.instanceMethod yX6_back ∈ am_BW := am_BW_i 517 rfl rfl
set_option maxRecDepth 16000 in
theorem wE_yX6_back : Cond.selects RX6 yX6_back yX6_back ∈ am_BW := am_BW_i 518 rfl rfl
set_option maxRecDepth 16000 in
theorem wC_yX6_back : Cond.code yX6_back cX6_back 2 (some .int) ∈ am_BW := am_BW_i 519 rfl rfl
set_option maxRecDepth 16000 in
theorem wM_L_76 : Cond.methodLink RL 76 yX6_began ∈ am_BW := am_BW_i 520 rfl rfl
set_option maxRecDepth 16000 in
theorem wN_yX6_began : Cond.instanceMethod yX6_began ∈ am_BW := am_BW_i 521 rfl rfl
set_option maxRecDepth 16000 in
theorem wE_yX6_began : Cond.selects RX6 yX6_began yX6_began ∈ am_BW := am_BW_i 522 rfl rfl
set_option maxRecDepth 16000 in
theorem wC_yX6_began : Cond.code yX6_began cX6_began 6 (some .int) ∈ am_BW := am_BW_i 523 rfl rfl
set_option maxRecDepth 16000 in
theorem wM_X6_208 : Cond.methodLink RX6 208 yX6_guessIsSo ∈ am_BW := am_BW_i 524 rfl rfl
set_option maxRecDepth 16000 in
theorem wN_yX6_guessIsSo : Cond.instanceMethod yX6_guessIsSo ∈ am_BW := am_BW_i 526 rfl rfl
set_option maxRecDepth 16000 in
theorem wC_yX6_guessIsSo : Cond.code yX6_guessIsSo cX6_guessIsSo 1 (some .boolean) ∈ am_BW := am_BW_i 527 rfl rfl
set_option maxRecDepth 16000 in
theorem wM_X6_214 : Cond.methodLink RX6 214 yX1_areSo ∈ am_BW := am_BW_i 528 rfl rfl
set_option maxRecDepth 16000 in
theorem wN_yX1_areSo : Cond.instanceMethod yX1_areSo ∈ am_BW := am_BW_i 529 rfl rfl
set_option maxRecDepth 16000 in
theorem wE_yX1_areSo : Cond.selects RX1 yX1_areSo yX1_areSo ∈ am_BW := am_BW_i 530 rfl rfl
set_option maxRecDepth 16000 in
theorem wC_yX1_areSo : Cond.code yX1_areSo cX1_areSo 3 (some .boolean) ∈ am_BW := am_BW_i 531 rfl rfl
set_option maxRecDepth 16000 in
theorem wM_X1_25 : Cond.methodLink RX1 25 yX5_classDue ∈ am_BW := am_BW_i 532 rfl rfl
set_option maxRecDepth 16000 in
theorem wM_L_80 : Cond.methodLink RL 80 yX6_kinds ∈ am_BW := am_BW_i 533 rfl rfl
set_option maxRecDepth 16000 in
theorem wN_yX6_kinds : Cond.instanceMethod yX6_kinds ∈ am_BW := am_BW_i 534 rfl rfl
set_option maxRecDepth 16000 in
theorem wE_yX6_kinds : Cond.selects RX6 yX6_kinds yX6_kinds ∈ am_BW := am_BW_i 535 rfl rfl
set_option maxRecDepth 16000 in
theorem wC_yX6_kinds : Cond.code yX6_kinds cX6_kinds 4 (some .int) ∈ am_BW := am_BW_i 536 rfl rfl
set_option maxRecDepth 16000 in
theorem wM_L_84 : Cond.methodLink RL 84 yX6_fadings ∈ am_BW := am_BW_i 537 rfl rfl
set_option maxRecDepth 16000 in
theorem wN_yX6_fadings : Cond.instanceMethod yX6_fadings ∈ am_BW := am_BW_i 538 rfl rfl
set_option maxRecDepth 16000 in
theorem wE_yX6_fadings : Cond.selects RX6 yX6_fadings yX6_fadings ∈ am_BW := am_BW_i 539 rfl rfl
set_option maxRecDepth 16000 in
theorem wC_yX6_fadings : Cond.code yX6_fadings cX6_fadings 4 (some .int) ∈ am_BW := am_BW_i 540 rfl rfl
set_option maxRecDepth 16000 in
theorem wM_L_88 : Cond.methodLink RL 88 yX6_odds ∈ am_BW := am_BW_i 541 rfl rfl
set_option maxRecDepth 16000 in
theorem wN_yX6_odds : Cond.instanceMethod yX6_odds ∈ am_BW := am_BW_i 542 rfl rfl
set_option maxRecDepth 16000 in
theorem wE_yX6_odds : Cond.selects RX6 yX6_odds yX6_odds ∈ am_BW := am_BW_i 543 rfl rfl
set_option maxRecDepth 16000 in
theorem wC_yX6_odds : Cond.code yX6_odds cX6_odds 6 (some .long) ∈ am_BW := am_BW_i 544 rfl rfl
set_option maxRecDepth 16000 in
theorem wL_X6_218 : Cond.constantLong RX6 218 (-9223372036854775808) ∈ am_BW := am_BW_i 545 rfl rfl
set_option maxRecDepth 16000 in
theorem wM_X6_220 : Cond.methodLink RX6 220 yX6_waysToBeDue ∈ am_BW := am_BW_i 546 rfl rfl
set_option maxRecDepth 16000 in
theorem wN_yX6_waysToBeDue : Cond.instanceMethod yX6_waysToBeDue ∈ am_BW := am_BW_i 548 rfl rfl
set_option maxRecDepth 16000 in
theorem wC_yX6_waysToBeDue : Cond.code yX6_waysToBeDue cX6_waysToBeDue 6 (some .int) ∈ am_BW := am_BW_i 549 rfl rfl
set_option maxRecDepth 16000 in
theorem wM_X6_223 : Cond.methodLink RX6 223 yX5_digAndRide ∈ am_BW := am_BW_i 550 rfl rfl
set_option maxRecDepth 16000 in
theorem wN_yX5_digAndRide : Cond.instanceMethod yX5_digAndRide ∈ am_BW := am_BW_i 551 rfl rfl
set_option maxRecDepth 16000 in
theorem wE_yX5_digAndRide : Cond.selects RX5 yX5_digAndRide yX5_digAndRide ∈ am_BW := am_BW_i 552 rfl rfl
set_option maxRecDepth 16000 in
theorem wC_yX5_digAndRide : Cond.code yX5_digAndRide cX5_digAndRide 5 none ∈ am_BW := am_BW_i 553 rfl rfl
set_option maxRecDepth 16000 in
theorem wM_L_93 : Cond.methodLink RL 93 yX6_sheet ∈ am_BW := am_BW_i 554 rfl rfl
set_option maxRecDepth 16000 in
theorem wN_yX6_sheet : Cond.instanceMethod yX6_sheet ∈ am_BW := am_BW_i 555 rfl rfl
set_option maxRecDepth 16000 in
theorem wE_yX6_sheet : Cond.selects RX6 yX6_sheet yX6_sheet ∈ am_BW := am_BW_i 556 rfl rfl
set_option maxRecDepth 16000 in
theorem wC_yX6_sheet : Cond.code yX6_sheet cX6_sheet 4 (some .int) ∈ am_BW := am_BW_i 557 rfl rfl
set_option maxRecDepth 16000 in
theorem wM_X6_226 : Cond.methodLink RX6 226 yX6_comeTo ∈ am_BW := am_BW_i 558 rfl rfl
set_option maxRecDepth 16000 in
theorem wN_yX6_comeTo : Cond.instanceMethod yX6_comeTo ∈ am_BW := am_BW_i 560 rfl rfl
set_option maxRecDepth 16000 in
theorem wC_yX6_comeTo : Cond.code yX6_comeTo cX6_comeTo 2 (some .int) ∈ am_BW := am_BW_i 561 rfl rfl
set_option maxRecDepth 16000 in
theorem wM_X6_229 : Cond.methodLink RX6 229 yX3_renew ∈ am_BW := am_BW_i 562 rfl rfl
set_option maxRecDepth 16000 in
theorem wN_yX3_renew : Cond.instanceMethod yX3_renew ∈ am_BW := am_BW_i 563 rfl rfl
set_option maxRecDepth 16000 in
theorem wE_yX3_renew : Cond.selects RX3 yX3_renew yX3_renew ∈ am_BW := am_BW_i 564 rfl rfl
set_option maxRecDepth 16000 in
theorem wC_yX3_renew : Cond.code yX3_renew cX3_renew 3 none ∈ am_BW := am_BW_i 565 rfl rfl
set_option maxRecDepth 16000 in
theorem wM_X3_22 : Cond.methodLink RX3 22 yJ7_fill_53178 ∈ am_BW := am_BW_i 566 rfl rfl
set_option maxRecDepth 16000 in
theorem wM_L_97 : Cond.methodLink RL 97 yX6_lose ∈ am_BW := am_BW_i 567 rfl rfl
set_option maxRecDepth 16000 in
theorem wN_yX6_lose : Cond.instanceMethod yX6_lose ∈ am_BW := am_BW_i 568 rfl rfl
set_option maxRecDepth 16000 in
theorem wE_yX6_lose : Cond.selects RX6 yX6_lose yX6_lose ∈ am_BW := am_BW_i 569 rfl rfl
set_option maxRecDepth 16000 in
theorem wC_yX6_lose : Cond.code yX6_lose cX6_lose 3 (some .int) ∈ am_BW := am_BW_i 570 rfl rfl
set_option maxRecDepth 16000 in
theorem wM_X6_233 : Cond.methodLink RX6 233 yX3_hasNothing ∈ am_BW := am_BW_i 571 rfl rfl
set_option maxRecDepth 16000 in
theorem wM_L_101 : Cond.methodLink RL 101 yX6_put ∈ am_BW := am_BW_i 572 rfl rfl
set_option maxRecDepth 16000 in
theorem wN_yX6_put : Cond.instanceMethod yX6_put ∈ am_BW := am_BW_i 573 rfl rfl
set_option maxRecDepth 16000 in
theorem wE_yX6_put : Cond.selects RX6 yX6_put yX6_put ∈ am_BW := am_BW_i 574 rfl rfl
set_option maxRecDepth 16000 in
theorem wC_yX6_put : Cond.code yX6_put cX6_put 5 (some .int) ∈ am_BW := am_BW_i 575 rfl rfl
set_option maxRecDepth 16000 in
theorem wM_X6_239 : Cond.methodLink RX6 239 yX3_noCell ∈ am_BW := am_BW_i 576 rfl rfl
set_option maxRecDepth 16000 in
theorem wN_yX3_noCell : Cond.instanceMethod yX3_noCell ∈ am_BW := am_BW_i 577 rfl rfl
set_option maxRecDepth 16000 in
theorem wE_yX3_noCell : Cond.selects RX3 yX3_noCell yX3_noCell ∈ am_BW := am_BW_i 578 rfl rfl
set_option maxRecDepth 16000 in
theorem wC_yX3_noCell : Cond.code yX3_noCell cX3_noCell 2 (some .boolean) ∈ am_BW := am_BW_i 579 rfl rfl
set_option maxRecDepth 16000 in
theorem wM_X6_242 : Cond.methodLink RX6 242 yX3_cut ∈ am_BW := am_BW_i 580 rfl rfl
set_option maxRecDepth 16000 in
theorem wN_yX3_cut : Cond.instanceMethod yX3_cut ∈ am_BW := am_BW_i 581 rfl rfl
set_option maxRecDepth 16000 in
theorem wE_yX3_cut : Cond.selects RX3 yX3_cut yX3_cut ∈ am_BW := am_BW_i 582 rfl rfl
set_option maxRecDepth 16000 in
theorem wC_yX3_cut : Cond.code yX3_cut cX3_cut 2 (some .int) ∈ am_BW := am_BW_i 583 rfl rfl
set_option maxRecDepth 16000 in
theorem wM_L_105 : Cond.methodLink RL 105 yX6_cell ∈ am_BW := am_BW_i 584 rfl rfl
set_option maxRecDepth 16000 in
theorem wN_yX6_cell : Cond.instanceMethod yX6_cell ∈ am_BW := am_BW_i 585 rfl rfl
set_option maxRecDepth 16000 in
theorem wE_yX6_cell : Cond.selects RX6 yX6_cell yX6_cell ∈ am_BW := am_BW_i 586 rfl rfl
set_option maxRecDepth 16000 in
theorem wC_yX6_cell : Cond.code yX6_cell cX6_cell 5 (some .long) ∈ am_BW := am_BW_i 587 rfl rfl
set_option maxRecDepth 16000 in
theorem wM_X6_245 : Cond.methodLink RX6 245 yX3_faultOfRow ∈ am_BW := am_BW_i 588 rfl rfl
set_option maxRecDepth 16000 in
theorem wM_L_109 : Cond.methodLink RL 109 yX6_copy ∈ am_BW := am_BW_i 589 rfl rfl
set_option maxRecDepth 16000 in
theorem wN_yX6_copy : Cond.instanceMethod yX6_copy ∈ am_BW := am_BW_i 590 rfl rfl
set_option maxRecDepth 16000 in
theorem wE_yX6_copy : Cond.selects RX6 yX6_copy yX6_copy ∈ am_BW := am_BW_i 591 rfl rfl
set_option maxRecDepth 16000 in
theorem wC_yX6_copy : Cond.code yX6_copy cX6_copy 8 (some .int) ∈ am_BW := am_BW_i 592 rfl rfl
set_option maxRecDepth 16000 in
theorem wM_X6_248 : Cond.methodLink RX6 248 yX3_lacksCells ∈ am_BW := am_BW_i 593 rfl rfl
set_option maxRecDepth 16000 in
theorem wM_X6_251 : Cond.methodLink RX6 251 arraycopyName ∈ am_BW := am_BW_i 594 rfl rfl
set_option maxRecDepth 16000 in
theorem wM_L_113 : Cond.methodLink RL 113 yX6_tell ∈ am_BW := am_BW_i 595 rfl rfl
set_option maxRecDepth 16000 in
theorem wN_yX6_tell : Cond.instanceMethod yX6_tell ∈ am_BW := am_BW_i 596 rfl rfl
set_option maxRecDepth 16000 in
theorem wE_yX6_tell : Cond.selects RX6 yX6_tell yX6_tell ∈ am_BW := am_BW_i 597 rfl rfl
set_option maxRecDepth 16000 in
theorem wC_yX6_tell : Cond.code yX6_tell cX6_tell 2 (some .int) ∈ am_BW := am_BW_i 598 rfl rfl
set_option maxRecDepth 16000 in
theorem wM_X6_257 : Cond.methodLink RX6 257 yX6_tellHoneymooner ∈ am_BW := am_BW_i 599 rfl rfl
set_option maxRecDepth 16000 in
theorem wN_yX6_tellHoneymooner : Cond.instanceMethod yX6_tellHoneymooner ∈ am_BW := am_BW_i 601 rfl rfl
set_option maxRecDepth 16000 in
theorem wC_yX6_tellHoneymooner : Cond.code yX6_tellHoneymooner cX6_tellHoneymooner 3 (some .int) ∈ am_BW := am_BW_i 602 rfl rfl
set_option maxRecDepth 16000 in
theorem wM_X6_266 : Cond.methodLink RX6 266 yX6_leaveTrace ∈ am_BW := am_BW_i 603 rfl rfl
set_option maxRecDepth 16000 in
theorem wN_yX6_leaveTrace : Cond.instanceMethod yX6_leaveTrace ∈ am_BW := am_BW_i 605 rfl rfl
set_option maxRecDepth 16000 in
theorem wC_yX6_leaveTrace : Cond.code yX6_leaveTrace cX6_leaveTrace 2 none ∈ am_BW := am_BW_i 606 rfl rfl
set_option maxRecDepth 16000 in
theorem wM_X6_260 : Cond.methodLink RX6 260 yX6_tellWidow ∈ am_BW := am_BW_i 607 rfl rfl
set_option maxRecDepth 16000 in
theorem wN_yX6_tellWidow : Cond.instanceMethod yX6_tellWidow ∈ am_BW := am_BW_i 609 rfl rfl
set_option maxRecDepth 16000 in
theorem wC_yX6_tellWidow : Cond.code yX6_tellWidow cX6_tellWidow 2 (some .int) ∈ am_BW := am_BW_i 610 rfl rfl
set_option maxRecDepth 16000 in
theorem wM_X6_263 : Cond.methodLink RX6 263 yX6_tellPassenger ∈ am_BW := am_BW_i 611 rfl rfl
set_option maxRecDepth 16000 in
theorem wN_yX6_tellPassenger : Cond.instanceMethod yX6_tellPassenger ∈ am_BW := am_BW_i 613 rfl rfl
set_option maxRecDepth 16000 in
theorem wC_yX6_tellPassenger : Cond.code yX6_tellPassenger cX6_tellPassenger 2 (some .int) ∈ am_BW := am_BW_i 614 rfl rfl
set_option maxRecDepth 16000 in
theorem wM_L_117 : Cond.methodLink RL 117 yX6_call ∈ am_BW := am_BW_i 615 rfl rfl
set_option maxRecDepth 16000 in
theorem wN_yX6_call : Cond.instanceMethod yX6_call ∈ am_BW := am_BW_i 616 rfl rfl
set_option maxRecDepth 16000 in
theorem wE_yX6_call : Cond.selects RX6 yX6_call yX6_call ∈ am_BW := am_BW_i 617 rfl rfl
set_option maxRecDepth 16000 in
theorem wC_yX6_call : Cond.code yX6_call cX6_call 2 (some .int) ∈ am_BW := am_BW_i 618 rfl rfl
set_option maxRecDepth 16000 in
theorem wM_L_121 : Cond.methodLink RL 121 yX6_as ∈ am_BW := am_BW_i 619 rfl rfl
set_option maxRecDepth 16000 in
theorem wN_yX6_as : Cond.instanceMethod yX6_as ∈ am_BW := am_BW_i 620 rfl rfl
set_option maxRecDepth 16000 in
theorem wE_yX6_as : Cond.selects RX6 yX6_as yX6_as ∈ am_BW := am_BW_i 621 rfl rfl
set_option maxRecDepth 16000 in
theorem wC_yX6_as : Cond.code yX6_as cX6_as 3 (some .int) ∈ am_BW := am_BW_i 622 rfl rfl
set_option maxRecDepth 16000 in
theorem wM_L_125 : Cond.methodLink RL 125 yX6_trace ∈ am_BW := am_BW_i 623 rfl rfl
set_option maxRecDepth 16000 in
theorem wN_yX6_trace : Cond.instanceMethod yX6_trace ∈ am_BW := am_BW_i 624 rfl rfl
set_option maxRecDepth 16000 in
theorem wE_yX6_trace : Cond.selects RX6 yX6_trace yX6_trace ∈ am_BW := am_BW_i 625 rfl rfl
set_option maxRecDepth 16000 in
theorem wC_yX6_trace : Cond.code yX6_trace cX6_trace 1 (some .int) ∈ am_BW := am_BW_i 626 rfl rfl
set_option maxRecDepth 16000 in
theorem wM_L_129 : Cond.methodLink RL 129 yX6_fault ∈ am_BW := am_BW_i 627 rfl rfl
set_option maxRecDepth 16000 in
theorem wN_yX6_fault : Cond.instanceMethod yX6_fault ∈ am_BW := am_BW_i 628 rfl rfl
set_option maxRecDepth 16000 in
theorem wE_yX6_fault : Cond.selects RX6 yX6_fault yX6_fault ∈ am_BW := am_BW_i 629 rfl rfl
set_option maxRecDepth 16000 in
theorem wC_yX6_fault : Cond.code yX6_fault cX6_fault 1 (some .int) ∈ am_BW := am_BW_i 630 rfl rfl
set_option maxRecDepth 16000 in
theorem wM_L_133 : Cond.methodLink RL 133 yX6_many ∈ am_BW := am_BW_i 631 rfl rfl
set_option maxRecDepth 16000 in
theorem wN_yX6_many : Cond.instanceMethod yX6_many ∈ am_BW := am_BW_i 632 rfl rfl
set_option maxRecDepth 16000 in
theorem wE_yX6_many : Cond.selects RX6 yX6_many yX6_many ∈ am_BW := am_BW_i 633 rfl rfl
set_option maxRecDepth 16000 in
theorem wC_yX6_many : Cond.code yX6_many cX6_many 2 (some .int) ∈ am_BW := am_BW_i 634 rfl rfl
set_option maxRecDepth 16000 in
theorem wK_L_10 : Cond.classLink RL 10 RX7 ∈ am_BW := am_BW_i 635 rfl rfl
set_option maxRecDepth 16000 in
theorem wT_X7 : Cond.instantiable RX7 30 ∈ lw_tbl := List.mem_of_getElem? (i := 636) rfl
set_option maxRecDepth 16000 in
theorem wM_L_12 : Cond.methodLink RL 12 yX7_init ∈ am_BW := am_BW_i 637 rfl rfl
set_option maxRecDepth 16000 in
theorem wN_yX7_init : Cond.instanceMethod yX7_init ∈ am_BW := am_BW_i 638 rfl rfl
set_option maxRecDepth 16000 in
theorem wC_yX7_init : Cond.code yX7_init cX7_init 1 none ∈ am_BW := am_BW_i 639 rfl rfl
set_option maxRecDepth 16000 in
theorem wM_X7_1 : Cond.methodLink RX7 1 objectInit ∈ am_BW := am_BW_i 640 rfl rfl
set_option maxRecDepth 16000 in
theorem wF_X7_71 : Cond.fieldLink RX7 71 "RegretLineModel" "fault" "I" ∈ am_BW := am_BW_i 641 rfl rfl
set_option maxRecDepth 16000 in
theorem wF_X7_229 : Cond.fieldLink RX7 229 "RegretLineModel" "trace" "I" ∈ am_BW := am_BW_i 642 rfl rfl
set_option maxRecDepth 16000 in
theorem wF_X7_9 : Cond.fieldLink RX7 9 "RegretLineModel" "sorts" "[I" ∈ am_BW := am_BW_i 643 rfl rfl
set_option maxRecDepth 16000 in
theorem wF_X7_13 : Cond.fieldLink RX7 13 "RegretLineModel" "sheetLong" "[I" ∈ am_BW := am_BW_i 644 rfl rfl
set_option maxRecDepth 16000 in
theorem wF_X7_16 : Cond.fieldLink RX7 16 "RegretLineModel" "cells" "[I" ∈ am_BW := am_BW_i 645 rfl rfl
set_option maxRecDepth 16000 in
theorem wF_X7_84 : Cond.fieldLink RX7 84 "RegretLineModel" "miles" "I" ∈ am_BW := am_BW_i 646 rfl rfl
set_option maxRecDepth 16000 in
theorem wF_X7_81 : Cond.fieldLink RX7 81 "RegretLineModel" "people" "I" ∈ am_BW := am_BW_i 647 rfl rfl
set_option maxRecDepth 16000 in
theorem wF_X7_117 : Cond.fieldLink RX7 117 "RegretLineModel" "first" "I" ∈ am_BW := am_BW_i 648 rfl rfl
set_option maxRecDepth 16000 in
theorem wF_X7_120 : Cond.fieldLink RX7 120 "RegretLineModel" "second" "I" ∈ am_BW := am_BW_i 649 rfl rfl
set_option maxRecDepth 16000 in
theorem wF_X7_19 : Cond.fieldLink RX7 19 "RegretLineModel" "seatsOf" "[I" ∈ am_BW := am_BW_i 650 rfl rfl
set_option maxRecDepth 16000 in
theorem wF_X7_22 : Cond.fieldLink RX7 22 "RegretLineModel" "isTunnel" "[Z" ∈ am_BW := am_BW_i 651 rfl rfl
set_option maxRecDepth 16000 in
theorem wF_X7_26 : Cond.fieldLink RX7 26 "RegretLineModel" "talksA" "[I" ∈ am_BW := am_BW_i 652 rfl rfl
set_option maxRecDepth 16000 in
theorem wF_X7_29 : Cond.fieldLink RX7 29 "RegretLineModel" "talksB" "[I" ∈ am_BW := am_BW_i 653 rfl rfl
set_option maxRecDepth 16000 in
theorem wF_X7_32 : Cond.fieldLink RX7 32 "RegretLineModel" "kind" "[I" ∈ am_BW := am_BW_i 654 rfl rfl
set_option maxRecDepth 16000 in
theorem wF_X7_35 : Cond.fieldLink RX7 35 "RegretLineModel" "began" "[I" ∈ am_BW := am_BW_i 655 rfl rfl
set_option maxRecDepth 16000 in
theorem wF_X7_38 : Cond.fieldLink RX7 38 "RegretLineModel" "fades" "[I" ∈ am_BW := am_BW_i 656 rfl rfl
set_option maxRecDepth 16000 in
theorem wF_X7_87 : Cond.fieldLink RX7 87 "RegretLineModel" "at" "I" ∈ am_BW := am_BW_i 657 rfl rfl
set_option maxRecDepth 16000 in
theorem wF_X7_111 : Cond.fieldLink RX7 111 "RegretLineModel" "readMiles" "I" ∈ am_BW := am_BW_i 658 rfl rfl
set_option maxRecDepth 16000 in
theorem wF_X7_114 : Cond.fieldLink RX7 114 "RegretLineModel" "readMany" "I" ∈ am_BW := am_BW_i 659 rfl rfl
set_option maxRecDepth 16000 in
theorem wF_X7_41 : Cond.fieldLink RX7 41 "RegretLineModel" "readSeats" "[I" ∈ am_BW := am_BW_i 660 rfl rfl
set_option maxRecDepth 16000 in
theorem wF_X7_44 : Cond.fieldLink RX7 44 "RegretLineModel" "readTunnel" "[Z" ∈ am_BW := am_BW_i 661 rfl rfl
set_option maxRecDepth 16000 in
theorem wF_X7_47 : Cond.fieldLink RX7 47 "RegretLineModel" "read" "[I" ∈ am_BW := am_BW_i 662 rfl rfl
set_option maxRecDepth 16000 in
theorem wF_X7_50 : Cond.fieldLink RX7 50 "RegretLineModel" "regrets" "[I" ∈ am_BW := am_BW_i 663 rfl rfl
set_option maxRecDepth 16000 in
theorem wF_X7_53 : Cond.fieldLink RX7 53 "RegretLineModel" "dues" "[I" ∈ am_BW := am_BW_i 664 rfl rfl
set_option maxRecDepth 16000 in
theorem wF_X7_56 : Cond.fieldLink RX7 56 "RegretLineModel" "trouble" "[I" ∈ am_BW := am_BW_i 665 rfl rfl
set_option maxRecDepth 16000 in
theorem wF_X7_59 : Cond.fieldLink RX7 59 "RegretLineModel" "unit" "[I" ∈ am_BW := am_BW_i 666 rfl rfl
set_option maxRecDepth 16000 in
theorem wF_X7_123 : Cond.fieldLink RX7 123 "RegretLineModel" "readings" "I" ∈ am_BW := am_BW_i 667 rfl rfl
set_option maxRecDepth 16000 in
theorem wF_X7_62 : Cond.fieldLink RX7 62 "RegretLineModel" "readWho" "[I" ∈ am_BW := am_BW_i 668 rfl rfl
set_option maxRecDepth 16000 in
theorem wF_X7_65 : Cond.fieldLink RX7 65 "RegretLineModel" "readMile" "[I" ∈ am_BW := am_BW_i 669 rfl rfl
set_option maxRecDepth 16000 in
theorem wF_X7_68 : Cond.fieldLink RX7 68 "RegretLineModel" "readClass" "[I" ∈ am_BW := am_BW_i 670 rfl rfl
set_option maxRecDepth 16000 in
theorem wM_L_17 : Cond.methodLink RL 17 yX7_line ∈ am_BW := am_BW_i 732 rfl rfl
set_option maxRecDepth 16000 in
theorem wN_yX7_line : Cond.instanceMethod yX7_line ∈ am_BW := am_BW_i 733 rfl rfl
set_option maxRecDepth 16000 in
theorem wE_yX7_line : Cond.selects RX7 yX7_line yX7_line ∈ am_BW := am_BW_i 734 rfl rfl
set_option maxRecDepth 16000 in
theorem wC_yX7_line : Cond.code yX7_line cX7_line 7 (some .int) ∈ am_BW := am_BW_i 735 rfl rfl
set_option maxRecDepth 16000 in
theorem wM_X7_90 : Cond.methodLink RX7 90 yX7_isSheet ∈ am_BW := am_BW_i 736 rfl rfl
set_option maxRecDepth 16000 in
theorem wS_yX7_isSheet : Cond.static yX7_isSheet ∈ am_BW := am_BW_i 737 rfl rfl
set_option maxRecDepth 16000 in
theorem wC_yX7_isSheet : Cond.code yX7_isSheet cX7_isSheet 1 (some .boolean) ∈ am_BW := am_BW_i 738 rfl rfl
set_option maxRecDepth 16000 in
theorem wM_X7_77 : Cond.methodLink RX7 77 yX7_within ∈ am_BW := am_BW_i 739 rfl rfl
set_option maxRecDepth 16000 in
theorem wS_yX7_within : Cond.static yX7_within ∈ am_BW := am_BW_i 740 rfl rfl
set_option maxRecDepth 16000 in
theorem wC_yX7_within : Cond.code yX7_within cX7_within 3 (some .boolean) ∈ am_BW := am_BW_i 741 rfl rfl
set_option maxRecDepth 16000 in
theorem wM_X7_94 : Cond.methodLink RX7 94 yX7_isSort ∈ am_BW := am_BW_i 742 rfl rfl
set_option maxRecDepth 16000 in
theorem wS_yX7_isSort : Cond.static yX7_isSort ∈ am_BW := am_BW_i 743 rfl rfl
set_option maxRecDepth 16000 in
theorem wC_yX7_isSort : Cond.code yX7_isSort cX7_isSort 1 (some .boolean) ∈ am_BW := am_BW_i 744 rfl rfl
set_option maxRecDepth 16000 in
theorem wM_X7_97 : Cond.methodLink RX7 97 yX7_against ∈ am_BW := am_BW_i 745 rfl rfl
set_option maxRecDepth 16000 in
theorem wN_yX7_against : Cond.instanceMethod yX7_against ∈ am_BW := am_BW_i 747 rfl rfl
set_option maxRecDepth 16000 in
theorem wC_yX7_against : Cond.code yX7_against cX7_against 5 (some .int) ∈ am_BW := am_BW_i 748 rfl rfl
set_option maxRecDepth 16000 in
theorem wM_X7_101 : Cond.methodLink RX7 101 yX7_fails ∈ am_BW := am_BW_i 749 rfl rfl
set_option maxRecDepth 16000 in
theorem wN_yX7_fails : Cond.instanceMethod yX7_fails ∈ am_BW := am_BW_i 751 rfl rfl
set_option maxRecDepth 16000 in
theorem wC_yX7_fails : Cond.code yX7_fails cX7_fails 2 (some .int) ∈ am_BW := am_BW_i 752 rfl rfl
set_option maxRecDepth 16000 in
theorem wM_X7_105 : Cond.methodLink RX7 105 yX7_readLine ∈ am_BW := am_BW_i 753 rfl rfl
set_option maxRecDepth 16000 in
theorem wN_yX7_readLine : Cond.instanceMethod yX7_readLine ∈ am_BW := am_BW_i 755 rfl rfl
set_option maxRecDepth 16000 in
theorem wC_yX7_readLine : Cond.code yX7_readLine cX7_readLine 3 (some .boolean) ∈ am_BW := am_BW_i 756 rfl rfl
set_option maxRecDepth 16000 in
theorem wM_X7_126 : Cond.methodLink RX7 126 yX7_isSign ∈ am_BW := am_BW_i 757 rfl rfl
set_option maxRecDepth 16000 in
theorem wN_yX7_isSign : Cond.instanceMethod yX7_isSign ∈ am_BW := am_BW_i 759 rfl rfl
set_option maxRecDepth 16000 in
theorem wC_yX7_isSign : Cond.code yX7_isSign cX7_isSign 3 (some .boolean) ∈ am_BW := am_BW_i 760 rfl rfl
set_option maxRecDepth 16000 in
theorem wM_X7_130 : Cond.methodLink RX7 130 yX7_digit ∈ am_BW := am_BW_i 761 rfl rfl
set_option maxRecDepth 16000 in
theorem wN_yX7_digit : Cond.instanceMethod yX7_digit ∈ am_BW := am_BW_i 763 rfl rfl
set_option maxRecDepth 16000 in
theorem wC_yX7_digit : Cond.code yX7_digit cX7_digit 4 (some .int) ∈ am_BW := am_BW_i 764 rfl rfl
set_option maxRecDepth 16000 in
theorem wM_X7_134 : Cond.methodLink RX7 134 yX7_readPassenger ∈ am_BW := am_BW_i 765 rfl rfl
set_option maxRecDepth 16000 in
theorem wN_yX7_readPassenger : Cond.instanceMethod yX7_readPassenger ∈ am_BW := am_BW_i 767 rfl rfl
set_option maxRecDepth 16000 in
theorem wC_yX7_readPassenger : Cond.code yX7_readPassenger cX7_readPassenger 6 (some .boolean) ∈ am_BW := am_BW_i 768 rfl rfl
set_option maxRecDepth 16000 in
theorem wM_X7_108 : Cond.methodLink RX7 108 yX7_takeLine ∈ am_BW := am_BW_i 769 rfl rfl
set_option maxRecDepth 16000 in
theorem wN_yX7_takeLine : Cond.instanceMethod yX7_takeLine ∈ am_BW := am_BW_i 771 rfl rfl
set_option maxRecDepth 16000 in
theorem wC_yX7_takeLine : Cond.code yX7_takeLine cX7_takeLine 2 none ∈ am_BW := am_BW_i 772 rfl rfl
set_option maxRecDepth 16000 in
theorem wM_L_22 : Cond.methodLink RL 22 yX7_ofPassenger ∈ am_BW := am_BW_i 773 rfl rfl
set_option maxRecDepth 16000 in
theorem wN_yX7_ofPassenger : Cond.instanceMethod yX7_ofPassenger ∈ am_BW := am_BW_i 774 rfl rfl
set_option maxRecDepth 16000 in
theorem wE_yX7_ofPassenger : Cond.selects RX7 yX7_ofPassenger yX7_ofPassenger ∈ am_BW := am_BW_i 775 rfl rfl
set_option maxRecDepth 16000 in
theorem wC_yX7_ofPassenger : Cond.code yX7_ofPassenger cX7_ofPassenger 3 (some .int) ∈ am_BW := am_BW_i 776 rfl rfl
set_option maxRecDepth 16000 in
theorem wM_X7_137 : Cond.methodLink RX7 137 yX7_isPassenger ∈ am_BW := am_BW_i 777 rfl rfl
set_option maxRecDepth 16000 in
theorem wN_yX7_isPassenger : Cond.instanceMethod yX7_isPassenger ∈ am_BW := am_BW_i 779 rfl rfl
set_option maxRecDepth 16000 in
theorem wC_yX7_isPassenger : Cond.code yX7_isPassenger cX7_isPassenger 2 (some .boolean) ∈ am_BW := am_BW_i 780 rfl rfl
set_option maxRecDepth 16000 in
theorem wM_L_26 : Cond.methodLink RL 26 yX7_seats ∈ am_BW := am_BW_i 781 rfl rfl
set_option maxRecDepth 16000 in
theorem wN_yX7_seats : Cond.instanceMethod yX7_seats ∈ am_BW := am_BW_i 782 rfl rfl
set_option maxRecDepth 16000 in
theorem wE_yX7_seats : Cond.selects RX7 yX7_seats yX7_seats ∈ am_BW := am_BW_i 783 rfl rfl
set_option maxRecDepth 16000 in
theorem wC_yX7_seats : Cond.code yX7_seats cX7_seats 4 (some .int) ∈ am_BW := am_BW_i 784 rfl rfl
set_option maxRecDepth 16000 in
theorem wM_L_30 : Cond.methodLink RL 30 yX7_limits ∈ am_BW := am_BW_i 785 rfl rfl
set_option maxRecDepth 16000 in
theorem wN_yX7_limits : Cond.instanceMethod yX7_limits ∈ am_BW := am_BW_i 786 rfl rfl
set_option maxRecDepth 16000 in
theorem wE_yX7_limits : Cond.selects RX7 yX7_limits yX7_limits ∈ am_BW := am_BW_i 787 rfl rfl
set_option maxRecDepth 16000 in
theorem wC_yX7_limits : Cond.code yX7_limits cX7_limits 4 (some .int) ∈ am_BW := am_BW_i 788 rfl rfl
set_option maxRecDepth 16000 in
theorem wM_L_35 : Cond.methodLink RL 35 yX7_dig ∈ am_BW := am_BW_i 789 rfl rfl
set_option maxRecDepth 16000 in
theorem wN_yX7_dig : Cond.instanceMethod yX7_dig ∈ am_BW := am_BW_i 790 rfl rfl
set_option maxRecDepth 16000 in
theorem wE_yX7_dig : Cond.selects RX7 yX7_dig yX7_dig ∈ am_BW := am_BW_i 791 rfl rfl
set_option maxRecDepth 16000 in
theorem wC_yX7_dig : Cond.code yX7_dig cX7_dig 4 (some .int) ∈ am_BW := am_BW_i 792 rfl rfl
set_option maxRecDepth 16000 in
theorem wM_X7_140 : Cond.methodLink RX7 140 yX7_isMile ∈ am_BW := am_BW_i 793 rfl rfl
set_option maxRecDepth 16000 in
theorem wN_yX7_isMile : Cond.instanceMethod yX7_isMile ∈ am_BW := am_BW_i 795 rfl rfl
set_option maxRecDepth 16000 in
theorem wC_yX7_isMile : Cond.code yX7_isMile cX7_isMile 2 (some .boolean) ∈ am_BW := am_BW_i 796 rfl rfl
set_option maxRecDepth 16000 in
theorem wM_L_40 : Cond.methodLink RL 40 yX7_talk ∈ am_BW := am_BW_i 797 rfl rfl
set_option maxRecDepth 16000 in
theorem wN_yX7_talk : Cond.instanceMethod yX7_talk ∈ am_BW := am_BW_i 798 rfl rfl
set_option maxRecDepth 16000 in
theorem wE_yX7_talk : Cond.selects RX7 yX7_talk yX7_talk ∈ am_BW := am_BW_i 799 rfl rfl
set_option maxRecDepth 16000 in
theorem wC_yX7_talk : Cond.code yX7_talk cX7_talk 6 (some .int) ∈ am_BW := am_BW_i 800 rfl rfl
set_option maxRecDepth 16000 in
theorem wM_L_44 : Cond.methodLink RL 44 yX7_regret ∈ am_BW := am_BW_i 801 rfl rfl
set_option maxRecDepth 16000 in
theorem wN_yX7_regret : Cond.instanceMethod yX7_regret ∈ am_BW := am_BW_i 802 rfl rfl
set_option maxRecDepth 16000 in
theorem wE_yX7_regret : Cond.selects RX7 yX7_regret yX7_regret ∈ am_BW := am_BW_i 803 rfl rfl
set_option maxRecDepth 16000 in
theorem wC_yX7_regret : Cond.code yX7_regret cX7_regret 3 (some .int) ∈ am_BW := am_BW_i 804 rfl rfl
set_option maxRecDepth 16000 in
theorem wM_X7_157 : Cond.methodLink RX7 157 yX7_goTo ∈ am_BW := am_BW_i 805 rfl rfl
set_option maxRecDepth 16000 in
theorem wN_yX7_goTo : Cond.instanceMethod yX7_goTo ∈ am_BW := am_BW_i 807 rfl rfl
set_option maxRecDepth 16000 in
theorem wC_yX7_goTo : Cond.code yX7_goTo cX7_goTo 3 none ∈ am_BW := am_BW_i 808 rfl rfl
set_option maxRecDepth 16000 in
theorem wM_X7_150 : Cond.methodLink RX7 150 yX7_begin ∈ am_BW := am_BW_i 809 rfl rfl
set_option maxRecDepth 16000 in
theorem wN_yX7_begin : Cond.instanceMethod yX7_begin ∈ am_BW := am_BW_i 811 rfl rfl
set_option maxRecDepth 16000 in
theorem wC_yX7_begin : Cond.code yX7_begin cX7_begin 2 none ∈ am_BW := am_BW_i 812 rfl rfl
set_option maxRecDepth 16000 in
theorem wM_X7_153 : Cond.methodLink RX7 153 yX7_goMile ∈ am_BW := am_BW_i 813 rfl rfl
set_option maxRecDepth 16000 in
theorem wN_yX7_goMile : Cond.instanceMethod yX7_goMile ∈ am_BW := am_BW_i 815 rfl rfl
set_option maxRecDepth 16000 in
theorem wC_yX7_goMile : Cond.code yX7_goMile cX7_goMile 4 none ∈ am_BW := am_BW_i 816 rfl rfl
set_option maxRecDepth 16000 in
theorem wM_X7_143 : Cond.methodLink RX7 143 yX7_changes ∈ am_BW := am_BW_i 817 rfl rfl
set_option maxRecDepth 16000 in
theorem wN_yX7_changes : Cond.instanceMethod yX7_changes ∈ am_BW := am_BW_i 819 rfl rfl
set_option maxRecDepth 16000 in
theorem wC_yX7_changes : Cond.code yX7_changes cX7_changes 3 (some .int) ∈ am_BW := am_BW_i 820 rfl rfl
set_option maxRecDepth 16000 in
theorem wM_X7_147 : Cond.methodLink RX7 147 yX7_bounded ∈ am_BW := am_BW_i 821 rfl rfl
set_option maxRecDepth 16000 in
theorem wS_yX7_bounded : Cond.static yX7_bounded ∈ am_BW := am_BW_i 822 rfl rfl
set_option maxRecDepth 16000 in
theorem wC_yX7_bounded : Cond.code yX7_bounded cX7_bounded 1 (some .int) ∈ am_BW := am_BW_i 823 rfl rfl
set_option maxRecDepth 16000 in
theorem wM_L_48 : Cond.methodLink RL 48 yX7_due ∈ am_BW := am_BW_i 824 rfl rfl
set_option maxRecDepth 16000 in
theorem wN_yX7_due : Cond.instanceMethod yX7_due ∈ am_BW := am_BW_i 825 rfl rfl
set_option maxRecDepth 16000 in
theorem wE_yX7_due : Cond.selects RX7 yX7_due yX7_due ∈ am_BW := am_BW_i 826 rfl rfl
set_option maxRecDepth 16000 in
theorem wC_yX7_due : Cond.code yX7_due cX7_due 4 (some .int) ∈ am_BW := am_BW_i 827 rfl rfl
set_option maxRecDepth 16000 in
theorem wM_X7_161 : Cond.methodLink RX7 161 yX7_regret ∈ am_BW := am_BW_i 828 rfl rfl
set_option maxRecDepth 16000 in
theorem wM_X7_165 : Cond.methodLink RX7 165 yX7_dueBy ∈ am_BW := am_BW_i 829 rfl rfl
set_option maxRecDepth 16000 in
theorem wN_yX7_dueBy : Cond.instanceMethod yX7_dueBy ∈ am_BW := am_BW_i 831 rfl rfl
set_option maxRecDepth 16000 in
theorem wC_yX7_dueBy : Cond.code yX7_dueBy cX7_dueBy 2 (some .int) ∈ am_BW := am_BW_i 832 rfl rfl
set_option maxRecDepth 16000 in
theorem wM_L_53 : Cond.methodLink RL 53 yX7_seating ∈ am_BW := am_BW_i 833 rfl rfl
set_option maxRecDepth 16000 in
theorem wN_yX7_seating : Cond.instanceMethod yX7_seating ∈ am_BW := am_BW_i 834 rfl rfl
set_option maxRecDepth 16000 in
theorem wE_yX7_seating : Cond.selects RX7 yX7_seating yX7_seating ∈ am_BW := am_BW_i 835 rfl rfl
set_option maxRecDepth 16000 in
theorem wC_yX7_seating : Cond.code yX7_seating cX7_seating 9 (some .int) ∈ am_BW := am_BW_i 836 rfl rfl
set_option maxRecDepth 16000 in
theorem wM_X7_171 : Cond.methodLink RX7 171 yX7_wrongBy ∈ am_BW := am_BW_i 837 rfl rfl
set_option maxRecDepth 16000 in
theorem wN_yX7_wrongBy : Cond.instanceMethod yX7_wrongBy ∈ am_BW := am_BW_i 839 rfl rfl
set_option maxRecDepth 16000 in
theorem wC_yX7_wrongBy : Cond.code yX7_wrongBy cX7_wrongBy 4 (some .int) ∈ am_BW := am_BW_i 840 rfl rfl
set_option maxRecDepth 16000 in
theorem wM_X7_168 : Cond.methodLink RX7 168 yX7_seatedIn ∈ am_BW := am_BW_i 841 rfl rfl
set_option maxRecDepth 16000 in
theorem wN_yX7_seatedIn : Cond.instanceMethod yX7_seatedIn ∈ am_BW := am_BW_i 843 rfl rfl
set_option maxRecDepth 16000 in
theorem wC_yX7_seatedIn : Cond.code yX7_seatedIn cX7_seatedIn 5 (some .int) ∈ am_BW := am_BW_i 844 rfl rfl
set_option maxRecDepth 16000 in
theorem wM_X7_174 : Cond.methodLink RX7 174 yX7_tellSeating ∈ am_BW := am_BW_i 845 rfl rfl
set_option maxRecDepth 16000 in
theorem wN_yX7_tellSeating : Cond.instanceMethod yX7_tellSeating ∈ am_BW := am_BW_i 847 rfl rfl
set_option maxRecDepth 16000 in
theorem wC_yX7_tellSeating : Cond.code yX7_tellSeating cX7_tellSeating 3 (some .int) ∈ am_BW := am_BW_i 848 rfl rfl
set_option maxRecDepth 16000 in
theorem wM_X7_177 : Cond.methodLink RX7 177 yX7_layDues ∈ am_BW := am_BW_i 849 rfl rfl
set_option maxRecDepth 16000 in
theorem wN_yX7_layDues : Cond.instanceMethod yX7_layDues ∈ am_BW := am_BW_i 851 rfl rfl
set_option maxRecDepth 16000 in
theorem wC_yX7_layDues : Cond.code yX7_layDues cX7_layDues 3 none ∈ am_BW := am_BW_i 852 rfl rfl
set_option maxRecDepth 16000 in
theorem wM_X7_180 : Cond.methodLink RX7 180 yX7_changesBy ∈ am_BW := am_BW_i 853 rfl rfl
set_option maxRecDepth 16000 in
theorem wN_yX7_changesBy : Cond.instanceMethod yX7_changesBy ∈ am_BW := am_BW_i 855 rfl rfl
set_option maxRecDepth 16000 in
theorem wC_yX7_changesBy : Cond.code yX7_changesBy cX7_changesBy 4 (some .int) ∈ am_BW := am_BW_i 856 rfl rfl
set_option maxRecDepth 16000 in
theorem wM_X7_183 : Cond.methodLink RX7 183 yX7_lowBy ∈ am_BW := am_BW_i 857 rfl rfl
set_option maxRecDepth 16000 in
theorem wN_yX7_lowBy : Cond.instanceMethod yX7_lowBy ∈ am_BW := am_BW_i 859 rfl rfl
set_option maxRecDepth 16000 in
theorem wC_yX7_lowBy : Cond.code yX7_lowBy cX7_lowBy 5 (some .int) ∈ am_BW := am_BW_i 860 rfl rfl
set_option maxRecDepth 16000 in
theorem wM_X7_186 : Cond.methodLink RX7 186 yX7_aboveBy ∈ am_BW := am_BW_i 861 rfl rfl
set_option maxRecDepth 16000 in
theorem wN_yX7_aboveBy : Cond.instanceMethod yX7_aboveBy ∈ am_BW := am_BW_i 863 rfl rfl
set_option maxRecDepth 16000 in
theorem wC_yX7_aboveBy : Cond.code yX7_aboveBy cX7_aboveBy 6 (some .int) ∈ am_BW := am_BW_i 864 rfl rfl
set_option maxRecDepth 16000 in
theorem wM_L_58 : Cond.methodLink RL 58 yX7_ease ∈ am_BW := am_BW_i 865 rfl rfl
set_option maxRecDepth 16000 in
theorem wN_yX7_ease : Cond.instanceMethod yX7_ease ∈ am_BW := am_BW_i 866 rfl rfl
set_option maxRecDepth 16000 in
theorem wE_yX7_ease : Cond.selects RX7 yX7_ease yX7_ease ∈ am_BW := am_BW_i 867 rfl rfl
set_option maxRecDepth 16000 in
theorem wC_yX7_ease : Cond.code yX7_ease cX7_ease 5 (some .int) ∈ am_BW := am_BW_i 868 rfl rfl
set_option maxRecDepth 16000 in
theorem wM_X7_201 : Cond.methodLink RX7 201 yX7_rows ∈ am_BW := am_BW_i 869 rfl rfl
set_option maxRecDepth 16000 in
theorem wN_yX7_rows : Cond.instanceMethod yX7_rows ∈ am_BW := am_BW_i 871 rfl rfl
set_option maxRecDepth 16000 in
theorem wC_yX7_rows : Cond.code yX7_rows cX7_rows 3 (some .int) ∈ am_BW := am_BW_i 872 rfl rfl
set_option maxRecDepth 16000 in
theorem wM_X7_205 : Cond.methodLink RX7 205 yX7_findEase ∈ am_BW := am_BW_i 873 rfl rfl
set_option maxRecDepth 16000 in
theorem wN_yX7_findEase : Cond.instanceMethod yX7_findEase ∈ am_BW := am_BW_i 875 rfl rfl
set_option maxRecDepth 16000 in
theorem wC_yX7_findEase : Cond.code yX7_findEase cX7_findEase 6 none ∈ am_BW := am_BW_i 876 rfl rfl
set_option maxRecDepth 16000 in
theorem wM_X7_195 : Cond.methodLink RX7 195 yX7_lowIn ∈ am_BW := am_BW_i 877 rfl rfl
set_option maxRecDepth 16000 in
theorem wN_yX7_lowIn : Cond.instanceMethod yX7_lowIn ∈ am_BW := am_BW_i 879 rfl rfl
set_option maxRecDepth 16000 in
theorem wC_yX7_lowIn : Cond.code yX7_lowIn cX7_lowIn 7 (some .int) ∈ am_BW := am_BW_i 880 rfl rfl
set_option maxRecDepth 16000 in
theorem wM_X7_189 : Cond.methodLink RX7 189 yX7_place ∈ am_BW := am_BW_i 881 rfl rfl
set_option maxRecDepth 16000 in
theorem wN_yX7_place : Cond.instanceMethod yX7_place ∈ am_BW := am_BW_i 883 rfl rfl
set_option maxRecDepth 16000 in
theorem wC_yX7_place : Cond.code yX7_place cX7_place 3 (some .int) ∈ am_BW := am_BW_i 884 rfl rfl
set_option maxRecDepth 16000 in
theorem wM_X7_198 : Cond.methodLink RX7 198 yX7_bestBehind ∈ am_BW := am_BW_i 885 rfl rfl
set_option maxRecDepth 16000 in
theorem wN_yX7_bestBehind : Cond.instanceMethod yX7_bestBehind ∈ am_BW := am_BW_i 887 rfl rfl
set_option maxRecDepth 16000 in
theorem wC_yX7_bestBehind : Cond.code yX7_bestBehind cX7_bestBehind 7 (some .int) ∈ am_BW := am_BW_i 888 rfl rfl
set_option maxRecDepth 16000 in
theorem wM_X7_192 : Cond.methodLink RX7 192 yX7_changed ∈ am_BW := am_BW_i 889 rfl rfl
set_option maxRecDepth 16000 in
theorem wN_yX7_changed : Cond.instanceMethod yX7_changed ∈ am_BW := am_BW_i 891 rfl rfl
set_option maxRecDepth 16000 in
theorem wC_yX7_changed : Cond.code yX7_changed cX7_changed 5 (some .int) ∈ am_BW := am_BW_i 892 rfl rfl
set_option maxRecDepth 16000 in
theorem wM_X7_208 : Cond.methodLink RX7 208 yX7_bestRow ∈ am_BW := am_BW_i 893 rfl rfl
set_option maxRecDepth 16000 in
theorem wN_yX7_bestRow : Cond.instanceMethod yX7_bestRow ∈ am_BW := am_BW_i 895 rfl rfl
set_option maxRecDepth 16000 in
theorem wC_yX7_bestRow : Cond.code yX7_bestRow cX7_bestRow 8 (some .int) ∈ am_BW := am_BW_i 896 rfl rfl
set_option maxRecDepth 16000 in
theorem wM_L_63 : Cond.methodLink RL 63 yX7_stuck ∈ am_BW := am_BW_i 897 rfl rfl
set_option maxRecDepth 16000 in
theorem wN_yX7_stuck : Cond.instanceMethod yX7_stuck ∈ am_BW := am_BW_i 898 rfl rfl
set_option maxRecDepth 16000 in
theorem wE_yX7_stuck : Cond.selects RX7 yX7_stuck yX7_stuck ∈ am_BW := am_BW_i 899 rfl rfl
set_option maxRecDepth 16000 in
theorem wC_yX7_stuck : Cond.code yX7_stuck cX7_stuck 5 (some .int) ∈ am_BW := am_BW_i 900 rfl rfl
set_option maxRecDepth 16000 in
theorem wM_L_67 : Cond.methodLink RL 67 yX7_help ∈ am_BW := am_BW_i 901 rfl rfl
set_option maxRecDepth 16000 in
theorem wN_yX7_help : Cond.instanceMethod yX7_help ∈ am_BW := am_BW_i 902 rfl rfl
set_option maxRecDepth 16000 in
theorem wE_yX7_help : Cond.selects RX7 yX7_help yX7_help ∈ am_BW := am_BW_i 903 rfl rfl
set_option maxRecDepth 16000 in
theorem wC_yX7_help : Cond.code yX7_help cX7_help 8 (some .int) ∈ am_BW := am_BW_i 904 rfl rfl
set_option maxRecDepth 16000 in
theorem wM_X7_211 : Cond.methodLink RX7 211 yX7_dueTogether ∈ am_BW := am_BW_i 905 rfl rfl
set_option maxRecDepth 16000 in
theorem wN_yX7_dueTogether : Cond.instanceMethod yX7_dueTogether ∈ am_BW := am_BW_i 907 rfl rfl
set_option maxRecDepth 16000 in
theorem wC_yX7_dueTogether : Cond.code yX7_dueTogether cX7_dueTogether 5 (some .int) ∈ am_BW := am_BW_i 908 rfl rfl
set_option maxRecDepth 16000 in
theorem wM_L_71 : Cond.methodLink RL 71 yX7_reading ∈ am_BW := am_BW_i 909 rfl rfl
set_option maxRecDepth 16000 in
theorem wN_yX7_reading : Cond.instanceMethod yX7_reading ∈ am_BW := am_BW_i 910 rfl rfl
set_option maxRecDepth 16000 in
theorem wE_yX7_reading : Cond.selects RX7 yX7_reading yX7_reading ∈ am_BW := am_BW_i 911 rfl rfl
set_option maxRecDepth 16000 in
theorem wC_yX7_reading : Cond.code yX7_reading cX7_reading 4 (some .int) ∈ am_BW := am_BW_i 912 rfl rfl
set_option maxRecDepth 16000 in
theorem wM_L_75 : Cond.methodLink RL 75 yX7_back ∈ am_BW := am_BW_i 913 rfl rfl
set_option maxRecDepth 16000 in
theorem wN_yX7_back : Cond.instanceMethod yX7_back ∈ am_BW := am_BW_i 914 rfl rfl
set_option maxRecDepth 16000 in
theorem wE_yX7_back : Cond.selects RX7 yX7_back yX7_back ∈ am_BW := am_BW_i 915 rfl rfl
set_option maxRecDepth 16000 in
theorem wC_yX7_back : Cond.code yX7_back cX7_back 2 (some .int) ∈ am_BW := am_BW_i 916 rfl rfl
set_option maxRecDepth 16000 in
theorem wM_L_79 : Cond.methodLink RL 79 yX7_began ∈ am_BW := am_BW_i 917 rfl rfl
set_option maxRecDepth 16000 in
theorem wN_yX7_began : Cond.instanceMethod yX7_began ∈ am_BW := am_BW_i 918 rfl rfl
set_option maxRecDepth 16000 in
theorem wE_yX7_began : Cond.selects RX7 yX7_began yX7_began ∈ am_BW := am_BW_i 919 rfl rfl
set_option maxRecDepth 16000 in
theorem wC_yX7_began : Cond.code yX7_began cX7_began 7 (some .int) ∈ am_BW := am_BW_i 920 rfl rfl
set_option maxRecDepth 16000 in
theorem wM_X7_217 : Cond.methodLink RX7 217 yX7_areSo ∈ am_BW := am_BW_i 921 rfl rfl
set_option maxRecDepth 16000 in
theorem wN_yX7_areSo : Cond.instanceMethod yX7_areSo ∈ am_BW := am_BW_i 923 rfl rfl
set_option maxRecDepth 16000 in
theorem wC_yX7_areSo : Cond.code yX7_areSo cX7_areSo 2 (some .boolean) ∈ am_BW := am_BW_i 924 rfl rfl
set_option maxRecDepth 16000 in
theorem wM_X7_214 : Cond.methodLink RX7 214 yX7_areSoIn ∈ am_BW := am_BW_i 925 rfl rfl
set_option maxRecDepth 16000 in
theorem wN_yX7_areSoIn : Cond.instanceMethod yX7_areSoIn ∈ am_BW := am_BW_i 927 rfl rfl
set_option maxRecDepth 16000 in
theorem wC_yX7_areSoIn : Cond.code yX7_areSoIn cX7_areSoIn 3 (some .boolean) ∈ am_BW := am_BW_i 928 rfl rfl
set_option maxRecDepth 16000 in
theorem wM_L_83 : Cond.methodLink RL 83 yX7_kinds ∈ am_BW := am_BW_i 929 rfl rfl
set_option maxRecDepth 16000 in
theorem wN_yX7_kinds : Cond.instanceMethod yX7_kinds ∈ am_BW := am_BW_i 930 rfl rfl
set_option maxRecDepth 16000 in
theorem wE_yX7_kinds : Cond.selects RX7 yX7_kinds yX7_kinds ∈ am_BW := am_BW_i 931 rfl rfl
set_option maxRecDepth 16000 in
theorem wC_yX7_kinds : Cond.code yX7_kinds cX7_kinds 5 (some .int) ∈ am_BW := am_BW_i 932 rfl rfl
set_option maxRecDepth 16000 in
theorem wM_L_87 : Cond.methodLink RL 87 yX7_fadings ∈ am_BW := am_BW_i 933 rfl rfl
set_option maxRecDepth 16000 in
theorem wN_yX7_fadings : Cond.instanceMethod yX7_fadings ∈ am_BW := am_BW_i 934 rfl rfl
set_option maxRecDepth 16000 in
theorem wE_yX7_fadings : Cond.selects RX7 yX7_fadings yX7_fadings ∈ am_BW := am_BW_i 935 rfl rfl
set_option maxRecDepth 16000 in
theorem wC_yX7_fadings : Cond.code yX7_fadings cX7_fadings 5 (some .int) ∈ am_BW := am_BW_i 936 rfl rfl
set_option maxRecDepth 16000 in
theorem wM_L_92 : Cond.methodLink RL 92 yX7_odds ∈ am_BW := am_BW_i 937 rfl rfl
set_option maxRecDepth 16000 in
theorem wN_yX7_odds : Cond.instanceMethod yX7_odds ∈ am_BW := am_BW_i 938 rfl rfl
set_option maxRecDepth 16000 in
theorem wE_yX7_odds : Cond.selects RX7 yX7_odds yX7_odds ∈ am_BW := am_BW_i 939 rfl rfl
set_option maxRecDepth 16000 in
theorem wC_yX7_odds : Cond.code yX7_odds cX7_odds 7 (some .long) ∈ am_BW := am_BW_i 940 rfl rfl
set_option maxRecDepth 16000 in
theorem wL_X7_75 : Cond.constantLong RX7 75 (-9223372036854775808) ∈ am_BW := am_BW_i 941 rfl rfl
set_option maxRecDepth 16000 in
theorem wM_X7_221 : Cond.methodLink RX7 221 yX7_inLeastTerms ∈ am_BW := am_BW_i 942 rfl rfl
set_option maxRecDepth 16000 in
theorem wS_yX7_inLeastTerms : Cond.static yX7_inLeastTerms ∈ am_BW := am_BW_i 943 rfl rfl
set_option maxRecDepth 16000 in
theorem wC_yX7_inLeastTerms : Cond.code yX7_inLeastTerms cX7_inLeastTerms 11 (some .long) ∈ am_BW := am_BW_i 944 rfl rfl
set_option maxRecDepth 16000 in
theorem wM_L_96 : Cond.methodLink RL 96 yX7_sheet ∈ am_BW := am_BW_i 945 rfl rfl
set_option maxRecDepth 16000 in
theorem wN_yX7_sheet : Cond.instanceMethod yX7_sheet ∈ am_BW := am_BW_i 946 rfl rfl
set_option maxRecDepth 16000 in
theorem wE_yX7_sheet : Cond.selects RX7 yX7_sheet yX7_sheet ∈ am_BW := am_BW_i 947 rfl rfl
set_option maxRecDepth 16000 in
theorem wC_yX7_sheet : Cond.code yX7_sheet cX7_sheet 5 (some .int) ∈ am_BW := am_BW_i 948 rfl rfl
set_option maxRecDepth 16000 in
theorem wM_L_100 : Cond.methodLink RL 100 yX7_lose ∈ am_BW := am_BW_i 949 rfl rfl
set_option maxRecDepth 16000 in
theorem wN_yX7_lose : Cond.instanceMethod yX7_lose ∈ am_BW := am_BW_i 950 rfl rfl
set_option maxRecDepth 16000 in
theorem wE_yX7_lose : Cond.selects RX7 yX7_lose yX7_lose ∈ am_BW := am_BW_i 951 rfl rfl
set_option maxRecDepth 16000 in
theorem wC_yX7_lose : Cond.code yX7_lose cX7_lose 3 (some .int) ∈ am_BW := am_BW_i 952 rfl rfl
set_option maxRecDepth 16000 in
theorem wM_L_104 : Cond.methodLink RL 104 yX7_put ∈ am_BW := am_BW_i 953 rfl rfl
set_option maxRecDepth 16000 in
theorem wN_yX7_put : Cond.instanceMethod yX7_put ∈ am_BW := am_BW_i 954 rfl rfl
set_option maxRecDepth 16000 in
theorem wE_yX7_put : Cond.selects RX7 yX7_put yX7_put ∈ am_BW := am_BW_i 955 rfl rfl
set_option maxRecDepth 16000 in
theorem wC_yX7_put : Cond.code yX7_put cX7_put 4 (some .int) ∈ am_BW := am_BW_i 956 rfl rfl
set_option maxRecDepth 16000 in
theorem wM_L_108 : Cond.methodLink RL 108 yX7_cell ∈ am_BW := am_BW_i 957 rfl rfl
set_option maxRecDepth 16000 in
theorem wN_yX7_cell : Cond.instanceMethod yX7_cell ∈ am_BW := am_BW_i 958 rfl rfl
set_option maxRecDepth 16000 in
theorem wE_yX7_cell : Cond.selects RX7 yX7_cell yX7_cell ∈ am_BW := am_BW_i 959 rfl rfl
set_option maxRecDepth 16000 in
theorem wC_yX7_cell : Cond.code yX7_cell cX7_cell 4 (some .long) ∈ am_BW := am_BW_i 960 rfl rfl
set_option maxRecDepth 16000 in
theorem wM_X7_225 : Cond.methodLink RX7 225 yX7_lost ∈ am_BW := am_BW_i 961 rfl rfl
set_option maxRecDepth 16000 in
theorem wN_yX7_lost : Cond.instanceMethod yX7_lost ∈ am_BW := am_BW_i 963 rfl rfl
set_option maxRecDepth 16000 in
theorem wC_yX7_lost : Cond.code yX7_lost cX7_lost 2 (some .long) ∈ am_BW := am_BW_i 964 rfl rfl
set_option maxRecDepth 16000 in
theorem wM_L_112 : Cond.methodLink RL 112 yX7_copy ∈ am_BW := am_BW_i 965 rfl rfl
set_option maxRecDepth 16000 in
theorem wN_yX7_copy : Cond.instanceMethod yX7_copy ∈ am_BW := am_BW_i 966 rfl rfl
set_option maxRecDepth 16000 in
theorem wE_yX7_copy : Cond.selects RX7 yX7_copy yX7_copy ∈ am_BW := am_BW_i 967 rfl rfl
set_option maxRecDepth 16000 in
theorem wC_yX7_copy : Cond.code yX7_copy cX7_copy 10 (some .int) ∈ am_BW := am_BW_i 968 rfl rfl
set_option maxRecDepth 16000 in
theorem wM_L_116 : Cond.methodLink RL 116 yX7_tell ∈ am_BW := am_BW_i 969 rfl rfl
set_option maxRecDepth 16000 in
theorem wN_yX7_tell : Cond.instanceMethod yX7_tell ∈ am_BW := am_BW_i 970 rfl rfl
set_option maxRecDepth 16000 in
theorem wE_yX7_tell : Cond.selects RX7 yX7_tell yX7_tell ∈ am_BW := am_BW_i 971 rfl rfl
set_option maxRecDepth 16000 in
theorem wC_yX7_tell : Cond.code yX7_tell cX7_tell 3 (some .int) ∈ am_BW := am_BW_i 972 rfl rfl
set_option maxRecDepth 16000 in
theorem wM_X7_232 : Cond.methodLink RX7 232 yX7_begins ∈ am_BW := am_BW_i 973 rfl rfl
set_option maxRecDepth 16000 in
theorem wN_yX7_begins : Cond.instanceMethod yX7_begins ∈ am_BW := am_BW_i 975 rfl rfl
set_option maxRecDepth 16000 in
theorem wC_yX7_begins : Cond.code yX7_begins cX7_begins 2 none ∈ am_BW := am_BW_i 976 rfl rfl
set_option maxRecDepth 16000 in
theorem wM_L_120 : Cond.methodLink RL 120 yX7_call ∈ am_BW := am_BW_i 977 rfl rfl
set_option maxRecDepth 16000 in
theorem wN_yX7_call : Cond.instanceMethod yX7_call ∈ am_BW := am_BW_i 978 rfl rfl
set_option maxRecDepth 16000 in
theorem wE_yX7_call : Cond.selects RX7 yX7_call yX7_call ∈ am_BW := am_BW_i 979 rfl rfl
set_option maxRecDepth 16000 in
theorem wC_yX7_call : Cond.code yX7_call cX7_call 2 (some .int) ∈ am_BW := am_BW_i 980 rfl rfl
set_option maxRecDepth 16000 in
theorem wM_L_124 : Cond.methodLink RL 124 yX7_as ∈ am_BW := am_BW_i 981 rfl rfl
set_option maxRecDepth 16000 in
theorem wN_yX7_as : Cond.instanceMethod yX7_as ∈ am_BW := am_BW_i 982 rfl rfl
set_option maxRecDepth 16000 in
theorem wE_yX7_as : Cond.selects RX7 yX7_as yX7_as ∈ am_BW := am_BW_i 983 rfl rfl
set_option maxRecDepth 16000 in
theorem wC_yX7_as : Cond.code yX7_as cX7_as 3 (some .int) ∈ am_BW := am_BW_i 984 rfl rfl
set_option maxRecDepth 16000 in
theorem wM_L_128 : Cond.methodLink RL 128 yX7_trace ∈ am_BW := am_BW_i 985 rfl rfl
set_option maxRecDepth 16000 in
theorem wN_yX7_trace : Cond.instanceMethod yX7_trace ∈ am_BW := am_BW_i 986 rfl rfl
set_option maxRecDepth 16000 in
theorem wE_yX7_trace : Cond.selects RX7 yX7_trace yX7_trace ∈ am_BW := am_BW_i 987 rfl rfl
set_option maxRecDepth 16000 in
theorem wC_yX7_trace : Cond.code yX7_trace cX7_trace 1 (some .int) ∈ am_BW := am_BW_i 988 rfl rfl
set_option maxRecDepth 16000 in
theorem wM_L_132 : Cond.methodLink RL 132 yX7_fault ∈ am_BW := am_BW_i 989 rfl rfl
set_option maxRecDepth 16000 in
theorem wN_yX7_fault : Cond.instanceMethod yX7_fault ∈ am_BW := am_BW_i 990 rfl rfl
set_option maxRecDepth 16000 in
theorem wE_yX7_fault : Cond.selects RX7 yX7_fault yX7_fault ∈ am_BW := am_BW_i 991 rfl rfl
set_option maxRecDepth 16000 in
theorem wC_yX7_fault : Cond.code yX7_fault cX7_fault 1 (some .int) ∈ am_BW := am_BW_i 992 rfl rfl
set_option maxRecDepth 16000 in
theorem wM_L_136 : Cond.methodLink RL 136 yX7_many ∈ am_BW := am_BW_i 993 rfl rfl
set_option maxRecDepth 16000 in
theorem wN_yX7_many : Cond.instanceMethod yX7_many ∈ am_BW := am_BW_i 994 rfl rfl
set_option maxRecDepth 16000 in
theorem wE_yX7_many : Cond.selects RX7 yX7_many yX7_many ∈ am_BW := am_BW_i 995 rfl rfl
set_option maxRecDepth 16000 in
theorem wC_yX7_many : Cond.code yX7_many cX7_many 2 (some .int) ∈ am_BW := am_BW_i 996 rfl rfl
theorem am_inB {ws : List Cond} (h2 : ws.all (fun w => decide (w ∈ lw_tbl) && goodWord w) = true) : ∀ w ∈ ws, w ∈ am_BW := by
  intro w h
  have h3 := List.all_eq_true.mp h2 w h
  simp only [Bool.and_eq_true, decide_eq_true_eq] at h3
  exact List.mem_filter.mpr h3
set_option maxRecDepth 16000 in
theorem inBX0 : ∀ w ∈ wsX00, w ∈ am_BW := am_inB (by decide +kernel)
set_option maxRecDepth 16000 in
theorem inBX1 : ∀ w ∈ wsX10, w ∈ am_BW := am_inB (by decide +kernel)
set_option maxRecDepth 16000 in
theorem inBX2 : ∀ w ∈ wsX20, w ∈ am_BW := am_inB (by decide +kernel)
set_option maxRecDepth 16000 in
theorem inBX3 : ∀ w ∈ wsX30, w ∈ am_BW := am_inB (by decide +kernel)
set_option maxRecDepth 16000 in
theorem inBX5 : ∀ w ∈ wsX50, w ∈ am_BW := am_inB (by decide +kernel)
set_option maxRecDepth 16000 in
theorem inBX6 : ∀ w ∈ wsX60, w ∈ am_BW := am_inB (by decide +kernel)
set_option maxRecDepth 16000 in
theorem inBX7 : ∀ w ∈ wsX70, w ∈ am_BW := am_inB (by decide +kernel)
