/-! ===== BEGIN printed: names, fields, word lists, decode rows ===== -/
def RX0 : String := "MineHoist$Level"
def TX0 : u_T := fun k => match k with
  | 0 => ("MineHoist$Level", "depth", "I", false)
  | 1 => ("MineHoist$Level", "size", "I", false)
  | 2 => ("MineHoist$Level", "width", "I", false)
  | 3 => ("MineHoist$Level", "inflow", "I", false)
  | 4 => ("MineHoist$Level", "hasOpenDoor", "Z", false)
  | 5 => ("MineHoist$Level", "air", "I", false)
  | 6 => ("MineHoist$Level", "unitsFollowed", "I", false)
  | 7 => ("MineHoist$Level", "gas", "I", false)
  | 8 => ("MineHoist$Level", "people", "I", false)
  | 9 => ("MineHoist$Level", "ore", "I", false)
  | _ => ("MineHoist$Level", "closedUntil", "I", false)
def tyX0 : Nat → FieldType := fun k => match k with
  | 0 => .int
  | 1 => .int
  | 2 => .int
  | 3 => .int
  | 4 => .boolean
  | 5 => .int
  | 6 => .int
  | 7 => .int
  | 8 => .int
  | 9 => .int
  | _ => .int
abbrev wsX00 : List Cond := u_ws RX0 TX0 11
theorem nmX0 : ∀ a, a < 11 → ∀ b, b < 11 → a ≠ b → (TX0 a).2.1 ≠ (TX0 b).2.1 := by decide +kernel
theorem tyX0_ok : ∀ k, k < 11 → parseFieldDescriptor (TX0 k).2.2.1 = some (tyX0 k) := by decide +kernel
abbrev cX0_init : ByteArray := prog_2_method_1_code
def yX0_init : MethodName := ⟨RX0, "<init>", "()V"⟩
abbrev cX0_open : ByteArray := prog_2_method_2_code
def yX0_open : MethodName := ⟨RX0, "open", "(IIII)V"⟩
abbrev cX0_copyFrom : ByteArray := prog_2_method_3_code
def yX0_copyFrom : MethodName := ⟨RX0, "copyFrom", "(LMineHoist$Level;)V"⟩
abbrev cX0_openWidth : ByteArray := prog_2_method_4_code
def yX0_openWidth : MethodName := ⟨RX0, "openWidth", "()I"⟩
abbrev cX0_share : ByteArray := prog_2_method_5_code
def yX0_share : MethodName := ⟨RX0, "share", "()I"⟩
abbrev cX0_gasTaken : ByteArray := prog_2_method_6_code
def yX0_gasTaken : MethodName := ⟨RX0, "gasTaken", "()I"⟩
def RX1 : String := "MineHoist$Mine"
def TX1 : u_T := fun k => match k with
  | 0 => ("MineHoist$Mine", "surface", "LMineHoist$Level;", true)
  | 1 => ("MineHoist$Mine", "places", "[LMineHoist$Level;", true)
  | 2 => ("MineHoist$Mine", "waiting", "LMineHoist$Waiting;", true)
  | 3 => ("MineHoist$Mine", "trip", "LMineHoist$Trip;", true)
  | 4 => ("MineHoist$Mine", "levels", "I", false)
  | 5 => ("MineHoist$Mine", "fan", "I", false)
  | 6 => ("MineHoist$Mine", "limit", "I", false)
  | 7 => ("MineHoist$Mine", "speed", "I", false)
  | 8 => ("MineHoist$Mine", "minutes", "I", false)
  | 9 => ("MineHoist$Mine", "gasIn", "I", false)
  | 10 => ("MineHoist$Mine", "gasVented", "I", false)
  | 11 => ("MineHoist$Mine", "nextRequest", "I", false)
  | 12 => ("MineHoist$Mine", "cage", "I", false)
  | 13 => ("MineHoist$Mine", "tripsDone", "I", false)
  | 14 => ("MineHoist$Mine", "requestsDropped", "I", false)
  | _ => ("MineHoist$Mine", "requestDone", "I", false)
def tyX1 : Nat → FieldType := fun k => match k with
  | 0 => .object "MineHoist$Level"
  | 1 => .array (.object "MineHoist$Level")
  | 2 => .object "MineHoist$Waiting"
  | 3 => .object "MineHoist$Trip"
  | 4 => .int
  | 5 => .int
  | 6 => .int
  | 7 => .int
  | 8 => .int
  | 9 => .int
  | 10 => .int
  | 11 => .int
  | 12 => .int
  | 13 => .int
  | 14 => .int
  | _ => .int
abbrev wsX10 : List Cond := u_ws RX1 TX1 16
theorem nmX1 : ∀ a, a < 16 → ∀ b, b < 16 → a ≠ b → (TX1 a).2.1 ≠ (TX1 b).2.1 := by decide +kernel
theorem tyX1_ok : ∀ k, k < 16 → parseFieldDescriptor (TX1 k).2.2.1 = some (tyX1 k) := by decide +kernel
abbrev cX1_init : ByteArray := prog_3_method_1_code
def yX1_init : MethodName := ⟨RX1, "<init>", "()V"⟩
abbrev cX1_copyFrom : ByteArray := prog_3_method_2_code
def yX1_copyFrom : MethodName := ⟨RX1, "copyFrom", "(LMineHoist$Mine;)V"⟩
abbrev cX1_place : ByteArray := prog_3_method_3_code
def yX1_place : MethodName := ⟨RX1, "place", "(I)LMineHoist$Level;"⟩
abbrev cX1_hasAlarm : ByteArray := prog_3_method_4_code
def yX1_hasAlarm : MethodName := ⟨RX1, "hasAlarm", "(LMineHoist$Level;)Z"⟩
abbrev cX1_isShut : ByteArray := prog_3_method_5_code
def yX1_isShut : MethodName := ⟨RX1, "isShut", "(LMineHoist$Level;)Z"⟩
abbrev cX1_isPending : ByteArray := prog_3_method_6_code
def yX1_isPending : MethodName := ⟨RX1, "isPending", "(I)Z"⟩
abbrev cX1_allPeople : ByteArray := prog_3_method_7_code
def yX1_allPeople : MethodName := ⟨RX1, "allPeople", "()I"⟩
abbrev cX1_openWidths : ByteArray := prog_3_method_8_code
def yX1_openWidths : MethodName := ⟨RX1, "openWidths", "()I"⟩
abbrev cX1_spreadAir : ByteArray := prog_3_method_9_code
def yX1_spreadAir : MethodName := ⟨RX1, "spreadAir", "()V"⟩
abbrev cX1_followAir : ByteArray := prog_3_method_10_code
def yX1_followAir : MethodName := ⟨RX1, "followAir", "()V"⟩
abbrev cX1_galleryOf : ByteArray := prog_3_method_11_code
def yX1_galleryOf : MethodName := ⟨RX1, "galleryOf", "(II)I"⟩
abbrev cX1_intoGallery : ByteArray := prog_3_method_12_code
def yX1_intoGallery : MethodName := ⟨RX1, "intoGallery", "(III)I"⟩
abbrev cX1_letGasIn : ByteArray := prog_3_method_13_code
def yX1_letGasIn : MethodName := ⟨RX1, "letGasIn", "(LMineHoist$Level;I)V"⟩
abbrev cX1_passMinute : ByteArray := prog_3_method_14_code
def yX1_passMinute : MethodName := ⟨RX1, "passMinute", "()V"⟩
abbrev cX1_moveGas : ByteArray := prog_3_method_15_code
def yX1_moveGas : MethodName := ⟨RX1, "moveGas", "(LMineHoist$Level;)V"⟩
abbrev cX1_startFlight : ByteArray := prog_3_method_16_code
def yX1_startFlight : MethodName := ⟨RX1, "startFlight", "()Z"⟩
abbrev cX1_startRequest : ByteArray := prog_3_method_17_code
def yX1_startRequest : MethodName := ⟨RX1, "startRequest", "(Z)Z"⟩
abbrev cX1_loadOf : ByteArray := prog_3_method_18_code
def yX1_loadOf : MethodName := ⟨RX1, "loadOf", "(LMineHoist$Request;)I"⟩
abbrev cX1_beginTrip : ByteArray := prog_3_method_19_code
def yX1_beginTrip : MethodName := ⟨RX1, "beginTrip", "(CIII)V"⟩
abbrev cX1_endTrip : ByteArray := prog_3_method_20_code
def yX1_endTrip : MethodName := ⟨RX1, "endTrip", "()V"⟩
abbrev cX1_carry : ByteArray := prog_3_method_21_code
def yX1_carry : MethodName := ⟨RX1, "carry", "(LMineHoist$Level;CI)V"⟩
abbrev cX1_way : ByteArray := prog_3_method_22_code
def yX1_way : MethodName := ⟨RX1, "way", "(LMineHoist$Level;LMineHoist$Level;)I"⟩
abbrev cX1_passToAlarm : ByteArray := prog_3_method_23_code
def yX1_passToAlarm : MethodName := ⟨RX1, "passToAlarm", "(LMineHoist$Level;)I"⟩
abbrev cX1_passToEndOf : ByteArray := prog_3_method_24_code
def yX1_passToEndOf : MethodName := ⟨RX1, "passToEndOf", "(I)I"⟩
def RX2 : String := "MineHoist$Request"
def TX2 : u_T := fun k => match k with
  | 0 => ("MineHoist$Request", "number", "I", false)
  | 1 => ("MineHoist$Request", "kind", "C", false)
  | 2 => ("MineHoist$Request", "level", "I", false)
  | _ => ("MineHoist$Request", "count", "I", false)
def tyX2 : Nat → FieldType := fun k => match k with
  | 0 => .int
  | 1 => .char
  | 2 => .int
  | _ => .int
abbrev wsX20 : List Cond := u_ws RX2 TX2 4
theorem nmX2 : ∀ a, a < 4 → ∀ b, b < 4 → a ≠ b → (TX2 a).2.1 ≠ (TX2 b).2.1 := by decide +kernel
theorem tyX2_ok : ∀ k, k < 4 → parseFieldDescriptor (TX2 k).2.2.1 = some (tyX2 k) := by decide +kernel
abbrev cX2_init : ByteArray := prog_4_method_1_code
def yX2_init : MethodName := ⟨RX2, "<init>", "()V"⟩
abbrev cX2_set : ByteArray := prog_4_method_2_code
def yX2_set : MethodName := ⟨RX2, "set", "(ICII)V"⟩
def RX3 : String := "MineHoist$Trip"
def TX3 : u_T := fun k => match k with
  | 0 => ("MineHoist$Trip", "kind", "C", false)
  | 1 => ("MineHoist$Trip", "level", "I", false)
  | 2 => ("MineHoist$Trip", "load", "I", false)
  | 3 => ("MineHoist$Trip", "rest", "I", false)
  | _ => ("MineHoist$Trip", "request", "I", false)
def tyX3 : Nat → FieldType := fun k => match k with
  | 0 => .char
  | 1 => .int
  | 2 => .int
  | 3 => .int
  | _ => .int
abbrev wsX30 : List Cond := u_ws RX3 TX3 5
theorem nmX3 : ∀ a, a < 5 → ∀ b, b < 5 → a ≠ b → (TX3 a).2.1 ≠ (TX3 b).2.1 := by decide +kernel
theorem tyX3_ok : ∀ k, k < 5 → parseFieldDescriptor (TX3 k).2.2.1 = some (tyX3 k) := by decide +kernel
abbrev cX3_init : ByteArray := prog_5_method_1_code
def yX3_init : MethodName := ⟨RX3, "<init>", "()V"⟩
abbrev cX3_set : ByteArray := prog_5_method_2_code
def yX3_set : MethodName := ⟨RX3, "set", "(CIIII)V"⟩
abbrev cX3_copyFrom : ByteArray := prog_5_method_3_code
def yX3_copyFrom : MethodName := ⟨RX3, "copyFrom", "(LMineHoist$Trip;)V"⟩
abbrev cX3_clear : ByteArray := prog_5_method_4_code
def yX3_clear : MethodName := ⟨RX3, "clear", "()V"⟩
abbrev cX3_isOn : ByteArray := prog_5_method_5_code
def yX3_isOn : MethodName := ⟨RX3, "isOn", "()Z"⟩
abbrev cX3_isTo : ByteArray := prog_5_method_6_code
def yX3_isTo : MethodName := ⟨RX3, "isTo", "(I)Z"⟩
abbrev cX3_isFor : ByteArray := prog_5_method_7_code
def yX3_isFor : MethodName := ⟨RX3, "isFor", "(I)Z"⟩
abbrev cX3_word : ByteArray := prog_5_method_8_code
def yX3_word : MethodName := ⟨RX3, "word", "()Ljava/lang/String;"⟩
def RX4 : String := "MineHoist$Waiting"
def TX4 : u_T := fun k => match k with
  | 0 => ("MineHoist$Waiting", "rows", "[LMineHoist$Request;", true)
  | _ => ("MineHoist$Waiting", "size", "I", false)
def tyX4 : Nat → FieldType := fun k => match k with
  | 0 => .array (.object "MineHoist$Request")
  | _ => .int
abbrev wsX40 : List Cond := u_ws RX4 TX4 2
theorem nmX4 : ∀ a, a < 2 → ∀ b, b < 2 → a ≠ b → (TX4 a).2.1 ≠ (TX4 b).2.1 := by decide +kernel
theorem tyX4_ok : ∀ k, k < 2 → parseFieldDescriptor (TX4 k).2.2.1 = some (tyX4 k) := by decide +kernel
abbrev cX4_init : ByteArray := prog_6_method_1_code
def yX4_init : MethodName := ⟨RX4, "<init>", "()V"⟩
abbrev cX4_copyFrom : ByteArray := prog_6_method_2_code
def yX4_copyFrom : MethodName := ⟨RX4, "copyFrom", "(LMineHoist$Waiting;)V"⟩
abbrev cX4_add : ByteArray := prog_6_method_3_code
def yX4_add : MethodName := ⟨RX4, "add", "(ICII)V"⟩
abbrev cX4_numberAt : ByteArray := prog_6_method_4_code
def yX4_numberAt : MethodName := ⟨RX4, "numberAt", "(I)I"⟩
abbrev cX4_holds : ByteArray := prog_6_method_5_code
def yX4_holds : MethodName := ⟨RX4, "holds", "(I)Z"⟩
abbrev cX4_positionOf : ByteArray := prog_6_method_6_code
def yX4_positionOf : MethodName := ⟨RX4, "positionOf", "(I)I"⟩
abbrev cX4_remove : ByteArray := prog_6_method_7_code
def yX4_remove : MethodName := ⟨RX4, "remove", "(I)V"⟩
abbrev cX4_oldest : ByteArray := prog_6_method_8_code
def yX4_oldest : MethodName := ⟨RX4, "oldest", "(Z)LMineHoist$Request;"⟩
def RX5 : String := "MineHoist"
def TX5 : u_T := fun k => match k with
  | 0 => ("MineHoist", "mine", "LMineHoist$Mine;", true)
  | 1 => ("MineHoist", "trial", "LMineHoist$Mine;", true)
  | _ => ("MineHoist", "line", "Ljava/lang/StringBuilder;", true)
def tyX5 : Nat → FieldType := fun k => match k with
  | 0 => .object "MineHoist$Mine"
  | 1 => .object "MineHoist$Mine"
  | _ => .object "java/lang/StringBuilder"
abbrev wsX50 : List Cond := u_ws RX5 TX5 3
theorem nmX5 : ∀ a, a < 3 → ∀ b, b < 3 → a ≠ b → (TX5 a).2.1 ≠ (TX5 b).2.1 := by decide +kernel
theorem tyX5_ok : ∀ k, k < 3 → parseFieldDescriptor (TX5 k).2.2.1 = some (tyX5 k) := by decide +kernel
abbrev cX5_init : ByteArray := prog_1_method_1_code
def yX5_init : MethodName := ⟨RX5, "<init>", "()V"⟩
abbrev cX5_addLevel : ByteArray := prog_1_method_2_code
def yX5_addLevel : MethodName := ⟨RX5, "addLevel", "(IIII)I"⟩
abbrev cX5_levelCount : ByteArray := prog_1_method_3_code
def yX5_levelCount : MethodName := ⟨RX5, "levelCount", "()I"⟩
abbrev cX5_depthOf : ByteArray := prog_1_method_4_code
def yX5_depthOf : MethodName := ⟨RX5, "depthOf", "(I)I"⟩
abbrev cX5_setFan : ByteArray := prog_1_method_5_code
def yX5_setFan : MethodName := ⟨RX5, "setFan", "(I)I"⟩
abbrev cX5_setDoor : ByteArray := prog_1_method_6_code
def yX5_setDoor : MethodName := ⟨RX5, "setDoor", "(IZ)Z"⟩
abbrev cX5_airOf : ByteArray := prog_1_method_7_code
def yX5_airOf : MethodName := ⟨RX5, "airOf", "(I)I"⟩
abbrev cX5_airByPaths : ByteArray := prog_1_method_8_code
def yX5_airByPaths : MethodName := ⟨RX5, "airByPaths", "(I)I"⟩
abbrev cX5_setLimit : ByteArray := prog_1_method_9_code
def yX5_setLimit : MethodName := ⟨RX5, "setLimit", "(I)I"⟩
abbrev cX5_gasOf : ByteArray := prog_1_method_10_code
def yX5_gasOf : MethodName := ⟨RX5, "gasOf", "(I)I"⟩
abbrev cX5_gasShare : ByteArray := prog_1_method_11_code
def yX5_gasShare : MethodName := ⟨RX5, "gasShare", "(I)I"⟩
abbrev cX5_isAlarm : ByteArray := prog_1_method_12_code
def yX5_isAlarm : MethodName := ⟨RX5, "isAlarm", "(I)Z"⟩
abbrev cX5_gasTotal : ByteArray := prog_1_method_13_code
def yX5_gasTotal : MethodName := ⟨RX5, "gasTotal", "()I"⟩
abbrev cX5_ventedTotal : ByteArray := prog_1_method_14_code
def yX5_ventedTotal : MethodName := ⟨RX5, "ventedTotal", "()I"⟩
abbrev cX5_meanShare : ByteArray := prog_1_method_15_code
def yX5_meanShare : MethodName := ⟨RX5, "meanShare", "()D"⟩
abbrev cX5_minutesToAlarm : ByteArray := prog_1_method_16_code
def yX5_minutesToAlarm : MethodName := ⟨RX5, "minutesToAlarm", "(I)I"⟩
abbrev cX5_hire : ByteArray := prog_1_method_17_code
def yX5_hire : MethodName := ⟨RX5, "hire", "(I)I"⟩
abbrev cX5_peopleAt : ByteArray := prog_1_method_18_code
def yX5_peopleAt : MethodName := ⟨RX5, "peopleAt", "(I)I"⟩
abbrev cX5_peopleTotal : ByteArray := prog_1_method_19_code
def yX5_peopleTotal : MethodName := ⟨RX5, "peopleTotal", "()I"⟩
abbrev cX5_endangered : ByteArray := prog_1_method_20_code
def yX5_endangered : MethodName := ⟨RX5, "endangered", "()I"⟩
abbrev cX5_oreAt : ByteArray := prog_1_method_21_code
def yX5_oreAt : MethodName := ⟨RX5, "oreAt", "(I)I"⟩
abbrev cX5_blast : ByteArray := prog_1_method_22_code
def yX5_blast : MethodName := ⟨RX5, "blast", "(II)I"⟩
abbrev cX5_isClosed : ByteArray := prog_1_method_23_code
def yX5_isClosed : MethodName := ⟨RX5, "isClosed", "(I)Z"⟩
abbrev cX5_setSpeed : ByteArray := prog_1_method_24_code
def yX5_setSpeed : MethodName := ⟨RX5, "setSpeed", "(I)I"⟩
abbrev cX5_sendDown : ByteArray := prog_1_method_25_code
def yX5_sendDown : MethodName := ⟨RX5, "sendDown", "(II)I"⟩
abbrev cX5_callUp : ByteArray := prog_1_method_26_code
def yX5_callUp : MethodName := ⟨RX5, "callUp", "(II)I"⟩
abbrev cX5_hoistOre : ByteArray := prog_1_method_27_code
def yX5_hoistOre : MethodName := ⟨RX5, "hoistOre", "(I)I"⟩
abbrev cX5_cancel : ByteArray := prog_1_method_28_code
def yX5_cancel : MethodName := ⟨RX5, "cancel", "(I)I"⟩
abbrev cX5_waitingCount : ByteArray := prog_1_method_29_code
def yX5_waitingCount : MethodName := ⟨RX5, "waitingCount", "()I"⟩
abbrev cX5_waitingAt : ByteArray := prog_1_method_30_code
def yX5_waitingAt : MethodName := ⟨RX5, "waitingAt", "(I)I"⟩
abbrev cX5_pass : ByteArray := prog_1_method_31_code
def yX5_pass : MethodName := ⟨RX5, "pass", "(I)I"⟩
abbrev cX5_clock : ByteArray := prog_1_method_32_code
def yX5_clock : MethodName := ⟨RX5, "clock", "()I"⟩
abbrev cX5_tripKind : ByteArray := prog_1_method_33_code
def yX5_tripKind : MethodName := ⟨RX5, "tripKind", "()C"⟩
abbrev cX5_tripLevel : ByteArray := prog_1_method_34_code
def yX5_tripLevel : MethodName := ⟨RX5, "tripLevel", "()I"⟩
abbrev cX5_tripLoad : ByteArray := prog_1_method_35_code
def yX5_tripLoad : MethodName := ⟨RX5, "tripLoad", "()I"⟩
abbrev cX5_tripRest : ByteArray := prog_1_method_36_code
def yX5_tripRest : MethodName := ⟨RX5, "tripRest", "()I"⟩
abbrev cX5_cageLevel : ByteArray := prog_1_method_37_code
def yX5_cageLevel : MethodName := ⟨RX5, "cageLevel", "()I"⟩
abbrev cX5_doneCount : ByteArray := prog_1_method_38_code
def yX5_doneCount : MethodName := ⟨RX5, "doneCount", "()I"⟩
abbrev cX5_droppedCount : ByteArray := prog_1_method_39_code
def yX5_droppedCount : MethodName := ⟨RX5, "droppedCount", "()I"⟩
abbrev cX5_waitFor : ByteArray := prog_1_method_40_code
def yX5_waitFor : MethodName := ⟨RX5, "waitFor", "(I)I"⟩
abbrev cX5_isConsistent : ByteArray := prog_1_method_41_code
def yX5_isConsistent : MethodName := ⟨RX5, "isConsistent", "()Z"⟩
abbrev cX5_writeTrip : ByteArray := prog_1_method_42_code
def yX5_writeTrip : MethodName := ⟨RX5, "writeTrip", "()I"⟩
abbrev cX5_lineAt : ByteArray := prog_1_method_43_code
def yX5_lineAt : MethodName := ⟨RX5, "lineAt", "(I)C"⟩
abbrev cX5_checkRange : ByteArray := prog_1_method_44_code
def yX5_checkRange : MethodName := ⟨RX5, "checkRange", "(III)V"⟩
abbrev cX5_checkLevel : ByteArray := prog_1_method_45_code
def yX5_checkLevel : MethodName := ⟨RX5, "checkLevel", "(I)V"⟩
abbrev cX5_checkPlace : ByteArray := prog_1_method_46_code
def yX5_checkPlace : MethodName := ⟨RX5, "checkPlace", "(I)V"⟩
abbrev cX5_checkTrip : ByteArray := prog_1_method_47_code
def yX5_checkTrip : MethodName := ⟨RX5, "checkTrip", "()V"⟩
abbrev cX5_request : ByteArray := prog_1_method_48_code
def yX5_request : MethodName := ⟨RX5, "request", "(CII)I"⟩
def RX6 : String := "MineHoistModel"
def TX6 : u_T := fun k => match k with
  | _ => ("", "", "", false)
def tyX6 : Nat → FieldType := fun k => match k with
  | _ => .int
abbrev wsX60 : List Cond := u_ws RX6 TX6 0
theorem nmX6 : ∀ a, a < 0 → ∀ b, b < 0 → a ≠ b → (TX6 a).2.1 ≠ (TX6 b).2.1 := by decide +kernel
theorem tyX6_ok : ∀ k, k < 0 → parseFieldDescriptor (TX6 k).2.2.1 = some (tyX6 k) := by decide +kernel
def RJx145de : String := "java/io/Serializable"
def TJx145de : u_T := fun k => match k with
  | _ => ("", "", "", false)
def tyJx145de : Nat → FieldType := fun k => match k with
  | _ => .int
abbrev wsJx145de0 : List Cond := u_ws RJx145de TJx145de 0
theorem nmJx145de : ∀ a, a < 0 → ∀ b, b < 0 → a ≠ b → (TJx145de a).2.1 ≠ (TJx145de b).2.1 := by decide +kernel
theorem tyJx145de_ok : ∀ k, k < 0 → parseFieldDescriptor (TJx145de k).2.2.1 = some (tyJx145de k) := by decide +kernel
def RJ5 : String := "java/lang/AbstractStringBuilder"
def TJ5 : u_T := fun k => match k with
  | _ => ("", "", "", false)
def tyJ5 : Nat → FieldType := fun k => match k with
  | _ => .int
abbrev wsJ50 : List Cond := u_ws RJ5 TJ5 0
theorem nmJ5 : ∀ a, a < 0 → ∀ b, b < 0 → a ≠ b → (TJ5 a).2.1 ≠ (TJ5 b).2.1 := by decide +kernel
theorem tyJ5_ok : ∀ k, k < 0 → parseFieldDescriptor (TJ5 k).2.2.1 = some (tyJ5 k) := by decide +kernel
abbrev cJ5_init_d00df : ByteArray := prog_10_method_2_code
def yJ5_init_d00df : MethodName := ⟨RJ5, "<init>", "(I)V"⟩
abbrev cJ5_length_8abf5 : ByteArray := prog_10_method_6_code
def yJ5_length_8abf5 : MethodName := ⟨RJ5, "length", "()I"⟩
abbrev cJ5_ensureCapacityInternal_d00df : ByteArray := prog_10_method_9_code
def yJ5_ensureCapacityInternal_d00df : MethodName := ⟨RJ5, "ensureCapacityInternal", "(I)V"⟩
abbrev cJ5_newCapacity_0f7a4 : ByteArray := prog_10_method_10_code
def yJ5_newCapacity_0f7a4 : MethodName := ⟨RJ5, "newCapacity", "(I)I"⟩
abbrev cJ5_inflate_da8c8 : ByteArray := prog_10_method_11_code
def yJ5_inflate_da8c8 : MethodName := ⟨RJ5, "inflate", "()V"⟩
abbrev cJ5_setLength_d00df : ByteArray := prog_10_method_13_code
def yJ5_setLength_d00df : MethodName := ⟨RJ5, "setLength", "(I)V"⟩
abbrev cJ5_charAt_5068e : ByteArray := prog_10_method_14_code
def yJ5_charAt_5068e : MethodName := ⟨RJ5, "charAt", "(I)C"⟩
abbrev cJ5_append_cf1ce : ByteArray := prog_10_method_22_code
def yJ5_append_cf1ce : MethodName := ⟨RJ5, "append", "(Ljava/lang/String;)Ljava/lang/AbstractStringBuilder;"⟩
abbrev cJ5_appendNull_278bc : ByteArray := prog_10_method_26_code
def yJ5_appendNull_278bc : MethodName := ⟨RJ5, "appendNull", "()Ljava/lang/AbstractStringBuilder;"⟩
abbrev cJ5_append_3fe6f : ByteArray := prog_10_method_31_code
def yJ5_append_3fe6f : MethodName := ⟨RJ5, "append", "(C)Ljava/lang/AbstractStringBuilder;"⟩
abbrev cJ5_append_c97b9 : ByteArray := prog_10_method_32_code
def yJ5_append_c97b9 : MethodName := ⟨RJ5, "append", "(I)Ljava/lang/AbstractStringBuilder;"⟩
abbrev cJ5_getValue_6d5f1 : ByteArray := prog_10_method_64_code
def yJ5_getValue_6d5f1 : MethodName := ⟨RJ5, "getValue", "()[B"⟩
abbrev cJ5_isLatin1_aae02 : ByteArray := prog_10_method_68_code
def yJ5_isLatin1_aae02 : MethodName := ⟨RJ5, "isLatin1", "()Z"⟩
abbrev cJ5_inflateIfNeededFor_a7421 : ByteArray := prog_10_method_71_code
def yJ5_inflateIfNeededFor_a7421 : MethodName := ⟨RJ5, "inflateIfNeededFor", "(Ljava/lang/String;)V"⟩
abbrev cJ5_putStringAt_47b60 : ByteArray := prog_10_method_73_code
def yJ5_putStringAt_47b60 : MethodName := ⟨RJ5, "putStringAt", "(ILjava/lang/String;)V"⟩
def RJx2cfe8 : String := "java/lang/Appendable"
def TJx2cfe8 : u_T := fun k => match k with
  | _ => ("", "", "", false)
def tyJx2cfe8 : Nat → FieldType := fun k => match k with
  | _ => .int
abbrev wsJx2cfe80 : List Cond := u_ws RJx2cfe8 TJx2cfe8 0
theorem nmJx2cfe8 : ∀ a, a < 0 → ∀ b, b < 0 → a ≠ b → (TJx2cfe8 a).2.1 ≠ (TJx2cfe8 b).2.1 := by decide +kernel
theorem tyJx2cfe8_ok : ∀ k, k < 0 → parseFieldDescriptor (TJx2cfe8 k).2.2.1 = some (tyJx2cfe8 k) := by decide +kernel
def RJx00060 : String := "java/lang/ArrayIndexOutOfBoundsException"
def TJx00060 : u_T := fun k => match k with
  | 0 => ("java/lang/Throwable", "cause", "Ljava/lang/Throwable;", false)
  | 1 => ("java/lang/Throwable", "stackTrace", "[Ljava/lang/StackTraceElement;", false)
  | 2 => ("java/lang/Throwable", "suppressedExceptions", "Ljava/util/List;", false)
  | 3 => ("java/lang/Throwable", "detailMessage", "Ljava/lang/String;", false)
  | 4 => ("java/lang/Throwable", "backtrace", "Ljava/lang/Object;", false)
  | _ => ("java/lang/Throwable", "depth", "I", false)
def tyJx00060 : Nat → FieldType := fun k => match k with
  | 0 => .object "java/lang/Throwable"
  | 1 => .array (.object "java/lang/StackTraceElement")
  | 2 => .object "java/util/List"
  | 3 => .object "java/lang/String"
  | 4 => .object "java/lang/Object"
  | _ => .int
abbrev wsJx000600 : List Cond := u_ws RJx00060 TJx00060 6
theorem nmJx00060 : ∀ a, a < 6 → ∀ b, b < 6 → a ≠ b → (TJx00060 a).2.1 ≠ (TJx00060 b).2.1 := by decide +kernel
theorem tyJx00060_ok : ∀ k, k < 6 → parseFieldDescriptor (TJx00060 k).2.2.1 = some (tyJx00060 k) := by decide +kernel
abbrev cJx00060_init_a7421 : ByteArray := prog_13_method_2_code
def yJx00060_init_a7421 : MethodName := ⟨RJx00060, "<init>", "(Ljava/lang/String;)V"⟩
abbrev cJx00060_init_d00df : ByteArray := prog_13_method_3_code
def yJx00060_init_d00df : MethodName := ⟨RJx00060, "<init>", "(I)V"⟩
def RJx9f9b0 : String := "java/lang/CharSequence"
def TJx9f9b0 : u_T := fun k => match k with
  | _ => ("", "", "", false)
def tyJx9f9b0 : Nat → FieldType := fun k => match k with
  | _ => .int
abbrev wsJx9f9b00 : List Cond := u_ws RJx9f9b0 TJx9f9b0 0
theorem nmJx9f9b0 : ∀ a, a < 0 → ∀ b, b < 0 → a ≠ b → (TJx9f9b0 a).2.1 ≠ (TJx9f9b0 b).2.1 := by decide +kernel
theorem tyJx9f9b0_ok : ∀ k, k < 0 → parseFieldDescriptor (TJx9f9b0 k).2.2.1 = some (tyJx9f9b0 k) := by decide +kernel
def RJx8e188 : String := "java/lang/Cloneable"
def TJx8e188 : u_T := fun k => match k with
  | _ => ("", "", "", false)
def tyJx8e188 : Nat → FieldType := fun k => match k with
  | _ => .int
abbrev wsJx8e1880 : List Cond := u_ws RJx8e188 TJx8e188 0
theorem nmJx8e188 : ∀ a, a < 0 → ∀ b, b < 0 → a ≠ b → (TJx8e188 a).2.1 ≠ (TJx8e188 b).2.1 := by decide +kernel
theorem tyJx8e188_ok : ∀ k, k < 0 → parseFieldDescriptor (TJx8e188 k).2.2.1 = some (tyJx8e188 k) := by decide +kernel
def RJxb160c : String := "java/lang/Comparable"
def TJxb160c : u_T := fun k => match k with
  | _ => ("", "", "", false)
def tyJxb160c : Nat → FieldType := fun k => match k with
  | _ => .int
abbrev wsJxb160c0 : List Cond := u_ws RJxb160c TJxb160c 0
theorem nmJxb160c : ∀ a, a < 0 → ∀ b, b < 0 → a ≠ b → (TJxb160c a).2.1 ≠ (TJxb160c b).2.1 := by decide +kernel
theorem tyJxb160c_ok : ∀ k, k < 0 → parseFieldDescriptor (TJxb160c k).2.2.1 = some (tyJxb160c k) := by decide +kernel
def RJ6 : String := "java/lang/Integer"
def TJ6 : u_T := fun k => match k with
  | _ => ("", "", "", false)
def tyJ6 : Nat → FieldType := fun k => match k with
  | _ => .int
abbrev wsJ60 : List Cond := u_ws RJ6 TJ6 0
theorem nmJ6 : ∀ a, a < 0 → ∀ b, b < 0 → a ≠ b → (TJ6 a).2.1 ≠ (TJ6 b).2.1 := by decide +kernel
theorem tyJ6_ok : ∀ k, k < 0 → parseFieldDescriptor (TJ6 k).2.2.1 = some (tyJ6 k) := by decide +kernel
abbrev cJ6_getChars_ba4f3 : ByteArray := prog_21_method_12_code
def yJ6_getChars_ba4f3 : MethodName := ⟨RJ6, "getChars", "(II[B)I"⟩
abbrev cJ6_stringSize_0f7a4 : ByteArray := prog_21_method_13_code
def yJ6_stringSize_0f7a4 : MethodName := ⟨RJ6, "stringSize", "(I)I"⟩
def RJ9 : String := "java/lang/Math"
def TJ9 : u_T := fun k => match k with
  | _ => ("", "", "", false)
def tyJ9 : Nat → FieldType := fun k => match k with
  | _ => .int
abbrev wsJ90 : List Cond := u_ws RJ9 TJ9 0
theorem nmJ9 : ∀ a, a < 0 → ∀ b, b < 0 → a ≠ b → (TJ9 a).2.1 ≠ (TJ9 b).2.1 := by decide +kernel
theorem tyJ9_ok : ∀ k, k < 0 → parseFieldDescriptor (TJ9 k).2.2.1 = some (tyJ9 k) := by decide +kernel
abbrev cJ9_abs_0f7a4 : ByteArray := prog_22_method_59_code
def yJ9_abs_0f7a4 : MethodName := ⟨RJ9, "abs", "(I)I"⟩
abbrev cJ9_max_7cf53 : ByteArray := prog_22_method_65_code
def yJ9_max_7cf53 : MethodName := ⟨RJ9, "max", "(II)I"⟩
abbrev cJ9_min_7cf53 : ByteArray := prog_22_method_69_code
def yJ9_min_7cf53 : MethodName := ⟨RJ9, "min", "(II)I"⟩
def RJxd2413 : String := "java/lang/Number"
def TJxd2413 : u_T := fun k => match k with
  | _ => ("", "", "", false)
def tyJxd2413 : Nat → FieldType := fun k => match k with
  | _ => .int
abbrev wsJxd24130 : List Cond := u_ws RJxd2413 TJxd2413 0
theorem nmJxd2413 : ∀ a, a < 0 → ∀ b, b < 0 → a ≠ b → (TJxd2413 a).2.1 ≠ (TJxd2413 b).2.1 := by decide +kernel
theorem tyJxd2413_ok : ∀ k, k < 0 → parseFieldDescriptor (TJxd2413 k).2.2.1 = some (tyJxd2413 k) := by decide +kernel
def RJ0 : String := "java/lang/String"
def TJ0 : u_T := fun k => match k with
  | 0 => ("java/lang/String", "value", "[B", true)
  | 1 => ("java/lang/String", "coder", "B", true)
  | 2 => ("java/lang/String", "hash", "I", false)
  | _ => ("java/lang/String", "hashIsZero", "Z", false)
def tyJ0 : Nat → FieldType := fun k => match k with
  | 0 => .array .byte
  | 1 => .byte
  | 2 => .int
  | _ => .boolean
abbrev wsJ00 : List Cond := u_ws RJ0 TJ0 4
theorem nmJ0 : ∀ a, a < 4 → ∀ b, b < 4 → a ≠ b → (TJ0 a).2.1 ≠ (TJ0 b).2.1 := by decide +kernel
theorem tyJ0_ok : ∀ k, k < 4 → parseFieldDescriptor (TJ0 k).2.2.1 = some (tyJ0 k) := by decide +kernel
abbrev cJ0_init_81219 : ByteArray := prog_25_method_53_code
def yJ0_init_81219 : MethodName := ⟨RJ0, "<init>", "(Ljava/lang/StringBuilder;)V"⟩
abbrev cJ0_length_8abf5 : ByteArray := prog_25_method_54_code
def yJ0_length_8abf5 : MethodName := ⟨RJ0, "length", "()I"⟩
abbrev cJ0_charAt_5068e : ByteArray := prog_25_method_56_code
def yJ0_charAt_5068e : MethodName := ⟨RJ0, "charAt", "(I)C"⟩
abbrev cJ0_getBytes_840e7 : ByteArray := prog_25_method_147_code
def yJ0_getBytes_840e7 : MethodName := ⟨RJ0, "getBytes", "([BIB)V"⟩
abbrev cJ0_init_db425 : ByteArray := prog_25_method_150_code
def yJ0_init_db425 : MethodName := ⟨RJ0, "<init>", "(Ljava/lang/AbstractStringBuilder;Ljava/lang/Void;)V"⟩
abbrev cJ0_coder_7d493 : ByteArray := prog_25_method_152_code
def yJ0_coder_7d493 : MethodName := ⟨RJ0, "coder", "()B"⟩
abbrev cJ0_isLatin1_aae02 : ByteArray := prog_25_method_154_code
def yJ0_isLatin1_aae02 : MethodName := ⟨RJ0, "isLatin1", "()Z"⟩
abbrev cJ0_checkIndex_df160 : ByteArray := prog_25_method_155_code
def yJ0_checkIndex_df160 : MethodName := ⟨RJ0, "checkIndex", "(II)V"⟩
abbrev cJ0_checkBoundsOffCount_cabcc : ByteArray := prog_25_method_157_code
def yJ0_checkBoundsOffCount_cabcc : MethodName := ⟨RJ0, "checkBoundsOffCount", "(III)I"⟩
abbrev cJ0_checkBoundsBeginEnd_23922 : ByteArray := prog_25_method_158_code
def yJ0_checkBoundsBeginEnd_23922 : MethodName := ⟨RJ0, "checkBoundsBeginEnd", "(III)V"⟩
def RJ4 : String := "java/lang/StringBuilder"
def TJ4 : u_T := fun k => match k with
  | 0 => ("java/lang/AbstractStringBuilder", "value", "[B", false)
  | 1 => ("java/lang/AbstractStringBuilder", "coder", "B", false)
  | 2 => ("java/lang/AbstractStringBuilder", "maybeLatin1", "Z", false)
  | _ => ("java/lang/AbstractStringBuilder", "count", "I", false)
def tyJ4 : Nat → FieldType := fun k => match k with
  | 0 => .array .byte
  | 1 => .byte
  | 2 => .boolean
  | _ => .int
abbrev wsJ40 : List Cond := u_ws RJ4 TJ4 4
theorem nmJ4 : ∀ a, a < 4 → ∀ b, b < 4 → a ≠ b → (TJ4 a).2.1 ≠ (TJ4 b).2.1 := by decide +kernel
theorem tyJ4_ok : ∀ k, k < 4 → parseFieldDescriptor (TJ4 k).2.2.1 = some (tyJ4 k) := by decide +kernel
abbrev cJ4_init_da8c8 : ByteArray := prog_26_method_1_code
def yJ4_init_da8c8 : MethodName := ⟨RJ4, "<init>", "()V"⟩
abbrev cJ4_append_15ec4 : ByteArray := prog_26_method_7_code
def yJ4_append_15ec4 : MethodName := ⟨RJ4, "append", "(Ljava/lang/String;)Ljava/lang/StringBuilder;"⟩
abbrev cJ4_append_cf468 : ByteArray := prog_26_method_14_code
def yJ4_append_cf468 : MethodName := ⟨RJ4, "append", "(C)Ljava/lang/StringBuilder;"⟩
abbrev cJ4_append_bf812 : ByteArray := prog_26_method_15_code
def yJ4_append_bf812 : MethodName := ⟨RJ4, "append", "(I)Ljava/lang/StringBuilder;"⟩
abbrev cJ4_toString_0e30d : ByteArray := prog_26_method_42_code
def yJ4_toString_0e30d : MethodName := ⟨RJ4, "toString", "()Ljava/lang/String;"⟩
abbrev cJ4_charAt_5068e : ByteArray := prog_26_method_88_code
def yJ4_charAt_5068e : MethodName := ⟨RJ4, "charAt", "(I)C"⟩
abbrev cJ4_setLength_d00df : ByteArray := prog_26_method_89_code
def yJ4_setLength_d00df : MethodName := ⟨RJ4, "setLength", "(I)V"⟩
abbrev cJ4_length_8abf5 : ByteArray := prog_26_method_93_code
def yJ4_length_8abf5 : MethodName := ⟨RJ4, "length", "()I"⟩
def RJx7c733 : String := "java/lang/StringIndexOutOfBoundsException"
def TJx7c733 : u_T := fun k => match k with
  | 0 => ("java/lang/Throwable", "backtrace", "Ljava/lang/Object;", false)
  | 1 => ("java/lang/Throwable", "detailMessage", "Ljava/lang/String;", false)
  | 2 => ("java/lang/Throwable", "cause", "Ljava/lang/Throwable;", false)
  | 3 => ("java/lang/Throwable", "stackTrace", "[Ljava/lang/StackTraceElement;", false)
  | 4 => ("java/lang/Throwable", "depth", "I", false)
  | _ => ("java/lang/Throwable", "suppressedExceptions", "Ljava/util/List;", false)
def tyJx7c733 : Nat → FieldType := fun k => match k with
  | 0 => .object "java/lang/Object"
  | 1 => .object "java/lang/String"
  | 2 => .object "java/lang/Throwable"
  | 3 => .array (.object "java/lang/StackTraceElement")
  | 4 => .int
  | _ => .object "java/util/List"
abbrev wsJx7c7330 : List Cond := u_ws RJx7c733 TJx7c733 6
theorem nmJx7c733 : ∀ a, a < 6 → ∀ b, b < 6 → a ≠ b → (TJx7c733 a).2.1 ≠ (TJx7c733 b).2.1 := by decide +kernel
theorem tyJx7c733_ok : ∀ k, k < 6 → parseFieldDescriptor (TJx7c733 k).2.2.1 = some (tyJx7c733 k) := by decide +kernel
abbrev cJx7c733_init_d00df : ByteArray := prog_27_method_3_code
def yJx7c733_init_d00df : MethodName := ⟨RJx7c733, "<init>", "(I)V"⟩
def RJ1 : String := "java/lang/StringLatin1"
def TJ1 : u_T := fun k => match k with
  | _ => ("", "", "", false)
def tyJ1 : Nat → FieldType := fun k => match k with
  | _ => .int
abbrev wsJ10 : List Cond := u_ws RJ1 TJ1 0
theorem nmJ1 : ∀ a, a < 0 → ∀ b, b < 0 → a ≠ b → (TJ1 a).2.1 ≠ (TJ1 b).2.1 := by decide +kernel
theorem tyJ1_ok : ∀ k, k < 0 → parseFieldDescriptor (TJ1 k).2.2.1 = some (tyJ1 k) := by decide +kernel
abbrev cJ1_charAt_3b067 : ByteArray := prog_28_method_2_code
def yJ1_charAt_3b067 : MethodName := ⟨RJ1, "charAt", "([BI)C"⟩
abbrev cJ1_canEncode_fc78d : ByteArray := prog_28_method_3_code
def yJ1_canEncode_fc78d : MethodName := ⟨RJ1, "canEncode", "(C)Z"⟩
abbrev cJ1_fillNull_b72d1 : ByteArray := prog_28_method_48_code
def yJ1_fillNull_b72d1 : MethodName := ⟨RJ1, "fillNull", "([BII)V"⟩
abbrev cJ1_inflate_0e8fd : ByteArray := prog_28_method_50_code
def yJ1_inflate_0e8fd : MethodName := ⟨RJ1, "inflate", "([BI[BII)V"⟩
def RJ2 : String := "java/lang/StringUTF16"
def TJ2 : u_T := fun k => match k with
  | _ => ("", "", "", false)
def tyJ2 : Nat → FieldType := fun k => match k with
  | _ => .int
abbrev wsJ20 : List Cond := u_ws RJ2 TJ2 0
theorem nmJ2 : ∀ a, a < 0 → ∀ b, b < 0 → a ≠ b → (TJ2 a).2.1 ≠ (TJ2 b).2.1 := by decide +kernel
theorem tyJ2_ok : ∀ k, k < 0 → parseFieldDescriptor (TJ2 k).2.2.1 = some (tyJ2 k) := by decide +kernel
abbrev cJ2_newBytesFor_77867 : ByteArray := prog_29_method_2_code
def yJ2_newBytesFor_77867 : MethodName := ⟨RJ2, "newBytesFor", "(I)[B"⟩
abbrev cJ2_newBytesLength_0f7a4 : ByteArray := prog_29_method_3_code
def yJ2_newBytesLength_0f7a4 : MethodName := ⟨RJ2, "newBytesLength", "(I)I"⟩
abbrev cJ2_putChar_b72d1 : ByteArray := prog_29_method_4_code
def yJ2_putChar_b72d1 : MethodName := ⟨RJ2, "putChar", "([BII)V"⟩
abbrev cJ2_getChar_3b067 : ByteArray := prog_29_method_5_code
def yJ2_getChar_3b067 : MethodName := ⟨RJ2, "getChar", "([BI)C"⟩
abbrev cJ2_length_9d52b : ByteArray := prog_29_method_6_code
def yJ2_length_9d52b : MethodName := ⟨RJ2, "length", "([B)I"⟩
abbrev cJ2_coderFromArrayLen_85cad : ByteArray := prog_29_method_15_code
def yJ2_coderFromArrayLen_85cad : MethodName := ⟨RJ2, "coderFromArrayLen", "([BI)B"⟩
abbrev cJ2_compress_39247 : ByteArray := prog_29_method_17_code
def yJ2_compress_39247 : MethodName := ⟨RJ2, "compress", "([BII)[B"⟩
abbrev cJ2_compress_5af95 : ByteArray := prog_29_method_22_code
def yJ2_compress_5af95 : MethodName := ⟨RJ2, "compress", "([BI[BII)I"⟩
abbrev cJ2_fillNull_b72d1 : ByteArray := prog_29_method_70_code
def yJ2_fillNull_b72d1 : MethodName := ⟨RJ2, "fillNull", "([BII)V"⟩
abbrev cJ2_putCharSB_b72d1 : ByteArray := prog_29_method_71_code
def yJ2_putCharSB_b72d1 : MethodName := ⟨RJ2, "putCharSB", "([BII)V"⟩
abbrev cJ2_getChars_46870 : ByteArray := prog_29_method_77_code
def yJ2_getChars_46870 : MethodName := ⟨RJ2, "getChars", "(III[B)I"⟩
abbrev cJ2_putCharsAt_cd4e5 : ByteArray := prog_29_method_81_code
def yJ2_putCharsAt_cd4e5 : MethodName := ⟨RJ2, "putCharsAt", "([BICCCC)I"⟩
abbrev cJ2_charAt_3b067 : ByteArray := prog_29_method_83_code
def yJ2_charAt_3b067 : MethodName := ⟨RJ2, "charAt", "([BI)C"⟩
abbrev cJ2_inflate_0e8fd : ByteArray := prog_29_method_86_code
def yJ2_inflate_0e8fd : MethodName := ⟨RJ2, "inflate", "([BI[BII)V"⟩
abbrev cJ2_getChars_ba4f3 : ByteArray := prog_29_method_89_code
def yJ2_getChars_ba4f3 : MethodName := ⟨RJ2, "getChars", "(II[B)I"⟩
abbrev cJ2_checkIndex_2214a : ByteArray := prog_29_method_91_code
def yJ2_checkIndex_2214a : MethodName := ⟨RJ2, "checkIndex", "(I[B)V"⟩
abbrev cJ2_checkBoundsBeginEnd_d044e : ByteArray := prog_29_method_93_code
def yJ2_checkBoundsBeginEnd_d044e : MethodName := ⟨RJ2, "checkBoundsBeginEnd", "(II[B)V"⟩
abbrev cJ2_checkBoundsOffCount_d044e : ByteArray := prog_29_method_94_code
def yJ2_checkBoundsOffCount_d044e : MethodName := ⟨RJ2, "checkBoundsOffCount", "(II[B)V"⟩
def RJ10 : String := "java/lang/System"
def TJ10 : u_T := fun k => match k with
  | _ => ("", "", "", false)
def tyJ10 : Nat → FieldType := fun k => match k with
  | _ => .int
abbrev wsJ100 : List Cond := u_ws RJ10 TJ10 0
theorem nmJ10 : ∀ a, a < 0 → ∀ b, b < 0 → a ≠ b → (TJ10 a).2.1 ≠ (TJ10 b).2.1 := by decide +kernel
theorem tyJ10_ok : ∀ k, k < 0 → parseFieldDescriptor (TJ10 k).2.2.1 = some (tyJ10 k) := by decide +kernel
def RJxfd54e : String := "java/lang/constant/Constable"
def TJxfd54e : u_T := fun k => match k with
  | _ => ("", "", "", false)
def tyJxfd54e : Nat → FieldType := fun k => match k with
  | _ => .int
abbrev wsJxfd54e0 : List Cond := u_ws RJxfd54e TJxfd54e 0
theorem nmJxfd54e : ∀ a, a < 0 → ∀ b, b < 0 → a ≠ b → (TJxfd54e a).2.1 ≠ (TJxfd54e b).2.1 := by decide +kernel
theorem tyJxfd54e_ok : ∀ k, k < 0 → parseFieldDescriptor (TJxfd54e k).2.2.1 = some (tyJxfd54e k) := by decide +kernel
def RJx3cf43 : String := "java/lang/constant/ConstantDesc"
def TJx3cf43 : u_T := fun k => match k with
  | _ => ("", "", "", false)
def tyJx3cf43 : Nat → FieldType := fun k => match k with
  | _ => .int
abbrev wsJx3cf430 : List Cond := u_ws RJx3cf43 TJx3cf43 0
theorem nmJx3cf43 : ∀ a, a < 0 → ∀ b, b < 0 → a ≠ b → (TJx3cf43 a).2.1 ≠ (TJx3cf43 b).2.1 := by decide +kernel
theorem tyJx3cf43_ok : ∀ k, k < 0 → parseFieldDescriptor (TJx3cf43 k).2.2.1 = some (tyJx3cf43 k) := by decide +kernel
def RJ7 : String := "java/util/Arrays"
def TJ7 : u_T := fun k => match k with
  | _ => ("", "", "", false)
def tyJ7 : Nat → FieldType := fun k => match k with
  | _ => .int
abbrev wsJ70 : List Cond := u_ws RJ7 TJ7 0
theorem nmJ7 : ∀ a, a < 0 → ∀ b, b < 0 → a ≠ b → (TJ7 a).2.1 ≠ (TJ7 b).2.1 := by decide +kernel
theorem tyJ7_ok : ∀ k, k < 0 → parseFieldDescriptor (TJ7 k).2.2.1 = some (tyJ7 k) := by decide +kernel
abbrev cJ7_rangeCheck_23922 : ByteArray := prog_35_method_30_code
def yJ7_rangeCheck_23922 : MethodName := ⟨RJ7, "rangeCheck", "(III)V"⟩
abbrev cJ7_fill_eb02e : ByteArray := prog_35_method_110_code
def yJ7_fill_eb02e : MethodName := ⟨RJ7, "fill", "([BIIB)V"⟩
abbrev cJ7_copyOf_9075b : ByteArray := prog_35_method_121_code
def yJ7_copyOf_9075b : MethodName := ⟨RJ7, "copyOf", "([BI)[B"⟩
abbrev cJ7_checkLength_df160 : ByteArray := prog_35_method_131_code
def yJ7_checkLength_df160 : MethodName := ⟨RJ7, "checkLength", "(II)V"⟩
abbrev cJ7_copyOfRange_39247 : ByteArray := prog_35_method_132_code
def yJ7_copyOfRange_39247 : MethodName := ⟨RJ7, "copyOfRange", "([BII)[B"⟩
abbrev cJ7_copyOfRangeByte_39247 : ByteArray := prog_35_method_133_code
def yJ7_copyOfRangeByte_39247 : MethodName := ⟨RJ7, "copyOfRangeByte", "([BII)[B"⟩
def RJ8 : String := "jdk/internal/util/ArraysSupport"
def TJ8 : u_T := fun k => match k with
  | _ => ("", "", "", false)
def tyJ8 : Nat → FieldType := fun k => match k with
  | _ => .int
abbrev wsJ80 : List Cond := u_ws RJ8 TJ8 0
theorem nmJ8 : ∀ a, a < 0 → ∀ b, b < 0 → a ≠ b → (TJ8 a).2.1 ≠ (TJ8 b).2.1 := by decide +kernel
theorem tyJ8_ok : ∀ k, k < 0 → parseFieldDescriptor (TJ8 k).2.2.1 = some (tyJ8 k) := by decide +kernel
abbrev cJ8_newLength_cabcc : ByteArray := prog_37_method_27_code
def yJ8_newLength_cabcc : MethodName := ⟨RJ8, "newLength", "(III)I"⟩
abbrev cJ8_hugeLength_7cf53 : ByteArray := prog_37_method_28_code
def yJ8_hugeLength_7cf53 : MethodName := ⟨RJ8, "hugeLength", "(II)I"⟩
def RJ3 : String := "jdk/internal/util/Preconditions"
def TJ3 : u_T := fun k => match k with
  | _ => ("", "", "", false)
def tyJ3 : Nat → FieldType := fun k => match k with
  | _ => .int
abbrev wsJ30 : List Cond := u_ws RJ3 TJ3 0
theorem nmJ3 : ∀ a, a < 0 → ∀ b, b < 0 → a ≠ b → (TJ3 a).2.1 ≠ (TJ3 b).2.1 := by decide +kernel
theorem tyJ3_ok : ∀ k, k < 0 → parseFieldDescriptor (TJ3 k).2.2.1 = some (tyJ3 k) := by decide +kernel
abbrev cJ3_checkIndex_8e157 : ByteArray := prog_38_method_11_code
def yJ3_checkIndex_8e157 : MethodName := ⟨RJ3, "checkIndex", "(IILjava/util/function/BiFunction;)I"⟩
abbrev cJ3_checkFromToIndex_8c36e : ByteArray := prog_38_method_12_code
def yJ3_checkFromToIndex_8c36e : MethodName := ⟨RJ3, "checkFromToIndex", "(IIILjava/util/function/BiFunction;)I"⟩
abbrev cJ3_checkFromIndexSize_8c36e : ByteArray := prog_38_method_13_code
def yJ3_checkFromIndexSize_8c36e : MethodName := ⟨RJ3, "checkFromIndexSize", "(IIILjava/util/function/BiFunction;)I"⟩
def RL : String := "MineHoistLaw"
abbrev cL_at : ByteArray := method_2_code
def yL_at : MethodName := ⟨RL, "at", "([II)I"⟩
abbrev cL_some : ByteArray := method_3_code
def yL_some : MethodName := ⟨RL, "some", "(II)I"⟩
abbrev cL_level : ByteArray := method_4_code
def yL_level : MethodName := ⟨RL, "level", "(LMineHoist;IIII)I"⟩
abbrev cL_sets : ByteArray := method_5_code
def yL_sets : MethodName := ⟨RL, "sets", "(LMineHoist;CI)I"⟩
abbrev cL_door : ByteArray := method_6_code
def yL_door : MethodName := ⟨RL, "door", "(LMineHoist;IZ)I"⟩
abbrev cL_pass : ByteArray := method_7_code
def yL_pass : MethodName := ⟨RL, "pass", "(LMineHoist;I)I"⟩
abbrev cL_of : ByteArray := method_8_code
def yL_of : MethodName := ⟨RL, "of", "(LMineHoist;II)I"⟩
abbrev cL_mean : ByteArray := method_9_code
def yL_mean : MethodName := ⟨RL, "mean", "(LMineHoist;)D"⟩
abbrev cL_hire : ByteArray := method_10_code
def yL_hire : MethodName := ⟨RL, "hire", "(LMineHoist;I)I"⟩
abbrev cL_blast : ByteArray := method_11_code
def yL_blast : MethodName := ⟨RL, "blast", "(LMineHoist;II)I"⟩
abbrev cL_request : ByteArray := method_12_code
def yL_request : MethodName := ⟨RL, "request", "(LMineHoist;CII)I"⟩
abbrev cL_asked : ByteArray := method_13_code
def yL_asked : MethodName := ⟨RL, "asked", "(LMineHoist;II)I"⟩
abbrev cL_trip : ByteArray := method_14_code
def yL_trip : MethodName := ⟨RL, "trip", "(LMineHoist;I)I"⟩
abbrev cL_line : ByteArray := method_15_code
def yL_line : MethodName := ⟨RL, "line", "(LMineHoist;I)C"⟩
abbrev cL_sum : ByteArray := method_16_code
def yL_sum : MethodName := ⟨RL, "sum", "(LMineHoist;)J"⟩
abbrev cL_isSound : ByteArray := method_17_code
def yL_isSound : MethodName := ⟨RL, "isSound", "(LMineHoist;I)Z"⟩
abbrev cL_law : ByteArray := code
def yL_law : MethodName := ⟨RL, "law", "([I)Z"⟩
abbrev vwCl : List vw_C := [(RJ0, TJ0, 4), (RJ4, TJ4, 4), (RJx00060, TJx00060, 6), (RJx7c733, TJx7c733, 6), (RX0, TX0, 11), (RX1, TX1, 16), (RX2, TX2, 4), (RX3, TX3, 5), (RX4, TX4, 2), (RX5, TX5, 3)]

def wsU_0 : List Cond := [.fieldLink RX0 7 "MineHoist$Level" "depth" "I", .fieldLink RX0 13 "MineHoist$Level" "size" "I", .fieldLink RX0 16 "MineHoist$Level" "width" "I", .fieldLink RX0 19 "MineHoist$Level" "inflow" "I", .fieldLink RX0 22 "MineHoist$Level" "hasOpenDoor" "Z", .fieldLink RX0 26 "MineHoist$Level" "air" "I", .fieldLink RX0 29 "MineHoist$Level" "unitsFollowed" "I", .fieldLink RX0 32 "MineHoist$Level" "gas" "I", .fieldLink RX0 35 "MineHoist$Level" "people" "I", .fieldLink RX0 38 "MineHoist$Level" "ore" "I", .fieldLink RX0 41 "MineHoist$Level" "closedUntil" "I", .methodLink RX0 44 Lib.Math.min.name, .static Lib.Math.min.name, .initialized "java/lang/Math", .code Lib.Math.min.name Lib.Math.min.code 2 (some .int), .fieldLink RX2 7 "MineHoist$Request" "number" "I", .fieldLink RX2 13 "MineHoist$Request" "kind" "C", .fieldLink RX2 17 "MineHoist$Request" "level" "I", .fieldLink RX2 20 "MineHoist$Request" "count" "I", .fieldLink RX3 9 "MineHoist$Trip" "kind" "C", .fieldLink RX3 19 "MineHoist$Trip" "level" "I", .fieldLink RX3 22 "MineHoist$Trip" "load" "I", .fieldLink RX3 25 "MineHoist$Trip" "rest" "I", .fieldLink RX3 15 "MineHoist$Trip" "request" "I", .methodLink RX3 28 yX3_set, .initialized RX3, .code yX3_set cX3_set 6 none, .instanceMethod yX3_set, .selects RX3 yX3_set yX3_set, .methodLink RX3 32 yX3_isOn, .code yX3_isOn cX3_isOn 1 (some .boolean), .instanceMethod yX3_isOn, .selects RX3 yX3_isOn yX3_isOn, .fieldLink RX4 18 "MineHoist$Waiting" "size" "I", .fieldLink RX4 11 "MineHoist$Waiting" "rows" "[LMineHoist$Request;", .fieldLink RX4 22 "MineHoist$Request" "number" "I", .fieldLink RX4 25 "MineHoist$Request" "kind" "C", .fieldLink RX4 29 "MineHoist$Request" "level" "I", .fieldLink RX4 32 "MineHoist$Request" "count" "I", .methodLink RX4 35 yX2_set, .initialized RX2, .code yX2_set cX2_set 5 none, .instanceMethod yX2_set, .selects RX2 yX2_set yX2_set, .methodLink RX4 43 yX4_numberAt, .initialized RX4, .code yX4_numberAt cX4_numberAt 2 (some .int), .instanceMethod yX4_numberAt]
def wsU_1 : List Cond := [.selects RX4 yX4_numberAt yX4_numberAt, .methodLink RX4 39 yX4_positionOf, .code yX4_positionOf cX4_positionOf 3 (some .int), .instanceMethod yX4_positionOf, .selects RX4 yX4_positionOf yX4_positionOf, .fieldLink RX1 18 "MineHoist$Mine" "places" "[LMineHoist$Level;", .fieldLink RX1 25 "MineHoist$Mine" "waiting" "LMineHoist$Waiting;", .methodLink RX1 56 yX4_copyFrom, .code yX4_copyFrom cX4_copyFrom 4 none, .instanceMethod yX4_copyFrom, .selects RX4 yX4_copyFrom yX4_copyFrom, .fieldLink RX1 32 "MineHoist$Mine" "trip" "LMineHoist$Trip;", .methodLink RX1 59 yX3_copyFrom, .code yX3_copyFrom cX3_copyFrom 2 none, .instanceMethod yX3_copyFrom, .selects RX3 yX3_copyFrom yX3_copyFrom, .fieldLink RX1 62 "MineHoist$Mine" "levels" "I", .fieldLink RX1 36 "MineHoist$Mine" "fan" "I", .fieldLink RX1 40 "MineHoist$Mine" "limit" "I", .fieldLink RX1 43 "MineHoist$Mine" "speed" "I", .fieldLink RX1 65 "MineHoist$Mine" "minutes" "I", .fieldLink RX1 68 "MineHoist$Mine" "gasIn" "I", .fieldLink RX1 71 "MineHoist$Mine" "gasVented" "I", .fieldLink RX1 74 "MineHoist$Mine" "nextRequest" "I", .fieldLink RX1 46 "MineHoist$Mine" "cage" "I", .fieldLink RX1 77 "MineHoist$Mine" "tripsDone" "I", .fieldLink RX1 80 "MineHoist$Mine" "requestsDropped" "I", .fieldLink RX1 49 "MineHoist$Mine" "requestDone" "I", .methodLink RX1 52 yX0_copyFrom, .initialized RX0, .code yX0_copyFrom cX0_copyFrom 2 none, .instanceMethod yX0_copyFrom, .selects RX0 yX0_copyFrom yX0_copyFrom, .fieldLink RX1 12 "MineHoist$Mine" "surface" "LMineHoist$Level;", .methodLink RX1 83 yX0_share, .code yX0_share cX0_share 1 (some .int), .instanceMethod yX0_share, .selects RX0 yX0_share yX0_share, .fieldLink RX1 87 "MineHoist$Level" "closedUntil" "I", .methodLink RX1 90 yX4_holds, .code yX4_holds cX4_holds 2 (some .boolean), .instanceMethod yX4_holds, .selects RX4 yX4_holds yX4_holds, .methodLink RX1 94 yX3_isFor, .code yX3_isFor cX3_isFor 2 (some .boolean), .instanceMethod yX3_isFor, .selects RX3 yX3_isFor yX3_isFor, .fieldLink RX1 97 "MineHoist$Trip" "kind" "C"]
def wsU_2 : List Cond := [.fieldLink RX1 101 "MineHoist$Trip" "load" "I", .methodLink RX1 104 yX1_place, .initialized RX1, .code yX1_place cX1_place 2 (some (.object "MineHoist$Level")), .instanceMethod yX1_place, .selects RX1 yX1_place yX1_place, .fieldLink RX1 108 "MineHoist$Level" "people" "I", .methodLink RX1 111 yX0_openWidth, .code yX0_openWidth cX0_openWidth 1 (some .int), .instanceMethod yX0_openWidth, .selects RX0 yX0_openWidth yX0_openWidth, .methodLink RX1 114 yX1_openWidths, .code yX1_openWidths cX1_openWidths 3 (some .int), .instanceMethod yX1_openWidths, .selects RX1 yX1_openWidths yX1_openWidths, .methodLink RX1 117 yX1_intoGallery, .code yX1_intoGallery cX1_intoGallery 3 (some .int), .static yX1_intoGallery, .fieldLink RX1 121 "MineHoist$Level" "air" "I", .methodLink RX1 127 yX1_galleryOf, .code yX1_galleryOf cX1_galleryOf 8 (some .int), .instanceMethod yX1_galleryOf, .selects RX1 yX1_galleryOf yX1_galleryOf, .fieldLink RX1 124 "MineHoist$Level" "unitsFollowed" "I", .fieldLink RX1 131 "MineHoist$Level" "gas" "I", .fieldLink RX1 154 "MineHoist$Level" "inflow" "I", .methodLink RX1 157 yX1_letGasIn, .code yX1_letGasIn cX1_letGasIn 3 none, .instanceMethod yX1_letGasIn, .selects RX1 yX1_letGasIn yX1_letGasIn, .methodLink RX1 161 yX0_gasTaken, .code yX0_gasTaken cX0_gasTaken 1 (some .int), .instanceMethod yX0_gasTaken, .selects RX0 yX0_gasTaken yX0_gasTaken, .fieldLink RX1 198 "MineHoist$Level" "ore" "I", .fieldLink RX1 226 "MineHoist$Level" "depth" "I", .methodLink RX1 229 Lib.Math.abs.name, .static Lib.Math.abs.name, .code Lib.Math.abs.name Lib.Math.abs.code 1 (some .int), .methodLink RX1 207 yX1_way, .code yX1_way cX1_way 4 (some .int), .instanceMethod yX1_way, .selects RX1 yX1_way yX1_way, .methodLink RX1 211 yX1_carry, .code yX1_carry cX1_carry 3 none, .static yX1_carry, .methodLink RX1 215 yX3_set, .methodLink RX1 168 Lib.Math.min.name]
def wsU_3 : List Cond := [.methodLink RX1 173 yX1_beginTrip, .code yX1_beginTrip cX1_beginTrip 8 none, .instanceMethod yX1_beginTrip, .selects RX1 yX1_beginTrip yX1_beginTrip, .methodLink RX1 164 yX1_hasAlarm, .code yX1_hasAlarm cX1_hasAlarm 2 (some .boolean), .instanceMethod yX1_hasAlarm, .selects RX1 yX1_hasAlarm yX1_hasAlarm, .fieldLink RX1 195 "MineHoist$Request" "level" "I", .fieldLink RX1 194 "MineHoist$Request" "kind" "C", .methodLink RX1 204 yX1_isShut, .code yX1_isShut cX1_isShut 2 (some .boolean), .instanceMethod yX1_isShut, .selects RX1 yX1_isShut yX1_isShut, .fieldLink RX1 201 "MineHoist$Request" "count" "I", .methodLink RX1 177 yX4_oldest, .code yX4_oldest cX4_oldest 3 (some (.object "MineHoist$Request")), .instanceMethod yX4_oldest, .selects RX4 yX4_oldest yX4_oldest, .fieldLink RX1 181 "MineHoist$Request" "number" "I", .methodLink RX1 186 yX4_remove, .code yX4_remove cX4_remove 5 none, .instanceMethod yX4_remove, .selects RX4 yX4_remove yX4_remove, .methodLink RX1 190 yX1_loadOf, .code yX1_loadOf cX1_loadOf 3 (some .int), .instanceMethod yX1_loadOf, .selects RX1 yX1_loadOf yX1_loadOf, .fieldLink RX1 220 "MineHoist$Trip" "request" "I", .methodLink RX1 223 yX3_clear, .code yX3_clear cX3_clear 1 none, .instanceMethod yX3_clear, .selects RX3 yX3_clear yX3_clear, .fieldLink RX1 219 "MineHoist$Trip" "level" "I", .methodLink RX1 137 yX3_isOn, .fieldLink RX1 148 "MineHoist$Trip" "rest" "I", .methodLink RX1 151 yX1_endTrip, .code yX1_endTrip cX1_endTrip 1 none, .instanceMethod yX1_endTrip, .selects RX1 yX1_endTrip yX1_endTrip, .methodLink RX1 141 yX1_startFlight, .code yX1_startFlight cX1_startFlight 5 (some .boolean), .instanceMethod yX1_startFlight, .selects RX1 yX1_startFlight yX1_startFlight, .methodLink RX1 144 yX1_startRequest, .code yX1_startRequest cX1_startRequest 5 (some .boolean), .instanceMethod yX1_startRequest, .selects RX1 yX1_startRequest yX1_startRequest]
def wsU_4 : List Cond := [.methodLink RX1 134 yX1_moveGas, .code yX1_moveGas cX1_moveGas 3 none, .instanceMethod yX1_moveGas, .selects RX1 yX1_moveGas yX1_moveGas, .methodLink RX1 233 yX1_isPending, .code yX1_isPending cX1_isPending 2 (some .boolean), .instanceMethod yX1_isPending, .selects RX1 yX1_isPending yX1_isPending, .methodLink RX1 236 yX1_passMinute, .code yX1_passMinute cX1_passMinute 2 none, .instanceMethod yX1_passMinute, .selects RX1 yX1_passMinute yX1_passMinute, .classLink RX5 43 "java/lang/IllegalArgumentException", .initialized "java/lang/IllegalArgumentException", .classLink RX5 194 "java/lang/IndexOutOfBoundsException", .initialized "java/lang/IndexOutOfBoundsException", .fieldLink RX5 10 "MineHoist" "mine" "LMineHoist$Mine;", .fieldLink RX5 30 "MineHoist$Mine" "levels" "I", .methodLink RX5 65 yX5_checkPlace, .initialized RX5, .code yX5_checkPlace cX5_checkPlace 2 none, .instanceMethod yX5_checkPlace, .selects RX5 yX5_checkPlace yX5_checkPlace, .fieldLink RX5 146 "MineHoist$Mine" "trip" "LMineHoist$Trip;", .methodLink RX5 254 yX3_isOn, .classLink RX5 121 "java/util/NoSuchElementException", .initialized "java/util/NoSuchElementException", .fieldLink RX5 177 "MineHoist$Mine" "waiting" "LMineHoist$Waiting;", .fieldLink RX5 191 "MineHoist$Waiting" "size" "I", .fieldLink RX5 287 "MineHoist$Mine" "nextRequest" "I", .methodLink RX5 290 yX4_add, .code yX4_add cX4_add 5 none, .instanceMethod yX4_add, .selects RX4 yX4_add yX4_add, .classLink RX5 53 "java/lang/IllegalStateException", .initialized "java/lang/IllegalStateException", .methodLink RX5 26 yX5_checkRange, .code yX5_checkRange cX5_checkRange 3 none, .static yX5_checkRange, .methodLink RX5 34 yX1_place, .fieldLink RX5 38 "MineHoist$Level" "depth" "I", .fieldLink RX5 50 "MineHoist$Mine" "minutes" "I", .methodLink RX5 58 yX0_open, .code yX0_open cX0_open 5 none, .instanceMethod yX0_open, .selects RX0 yX0_open yX0_open, .methodLink RX5 62 yX1_spreadAir, .code yX1_spreadAir cX1_spreadAir 5 none]
def wsU_5 : List Cond := [.instanceMethod yX1_spreadAir, .selects RX1 yX1_spreadAir yX1_spreadAir, .fieldLink RX5 69 "MineHoist$Mine" "fan" "I", .methodLink RX5 72 yX5_checkLevel, .code yX5_checkLevel cX5_checkLevel 2 none, .instanceMethod yX5_checkLevel, .selects RX5 yX5_checkLevel yX5_checkLevel, .fieldLink RX5 75 "MineHoist$Level" "hasOpenDoor" "Z", .fieldLink RX5 79 "MineHoist$Level" "air" "I", .methodLink RX5 82 yX1_followAir, .code yX1_followAir cX1_followAir 3 none, .instanceMethod yX1_followAir, .selects RX1 yX1_followAir yX1_followAir, .fieldLink RX5 85 "MineHoist$Level" "unitsFollowed" "I", .fieldLink RX5 88 "MineHoist$Mine" "limit" "I", .fieldLink RX5 91 "MineHoist$Level" "gas" "I", .methodLink RX5 94 yX0_share, .methodLink RX5 98 yX1_hasAlarm, .fieldLink RX5 102 "MineHoist$Mine" "gasIn" "I", .fieldLink RX5 105 "MineHoist$Mine" "gasVented" "I", .classLink RX5 108 "java/lang/ArithmeticException", .initialized "java/lang/ArithmeticException", .fieldLink RX5 16 "MineHoist" "trial" "LMineHoist$Mine;", .methodLink RX5 113 yX1_copyFrom, .code yX1_copyFrom cX1_copyFrom 3 none, .instanceMethod yX1_copyFrom, .selects RX1 yX1_copyFrom yX1_copyFrom, .methodLink RX5 117 yX1_passToAlarm, .code yX1_passToAlarm cX1_passToAlarm 3 (some .int), .instanceMethod yX1_passToAlarm, .selects RX1 yX1_passToAlarm yX1_passToAlarm, .methodLink RX5 126 yX1_allPeople, .code yX1_allPeople cX1_allPeople 3 (some .int), .instanceMethod yX1_allPeople, .selects RX1 yX1_allPeople yX1_allPeople, .fieldLink RX5 131 "MineHoist$Mine" "surface" "LMineHoist$Level;", .fieldLink RX5 135 "MineHoist$Level" "people" "I", .fieldLink RX5 138 "MineHoist$Level" "ore" "I", .methodLink RX5 141 yX1_isShut, .classLink RX5 156 "java/lang/UnsupportedOperationException", .initialized "java/lang/UnsupportedOperationException", .methodLink RX5 150 yX3_isTo, .code yX3_isTo cX3_isTo 2 (some .boolean), .instanceMethod yX3_isTo, .selects RX3 yX3_isTo yX3_isTo, .methodLink RX5 161 yX1_letGasIn, .fieldLink RX5 165 "MineHoist$Level" "closedUntil" "I", .fieldLink RX5 168 "MineHoist$Mine" "speed" "I"]
def wsU_6 : List Cond := [.methodLink RX5 173 yX5_request, .code yX5_request cX5_request 5 (some .int), .instanceMethod yX5_request, .selects RX5 yX5_request yX5_request, .methodLink RX5 181 yX4_holds, .methodLink RX5 188 yX4_remove, .methodLink RX5 199 yX4_numberAt, .methodLink RX5 205 yX1_passMinute, .fieldLink RX5 208 "MineHoist$Trip" "kind" "C", .methodLink RX5 212 yX5_checkTrip, .code yX5_checkTrip cX5_checkTrip 1 none, .instanceMethod yX5_checkTrip, .selects RX5 yX5_checkTrip yX5_checkTrip, .fieldLink RX5 215 "MineHoist$Trip" "level" "I", .fieldLink RX5 218 "MineHoist$Trip" "load" "I", .fieldLink RX5 221 "MineHoist$Trip" "rest" "I", .fieldLink RX5 224 "MineHoist$Mine" "cage" "I", .fieldLink RX5 227 "MineHoist$Mine" "tripsDone" "I", .fieldLink RX5 230 "MineHoist$Mine" "requestsDropped" "I", .methodLink RX5 233 yX1_isPending, .methodLink RX5 238 yX1_passToEndOf, .code yX1_passToEndOf cX1_passToEndOf 3 (some .int), .instanceMethod yX1_passToEndOf, .selects RX1 yX1_passToEndOf yX1_passToEndOf, .methodLink RL 7 yX5_addLevel, .code yX5_addLevel cX5_addLevel 5 (some .int), .instanceMethod yX5_addLevel, .selects RX5 yX5_addLevel yX5_addLevel, .classLink RL 13 "java/lang/IllegalArgumentException", .classLink RL 15 "java/lang/IllegalStateException", .methodLink RL 24 yX5_setSpeed, .code yX5_setSpeed cX5_setSpeed 3 (some .int), .instanceMethod yX5_setSpeed, .selects RX5 yX5_setSpeed yX5_setSpeed, .methodLink RL 21 yX5_setLimit, .code yX5_setLimit cX5_setLimit 3 (some .int), .instanceMethod yX5_setLimit, .selects RX5 yX5_setLimit yX5_setLimit, .methodLink RL 17 yX5_setFan, .code yX5_setFan cX5_setFan 3 (some .int), .instanceMethod yX5_setFan, .selects RX5 yX5_setFan yX5_setFan, .methodLink RL 27 yX5_setDoor, .code yX5_setDoor cX5_setDoor 5 (some .boolean), .instanceMethod yX5_setDoor, .selects RX5 yX5_setDoor yX5_setDoor, .classLink RL 31 "java/lang/IndexOutOfBoundsException", .methodLink RL 33 yX5_pass]
def wsU_7 : List Cond := [.code yX5_pass cX5_pass 3 (some .int), .instanceMethod yX5_pass, .selects RX5 yX5_pass yX5_pass, .methodLink RL 36 yX5_depthOf, .code yX5_depthOf cX5_depthOf 2 (some .int), .instanceMethod yX5_depthOf, .selects RX5 yX5_depthOf yX5_depthOf, .classLink RL 67 "java/util/NoSuchElementException", .methodLink RL 39 yX5_airOf, .code yX5_airOf cX5_airOf 2 (some .int), .instanceMethod yX5_airOf, .selects RX5 yX5_airOf yX5_airOf, .methodLink RL 42 yX5_airByPaths, .code yX5_airByPaths cX5_airByPaths 2 (some .int), .instanceMethod yX5_airByPaths, .selects RX5 yX5_airByPaths yX5_airByPaths, .methodLink RL 45 yX5_gasOf, .code yX5_gasOf cX5_gasOf 2 (some .int), .instanceMethod yX5_gasOf, .selects RX5 yX5_gasOf yX5_gasOf, .methodLink RL 48 yX5_gasShare, .code yX5_gasShare cX5_gasShare 2 (some .int), .instanceMethod yX5_gasShare, .selects RX5 yX5_gasShare yX5_gasShare, .methodLink RL 51 yX5_isAlarm, .code yX5_isAlarm cX5_isAlarm 2 (some .boolean), .instanceMethod yX5_isAlarm, .selects RX5 yX5_isAlarm yX5_isAlarm, .methodLink RL 55 yX5_minutesToAlarm, .code yX5_minutesToAlarm cX5_minutesToAlarm 3 (some .int), .instanceMethod yX5_minutesToAlarm, .selects RX5 yX5_minutesToAlarm yX5_minutesToAlarm, .methodLink RL 58 yX5_peopleAt, .code yX5_peopleAt cX5_peopleAt 2 (some .int), .instanceMethod yX5_peopleAt, .selects RX5 yX5_peopleAt yX5_peopleAt, .methodLink RL 61 yX5_oreAt, .code yX5_oreAt cX5_oreAt 2 (some .int), .instanceMethod yX5_oreAt, .selects RX5 yX5_oreAt yX5_oreAt, .methodLink RL 64 yX5_isClosed, .code yX5_isClosed cX5_isClosed 2 (some .boolean), .instanceMethod yX5_isClosed, .selects RX5 yX5_isClosed yX5_isClosed, .methodLink RL 69 yX5_meanShare, .code yX5_meanShare cX5_meanShare 3 (some .double), .instanceMethod yX5_meanShare, .selects RX5 yX5_meanShare yX5_meanShare]
def wsU_8 : List Cond := [.constantDouble RL 75 (13830554455654793216), .classLink RL 73 "java/lang/ArithmeticException", .methodLink RL 77 yX5_hire, .code yX5_hire cX5_hire 2 (some .int), .instanceMethod yX5_hire, .selects RX5 yX5_hire yX5_hire, .methodLink RL 80 yX5_blast, .code yX5_blast cX5_blast 4 (some .int), .instanceMethod yX5_blast, .selects RX5 yX5_blast yX5_blast, .classLink RL 84 "java/lang/UnsupportedOperationException", .methodLink RL 92 yX5_hoistOre, .code yX5_hoistOre cX5_hoistOre 2 (some .int), .instanceMethod yX5_hoistOre, .selects RX5 yX5_hoistOre yX5_hoistOre, .methodLink RL 89 yX5_callUp, .code yX5_callUp cX5_callUp 3 (some .int), .instanceMethod yX5_callUp, .selects RX5 yX5_callUp yX5_callUp, .methodLink RL 86 yX5_sendDown, .code yX5_sendDown cX5_sendDown 4 (some .int), .instanceMethod yX5_sendDown, .selects RX5 yX5_sendDown yX5_sendDown, .methodLink RL 101 yX5_waitFor, .code yX5_waitFor cX5_waitFor 3 (some .int), .instanceMethod yX5_waitFor, .selects RX5 yX5_waitFor yX5_waitFor, .methodLink RL 98 yX5_waitingAt, .code yX5_waitingAt cX5_waitingAt 2 (some .int), .instanceMethod yX5_waitingAt, .selects RX5 yX5_waitingAt yX5_waitingAt, .methodLink RL 95 yX5_cancel, .code yX5_cancel cX5_cancel 2 (some .int), .instanceMethod yX5_cancel, .selects RX5 yX5_cancel yX5_cancel, .methodLink RL 111 yX5_tripRest, .code yX5_tripRest cX5_tripRest 1 (some .int), .instanceMethod yX5_tripRest, .selects RX5 yX5_tripRest yX5_tripRest, .methodLink RL 108 yX5_tripLoad, .code yX5_tripLoad cX5_tripLoad 1 (some .int), .instanceMethod yX5_tripLoad, .selects RX5 yX5_tripLoad yX5_tripLoad, .methodLink RL 104 yX5_tripLevel, .code yX5_tripLevel cX5_tripLevel 1 (some .int), .instanceMethod yX5_tripLevel, .selects RX5 yX5_tripLevel yX5_tripLevel, .methodLink RL 118 yX5_clock]
def wsU_9 : List Cond := [.code yX5_clock cX5_clock 1 (some .int), .instanceMethod yX5_clock, .selects RX5 yX5_clock yX5_clock, .constantLong RL 121 (31), .methodLink RL 123 yX5_gasTotal, .code yX5_gasTotal cX5_gasTotal 1 (some .int), .instanceMethod yX5_gasTotal, .selects RX5 yX5_gasTotal yX5_gasTotal, .constantLong RL 126 (961), .methodLink RL 128 yX5_ventedTotal, .code yX5_ventedTotal cX5_ventedTotal 1 (some .int), .instanceMethod yX5_ventedTotal, .selects RX5 yX5_ventedTotal yX5_ventedTotal, .constantLong RL 131 (7), .methodLink RL 133 yX5_peopleTotal, .code yX5_peopleTotal cX5_peopleTotal 1 (some .int), .instanceMethod yX5_peopleTotal, .selects RX5 yX5_peopleTotal yX5_peopleTotal, .constantLong RL 136 (11), .methodLink RL 138 yX5_waitingCount, .code yX5_waitingCount cX5_waitingCount 1 (some .int), .instanceMethod yX5_waitingCount, .selects RX5 yX5_waitingCount yX5_waitingCount, .constantLong RL 141 (13), .methodLink RL 143 yX5_doneCount, .code yX5_doneCount cX5_doneCount 1 (some .int), .instanceMethod yX5_doneCount, .selects RX5 yX5_doneCount yX5_doneCount, .constantLong RL 146 (17), .methodLink RL 148 yX5_droppedCount, .code yX5_droppedCount cX5_droppedCount 1 (some .int), .instanceMethod yX5_droppedCount, .selects RX5 yX5_droppedCount yX5_droppedCount, .constantLong RL 151 (19), .methodLink RL 153 yX5_tripKind, .code yX5_tripKind cX5_tripKind 1 (some .char), .instanceMethod yX5_tripKind, .selects RX5 yX5_tripKind yX5_tripKind, .constantLong RL 157 (23), .methodLink RL 159 yX5_cageLevel, .code yX5_cageLevel cX5_cageLevel 1 (some .int), .instanceMethod yX5_cageLevel, .selects RX5 yX5_cageLevel yX5_cageLevel, .methodLink RL 162 yX5_levelCount, .code yX5_levelCount cX5_levelCount 1 (some .int), .instanceMethod yX5_levelCount, .selects RX5 yX5_levelCount yX5_levelCount, .methodLink RL 178 yL_trip]
def wsU_10 : List Cond := [.initialized RL, .codeWith yL_trip cL_trip 3 (some .int) [(0, 27, 28, 67)], .static yL_trip, .constantLong RL 171 (3), .constantLong RL 173 (5), .methodLink RL 175 yL_asked, .codeWith yL_asked cL_asked 4 (some .int) [(0, 30, 31, 67), (0, 30, 36, 31), (0, 30, 41, 84)], .static yL_asked, .methodLink RL 165 yL_of, .codeWith yL_of cL_of 4 (some .int) [(0, 57, 128, 31), (58, 63, 128, 31), (64, 69, 128, 31), (70, 75, 128, 31), (76, 81, 128, 31), (82, 95, 128, 31), (96, 101, 128, 31), (102, 107, 128, 31), (108, 113, 128, 31), (114, 127, 128, 31), (0, 57, 133, 67), (58, 63, 133, 67), (64, 69, 133, 67), (70, 75, 133, 67), (76, 81, 133, 67), (82, 95, 133, 67), (96, 101, 133, 67), (102, 107, 133, 67), (108, 113, 133, 67), (114, 127, 133, 67)], .static yL_of, .methodLink RL 182 yL_sets, .codeWith yL_sets cL_sets 4 (some .int) [(0, 33, 34, 13)], .static yL_sets, .methodLink RL 186 yX5_endangered, .code yX5_endangered cX5_endangered 4 (some .int), .instanceMethod yX5_endangered, .selects RX5 yX5_endangered yX5_endangered, .methodLink RL 189 yX5_isConsistent, .code yX5_isConsistent cX5_isConsistent 4 (some .boolean), .instanceMethod yX5_isConsistent, .selects RX5 yX5_isConsistent yX5_isConsistent]
def wsT_47 : List Cond := (vx_atS RX5 47 "java/lang/IllegalArgumentException" ["java/lang/RuntimeException", "java/lang/Exception"]).filter goodWord
def wsT_57 : List Cond := (vx_atS RX5 57 "java/lang/IllegalStateException" ["java/lang/RuntimeException", "java/lang/Exception"]).filter goodWord
def wsT_112 : List Cond := (vx_atS RX5 112 "java/lang/ArithmeticException" ["java/lang/RuntimeException", "java/lang/Exception"]).filter goodWord
def nse_rx : ByteArray := ⟨#[0x2a, 0x2b, 0xb7, 0x00, 0x0d, 0xb1]⟩
theorem nse_0 : decode nse_rx 0 = .ok (.aload_n 0, 1) := by decide +kernel
theorem nse_1 : decode nse_rx 1 = .ok (.aload_n 1, 1) := by decide +kernel
theorem nse_2 : decode nse_rx 2 = .ok (.invokespecial 13, 3) := by decide +kernel
theorem nse_5 : decode nse_rx 5 = .ok (.return_, 1) := by decide +kernel
def wsT_125 : List Cond := (vx_atX RX5 125 "java/util/NoSuchElementException" 13 nse_rx ["java/lang/RuntimeException", "java/lang/Exception"]).filter goodWord
def wsT_160 : List Cond := (vx_atS RX5 160 "java/lang/UnsupportedOperationException" ["java/lang/RuntimeException", "java/lang/Exception"]).filter goodWord
def wsT_198 : List Cond := (vx_atS RX5 198 "java/lang/IndexOutOfBoundsException" ["java/lang/RuntimeException", "java/lang/Exception"]).filter goodWord
def wsU : List Cond := wsU_0 ++ (wsU_1 ++ (wsU_2 ++ (wsU_3 ++ (wsU_4 ++ (wsU_5 ++ (wsU_6 ++ (wsU_7 ++ (wsU_8 ++ (wsU_9 ++ (wsU_10 ++ (wsX00 ++ (wsX10 ++ (wsX20 ++ (wsX30 ++ (wsX40 ++ (wsX50 ++ (wsT_47 ++ (wsT_57 ++ (wsT_112 ++ (wsT_125 ++ (wsT_160 ++ (wsT_198))))))))))))))))))))))
theorem cU_0 {w : Cond} (h : w ∈ wsU_0) : w ∈ wsU := List.mem_append_left _ (h)
theorem u_0 : (Cond.fieldLink RX0 7 "MineHoist$Level" "depth" "I") ∈ wsU := cU_0 (List.mem_of_getElem? (i := 0) rfl)
theorem u_1 : (Cond.fieldLink RX0 13 "MineHoist$Level" "size" "I") ∈ wsU := cU_0 (List.mem_of_getElem? (i := 1) rfl)
theorem u_2 : (Cond.fieldLink RX0 16 "MineHoist$Level" "width" "I") ∈ wsU := cU_0 (List.mem_of_getElem? (i := 2) rfl)
theorem u_3 : (Cond.fieldLink RX0 19 "MineHoist$Level" "inflow" "I") ∈ wsU := cU_0 (List.mem_of_getElem? (i := 3) rfl)
theorem u_4 : (Cond.fieldLink RX0 22 "MineHoist$Level" "hasOpenDoor" "Z") ∈ wsU := cU_0 (List.mem_of_getElem? (i := 4) rfl)
theorem u_5 : (Cond.fieldLink RX0 26 "MineHoist$Level" "air" "I") ∈ wsU := cU_0 (List.mem_of_getElem? (i := 5) rfl)
theorem u_6 : (Cond.fieldLink RX0 29 "MineHoist$Level" "unitsFollowed" "I") ∈ wsU := cU_0 (List.mem_of_getElem? (i := 6) rfl)
theorem u_7 : (Cond.fieldLink RX0 32 "MineHoist$Level" "gas" "I") ∈ wsU := cU_0 (List.mem_of_getElem? (i := 7) rfl)
theorem u_8 : (Cond.fieldLink RX0 35 "MineHoist$Level" "people" "I") ∈ wsU := cU_0 (List.mem_of_getElem? (i := 8) rfl)
theorem u_9 : (Cond.fieldLink RX0 38 "MineHoist$Level" "ore" "I") ∈ wsU := cU_0 (List.mem_of_getElem? (i := 9) rfl)
theorem u_10 : (Cond.fieldLink RX0 41 "MineHoist$Level" "closedUntil" "I") ∈ wsU := cU_0 (List.mem_of_getElem? (i := 10) rfl)
theorem u_11 : (Cond.methodLink RX0 44 Lib.Math.min.name) ∈ wsU := cU_0 (List.mem_of_getElem? (i := 11) rfl)
theorem u_12 : (Cond.static Lib.Math.min.name) ∈ wsU := cU_0 (List.mem_of_getElem? (i := 12) rfl)
theorem u_13 : (Cond.initialized "java/lang/Math") ∈ wsU := cU_0 (List.mem_of_getElem? (i := 13) rfl)
theorem u_14 : (Cond.code Lib.Math.min.name Lib.Math.min.code 2 (some .int)) ∈ wsU := cU_0 (List.mem_of_getElem? (i := 14) rfl)
theorem u_15 : (Cond.fieldLink RX2 7 "MineHoist$Request" "number" "I") ∈ wsU := cU_0 (List.mem_of_getElem? (i := 15) rfl)
theorem u_16 : (Cond.fieldLink RX2 13 "MineHoist$Request" "kind" "C") ∈ wsU := cU_0 (List.mem_of_getElem? (i := 16) rfl)
theorem u_17 : (Cond.fieldLink RX2 17 "MineHoist$Request" "level" "I") ∈ wsU := cU_0 (List.mem_of_getElem? (i := 17) rfl)
theorem u_18 : (Cond.fieldLink RX2 20 "MineHoist$Request" "count" "I") ∈ wsU := cU_0 (List.mem_of_getElem? (i := 18) rfl)
theorem u_19 : (Cond.fieldLink RX3 9 "MineHoist$Trip" "kind" "C") ∈ wsU := cU_0 (List.mem_of_getElem? (i := 19) rfl)
theorem u_20 : (Cond.fieldLink RX3 19 "MineHoist$Trip" "level" "I") ∈ wsU := cU_0 (List.mem_of_getElem? (i := 20) rfl)
theorem u_21 : (Cond.fieldLink RX3 22 "MineHoist$Trip" "load" "I") ∈ wsU := cU_0 (List.mem_of_getElem? (i := 21) rfl)
theorem u_22 : (Cond.fieldLink RX3 25 "MineHoist$Trip" "rest" "I") ∈ wsU := cU_0 (List.mem_of_getElem? (i := 22) rfl)
theorem u_23 : (Cond.fieldLink RX3 15 "MineHoist$Trip" "request" "I") ∈ wsU := cU_0 (List.mem_of_getElem? (i := 23) rfl)
theorem u_24 : (Cond.methodLink RX3 28 yX3_set) ∈ wsU := cU_0 (List.mem_of_getElem? (i := 24) rfl)
theorem u_25 : (Cond.initialized RX3) ∈ wsU := cU_0 (List.mem_of_getElem? (i := 25) rfl)
theorem u_26 : (Cond.code yX3_set cX3_set 6 none) ∈ wsU := cU_0 (List.mem_of_getElem? (i := 26) rfl)
theorem u_27 : (Cond.instanceMethod yX3_set) ∈ wsU := cU_0 (List.mem_of_getElem? (i := 27) rfl)
theorem u_28 : (Cond.selects RX3 yX3_set yX3_set) ∈ wsU := cU_0 (List.mem_of_getElem? (i := 28) rfl)
theorem u_29 : (Cond.methodLink RX3 32 yX3_isOn) ∈ wsU := cU_0 (List.mem_of_getElem? (i := 29) rfl)
theorem u_30 : (Cond.code yX3_isOn cX3_isOn 1 (some .boolean)) ∈ wsU := cU_0 (List.mem_of_getElem? (i := 30) rfl)
theorem u_31 : (Cond.instanceMethod yX3_isOn) ∈ wsU := cU_0 (List.mem_of_getElem? (i := 31) rfl)
theorem u_32 : (Cond.selects RX3 yX3_isOn yX3_isOn) ∈ wsU := cU_0 (List.mem_of_getElem? (i := 32) rfl)
theorem u_33 : (Cond.fieldLink RX4 18 "MineHoist$Waiting" "size" "I") ∈ wsU := cU_0 (List.mem_of_getElem? (i := 33) rfl)
theorem u_34 : (Cond.fieldLink RX4 11 "MineHoist$Waiting" "rows" "[LMineHoist$Request;") ∈ wsU := cU_0 (List.mem_of_getElem? (i := 34) rfl)
theorem u_35 : (Cond.fieldLink RX4 22 "MineHoist$Request" "number" "I") ∈ wsU := cU_0 (List.mem_of_getElem? (i := 35) rfl)
theorem u_36 : (Cond.fieldLink RX4 25 "MineHoist$Request" "kind" "C") ∈ wsU := cU_0 (List.mem_of_getElem? (i := 36) rfl)
theorem u_37 : (Cond.fieldLink RX4 29 "MineHoist$Request" "level" "I") ∈ wsU := cU_0 (List.mem_of_getElem? (i := 37) rfl)
theorem u_38 : (Cond.fieldLink RX4 32 "MineHoist$Request" "count" "I") ∈ wsU := cU_0 (List.mem_of_getElem? (i := 38) rfl)
theorem u_39 : (Cond.methodLink RX4 35 yX2_set) ∈ wsU := cU_0 (List.mem_of_getElem? (i := 39) rfl)
theorem u_40 : (Cond.initialized RX2) ∈ wsU := cU_0 (List.mem_of_getElem? (i := 40) rfl)
theorem u_41 : (Cond.code yX2_set cX2_set 5 none) ∈ wsU := cU_0 (List.mem_of_getElem? (i := 41) rfl)
theorem u_42 : (Cond.instanceMethod yX2_set) ∈ wsU := cU_0 (List.mem_of_getElem? (i := 42) rfl)
theorem u_43 : (Cond.selects RX2 yX2_set yX2_set) ∈ wsU := cU_0 (List.mem_of_getElem? (i := 43) rfl)
theorem u_44 : (Cond.methodLink RX4 43 yX4_numberAt) ∈ wsU := cU_0 (List.mem_of_getElem? (i := 44) rfl)
theorem u_45 : (Cond.initialized RX4) ∈ wsU := cU_0 (List.mem_of_getElem? (i := 45) rfl)
theorem u_46 : (Cond.code yX4_numberAt cX4_numberAt 2 (some .int)) ∈ wsU := cU_0 (List.mem_of_getElem? (i := 46) rfl)
theorem u_47 : (Cond.instanceMethod yX4_numberAt) ∈ wsU := cU_0 (List.mem_of_getElem? (i := 47) rfl)
theorem kU_0 : wsU_0.all goodWord = true := by decide +kernel
theorem cU_1 {w : Cond} (h : w ∈ wsU_1) : w ∈ wsU := List.mem_append_right _ (List.mem_append_left _ (h))
theorem u_48 : (Cond.selects RX4 yX4_numberAt yX4_numberAt) ∈ wsU := cU_1 (List.mem_of_getElem? (i := 0) rfl)
theorem u_49 : (Cond.methodLink RX4 39 yX4_positionOf) ∈ wsU := cU_1 (List.mem_of_getElem? (i := 1) rfl)
theorem u_50 : (Cond.code yX4_positionOf cX4_positionOf 3 (some .int)) ∈ wsU := cU_1 (List.mem_of_getElem? (i := 2) rfl)
theorem u_51 : (Cond.instanceMethod yX4_positionOf) ∈ wsU := cU_1 (List.mem_of_getElem? (i := 3) rfl)
theorem u_52 : (Cond.selects RX4 yX4_positionOf yX4_positionOf) ∈ wsU := cU_1 (List.mem_of_getElem? (i := 4) rfl)
theorem u_53 : (Cond.fieldLink RX1 18 "MineHoist$Mine" "places" "[LMineHoist$Level;") ∈ wsU := cU_1 (List.mem_of_getElem? (i := 5) rfl)
theorem u_54 : (Cond.fieldLink RX1 25 "MineHoist$Mine" "waiting" "LMineHoist$Waiting;") ∈ wsU := cU_1 (List.mem_of_getElem? (i := 6) rfl)
theorem u_55 : (Cond.methodLink RX1 56 yX4_copyFrom) ∈ wsU := cU_1 (List.mem_of_getElem? (i := 7) rfl)
theorem u_56 : (Cond.code yX4_copyFrom cX4_copyFrom 4 none) ∈ wsU := cU_1 (List.mem_of_getElem? (i := 8) rfl)
theorem u_57 : (Cond.instanceMethod yX4_copyFrom) ∈ wsU := cU_1 (List.mem_of_getElem? (i := 9) rfl)
theorem u_58 : (Cond.selects RX4 yX4_copyFrom yX4_copyFrom) ∈ wsU := cU_1 (List.mem_of_getElem? (i := 10) rfl)
theorem u_59 : (Cond.fieldLink RX1 32 "MineHoist$Mine" "trip" "LMineHoist$Trip;") ∈ wsU := cU_1 (List.mem_of_getElem? (i := 11) rfl)
theorem u_60 : (Cond.methodLink RX1 59 yX3_copyFrom) ∈ wsU := cU_1 (List.mem_of_getElem? (i := 12) rfl)
theorem u_61 : (Cond.code yX3_copyFrom cX3_copyFrom 2 none) ∈ wsU := cU_1 (List.mem_of_getElem? (i := 13) rfl)
theorem u_62 : (Cond.instanceMethod yX3_copyFrom) ∈ wsU := cU_1 (List.mem_of_getElem? (i := 14) rfl)
theorem u_63 : (Cond.selects RX3 yX3_copyFrom yX3_copyFrom) ∈ wsU := cU_1 (List.mem_of_getElem? (i := 15) rfl)
theorem u_64 : (Cond.fieldLink RX1 62 "MineHoist$Mine" "levels" "I") ∈ wsU := cU_1 (List.mem_of_getElem? (i := 16) rfl)
theorem u_65 : (Cond.fieldLink RX1 36 "MineHoist$Mine" "fan" "I") ∈ wsU := cU_1 (List.mem_of_getElem? (i := 17) rfl)
theorem u_66 : (Cond.fieldLink RX1 40 "MineHoist$Mine" "limit" "I") ∈ wsU := cU_1 (List.mem_of_getElem? (i := 18) rfl)
theorem u_67 : (Cond.fieldLink RX1 43 "MineHoist$Mine" "speed" "I") ∈ wsU := cU_1 (List.mem_of_getElem? (i := 19) rfl)
theorem u_68 : (Cond.fieldLink RX1 65 "MineHoist$Mine" "minutes" "I") ∈ wsU := cU_1 (List.mem_of_getElem? (i := 20) rfl)
theorem u_69 : (Cond.fieldLink RX1 68 "MineHoist$Mine" "gasIn" "I") ∈ wsU := cU_1 (List.mem_of_getElem? (i := 21) rfl)
theorem u_70 : (Cond.fieldLink RX1 71 "MineHoist$Mine" "gasVented" "I") ∈ wsU := cU_1 (List.mem_of_getElem? (i := 22) rfl)
theorem u_71 : (Cond.fieldLink RX1 74 "MineHoist$Mine" "nextRequest" "I") ∈ wsU := cU_1 (List.mem_of_getElem? (i := 23) rfl)
theorem u_72 : (Cond.fieldLink RX1 46 "MineHoist$Mine" "cage" "I") ∈ wsU := cU_1 (List.mem_of_getElem? (i := 24) rfl)
theorem u_73 : (Cond.fieldLink RX1 77 "MineHoist$Mine" "tripsDone" "I") ∈ wsU := cU_1 (List.mem_of_getElem? (i := 25) rfl)
theorem u_74 : (Cond.fieldLink RX1 80 "MineHoist$Mine" "requestsDropped" "I") ∈ wsU := cU_1 (List.mem_of_getElem? (i := 26) rfl)
theorem u_75 : (Cond.fieldLink RX1 49 "MineHoist$Mine" "requestDone" "I") ∈ wsU := cU_1 (List.mem_of_getElem? (i := 27) rfl)
theorem u_76 : (Cond.methodLink RX1 52 yX0_copyFrom) ∈ wsU := cU_1 (List.mem_of_getElem? (i := 28) rfl)
theorem u_77 : (Cond.initialized RX0) ∈ wsU := cU_1 (List.mem_of_getElem? (i := 29) rfl)
theorem u_78 : (Cond.code yX0_copyFrom cX0_copyFrom 2 none) ∈ wsU := cU_1 (List.mem_of_getElem? (i := 30) rfl)
theorem u_79 : (Cond.instanceMethod yX0_copyFrom) ∈ wsU := cU_1 (List.mem_of_getElem? (i := 31) rfl)
theorem u_80 : (Cond.selects RX0 yX0_copyFrom yX0_copyFrom) ∈ wsU := cU_1 (List.mem_of_getElem? (i := 32) rfl)
theorem u_81 : (Cond.fieldLink RX1 12 "MineHoist$Mine" "surface" "LMineHoist$Level;") ∈ wsU := cU_1 (List.mem_of_getElem? (i := 33) rfl)
theorem u_82 : (Cond.methodLink RX1 83 yX0_share) ∈ wsU := cU_1 (List.mem_of_getElem? (i := 34) rfl)
theorem u_83 : (Cond.code yX0_share cX0_share 1 (some .int)) ∈ wsU := cU_1 (List.mem_of_getElem? (i := 35) rfl)
theorem u_84 : (Cond.instanceMethod yX0_share) ∈ wsU := cU_1 (List.mem_of_getElem? (i := 36) rfl)
theorem u_85 : (Cond.selects RX0 yX0_share yX0_share) ∈ wsU := cU_1 (List.mem_of_getElem? (i := 37) rfl)
theorem u_86 : (Cond.fieldLink RX1 87 "MineHoist$Level" "closedUntil" "I") ∈ wsU := cU_1 (List.mem_of_getElem? (i := 38) rfl)
theorem u_87 : (Cond.methodLink RX1 90 yX4_holds) ∈ wsU := cU_1 (List.mem_of_getElem? (i := 39) rfl)
theorem u_88 : (Cond.code yX4_holds cX4_holds 2 (some .boolean)) ∈ wsU := cU_1 (List.mem_of_getElem? (i := 40) rfl)
theorem u_89 : (Cond.instanceMethod yX4_holds) ∈ wsU := cU_1 (List.mem_of_getElem? (i := 41) rfl)
theorem u_90 : (Cond.selects RX4 yX4_holds yX4_holds) ∈ wsU := cU_1 (List.mem_of_getElem? (i := 42) rfl)
theorem u_91 : (Cond.methodLink RX1 94 yX3_isFor) ∈ wsU := cU_1 (List.mem_of_getElem? (i := 43) rfl)
theorem u_92 : (Cond.code yX3_isFor cX3_isFor 2 (some .boolean)) ∈ wsU := cU_1 (List.mem_of_getElem? (i := 44) rfl)
theorem u_93 : (Cond.instanceMethod yX3_isFor) ∈ wsU := cU_1 (List.mem_of_getElem? (i := 45) rfl)
theorem u_94 : (Cond.selects RX3 yX3_isFor yX3_isFor) ∈ wsU := cU_1 (List.mem_of_getElem? (i := 46) rfl)
theorem u_95 : (Cond.fieldLink RX1 97 "MineHoist$Trip" "kind" "C") ∈ wsU := cU_1 (List.mem_of_getElem? (i := 47) rfl)
theorem kU_1 : wsU_1.all goodWord = true := by decide +kernel
theorem cU_2 {w : Cond} (h : w ∈ wsU_2) : w ∈ wsU := List.mem_append_right _ (List.mem_append_right _ (List.mem_append_left _ (h)))
theorem u_96 : (Cond.fieldLink RX1 101 "MineHoist$Trip" "load" "I") ∈ wsU := cU_2 (List.mem_of_getElem? (i := 0) rfl)
theorem u_97 : (Cond.methodLink RX1 104 yX1_place) ∈ wsU := cU_2 (List.mem_of_getElem? (i := 1) rfl)
theorem u_98 : (Cond.initialized RX1) ∈ wsU := cU_2 (List.mem_of_getElem? (i := 2) rfl)
theorem u_99 : (Cond.code yX1_place cX1_place 2 (some (.object "MineHoist$Level"))) ∈ wsU := cU_2 (List.mem_of_getElem? (i := 3) rfl)
theorem u_100 : (Cond.instanceMethod yX1_place) ∈ wsU := cU_2 (List.mem_of_getElem? (i := 4) rfl)
theorem u_101 : (Cond.selects RX1 yX1_place yX1_place) ∈ wsU := cU_2 (List.mem_of_getElem? (i := 5) rfl)
theorem u_102 : (Cond.fieldLink RX1 108 "MineHoist$Level" "people" "I") ∈ wsU := cU_2 (List.mem_of_getElem? (i := 6) rfl)
theorem u_103 : (Cond.methodLink RX1 111 yX0_openWidth) ∈ wsU := cU_2 (List.mem_of_getElem? (i := 7) rfl)
theorem u_104 : (Cond.code yX0_openWidth cX0_openWidth 1 (some .int)) ∈ wsU := cU_2 (List.mem_of_getElem? (i := 8) rfl)
theorem u_105 : (Cond.instanceMethod yX0_openWidth) ∈ wsU := cU_2 (List.mem_of_getElem? (i := 9) rfl)
theorem u_106 : (Cond.selects RX0 yX0_openWidth yX0_openWidth) ∈ wsU := cU_2 (List.mem_of_getElem? (i := 10) rfl)
theorem u_107 : (Cond.methodLink RX1 114 yX1_openWidths) ∈ wsU := cU_2 (List.mem_of_getElem? (i := 11) rfl)
theorem u_108 : (Cond.code yX1_openWidths cX1_openWidths 3 (some .int)) ∈ wsU := cU_2 (List.mem_of_getElem? (i := 12) rfl)
theorem u_109 : (Cond.instanceMethod yX1_openWidths) ∈ wsU := cU_2 (List.mem_of_getElem? (i := 13) rfl)
theorem u_110 : (Cond.selects RX1 yX1_openWidths yX1_openWidths) ∈ wsU := cU_2 (List.mem_of_getElem? (i := 14) rfl)
theorem u_111 : (Cond.methodLink RX1 117 yX1_intoGallery) ∈ wsU := cU_2 (List.mem_of_getElem? (i := 15) rfl)
theorem u_112 : (Cond.code yX1_intoGallery cX1_intoGallery 3 (some .int)) ∈ wsU := cU_2 (List.mem_of_getElem? (i := 16) rfl)
theorem u_113 : (Cond.static yX1_intoGallery) ∈ wsU := cU_2 (List.mem_of_getElem? (i := 17) rfl)
theorem u_114 : (Cond.fieldLink RX1 121 "MineHoist$Level" "air" "I") ∈ wsU := cU_2 (List.mem_of_getElem? (i := 18) rfl)
theorem u_115 : (Cond.methodLink RX1 127 yX1_galleryOf) ∈ wsU := cU_2 (List.mem_of_getElem? (i := 19) rfl)
theorem u_116 : (Cond.code yX1_galleryOf cX1_galleryOf 8 (some .int)) ∈ wsU := cU_2 (List.mem_of_getElem? (i := 20) rfl)
theorem u_117 : (Cond.instanceMethod yX1_galleryOf) ∈ wsU := cU_2 (List.mem_of_getElem? (i := 21) rfl)
theorem u_118 : (Cond.selects RX1 yX1_galleryOf yX1_galleryOf) ∈ wsU := cU_2 (List.mem_of_getElem? (i := 22) rfl)
theorem u_119 : (Cond.fieldLink RX1 124 "MineHoist$Level" "unitsFollowed" "I") ∈ wsU := cU_2 (List.mem_of_getElem? (i := 23) rfl)
theorem u_120 : (Cond.fieldLink RX1 131 "MineHoist$Level" "gas" "I") ∈ wsU := cU_2 (List.mem_of_getElem? (i := 24) rfl)
theorem u_121 : (Cond.fieldLink RX1 154 "MineHoist$Level" "inflow" "I") ∈ wsU := cU_2 (List.mem_of_getElem? (i := 25) rfl)
theorem u_122 : (Cond.methodLink RX1 157 yX1_letGasIn) ∈ wsU := cU_2 (List.mem_of_getElem? (i := 26) rfl)
theorem u_123 : (Cond.code yX1_letGasIn cX1_letGasIn 3 none) ∈ wsU := cU_2 (List.mem_of_getElem? (i := 27) rfl)
theorem u_124 : (Cond.instanceMethod yX1_letGasIn) ∈ wsU := cU_2 (List.mem_of_getElem? (i := 28) rfl)
theorem u_125 : (Cond.selects RX1 yX1_letGasIn yX1_letGasIn) ∈ wsU := cU_2 (List.mem_of_getElem? (i := 29) rfl)
theorem u_126 : (Cond.methodLink RX1 161 yX0_gasTaken) ∈ wsU := cU_2 (List.mem_of_getElem? (i := 30) rfl)
theorem u_127 : (Cond.code yX0_gasTaken cX0_gasTaken 1 (some .int)) ∈ wsU := cU_2 (List.mem_of_getElem? (i := 31) rfl)
theorem u_128 : (Cond.instanceMethod yX0_gasTaken) ∈ wsU := cU_2 (List.mem_of_getElem? (i := 32) rfl)
theorem u_129 : (Cond.selects RX0 yX0_gasTaken yX0_gasTaken) ∈ wsU := cU_2 (List.mem_of_getElem? (i := 33) rfl)
theorem u_130 : (Cond.fieldLink RX1 198 "MineHoist$Level" "ore" "I") ∈ wsU := cU_2 (List.mem_of_getElem? (i := 34) rfl)
theorem u_131 : (Cond.fieldLink RX1 226 "MineHoist$Level" "depth" "I") ∈ wsU := cU_2 (List.mem_of_getElem? (i := 35) rfl)
theorem u_132 : (Cond.methodLink RX1 229 Lib.Math.abs.name) ∈ wsU := cU_2 (List.mem_of_getElem? (i := 36) rfl)
theorem u_133 : (Cond.static Lib.Math.abs.name) ∈ wsU := cU_2 (List.mem_of_getElem? (i := 37) rfl)
theorem u_134 : (Cond.code Lib.Math.abs.name Lib.Math.abs.code 1 (some .int)) ∈ wsU := cU_2 (List.mem_of_getElem? (i := 38) rfl)
theorem u_135 : (Cond.methodLink RX1 207 yX1_way) ∈ wsU := cU_2 (List.mem_of_getElem? (i := 39) rfl)
theorem u_136 : (Cond.code yX1_way cX1_way 4 (some .int)) ∈ wsU := cU_2 (List.mem_of_getElem? (i := 40) rfl)
theorem u_137 : (Cond.instanceMethod yX1_way) ∈ wsU := cU_2 (List.mem_of_getElem? (i := 41) rfl)
theorem u_138 : (Cond.selects RX1 yX1_way yX1_way) ∈ wsU := cU_2 (List.mem_of_getElem? (i := 42) rfl)
theorem u_139 : (Cond.methodLink RX1 211 yX1_carry) ∈ wsU := cU_2 (List.mem_of_getElem? (i := 43) rfl)
theorem u_140 : (Cond.code yX1_carry cX1_carry 3 none) ∈ wsU := cU_2 (List.mem_of_getElem? (i := 44) rfl)
theorem u_141 : (Cond.static yX1_carry) ∈ wsU := cU_2 (List.mem_of_getElem? (i := 45) rfl)
theorem u_142 : (Cond.methodLink RX1 215 yX3_set) ∈ wsU := cU_2 (List.mem_of_getElem? (i := 46) rfl)
theorem u_143 : (Cond.methodLink RX1 168 Lib.Math.min.name) ∈ wsU := cU_2 (List.mem_of_getElem? (i := 47) rfl)
theorem kU_2 : wsU_2.all goodWord = true := by decide +kernel
theorem cU_3 {w : Cond} (h : w ∈ wsU_3) : w ∈ wsU := List.mem_append_right _ (List.mem_append_right _ (List.mem_append_right _ (List.mem_append_left _ (h))))
theorem u_144 : (Cond.methodLink RX1 173 yX1_beginTrip) ∈ wsU := cU_3 (List.mem_of_getElem? (i := 0) rfl)
theorem u_145 : (Cond.code yX1_beginTrip cX1_beginTrip 8 none) ∈ wsU := cU_3 (List.mem_of_getElem? (i := 1) rfl)
theorem u_146 : (Cond.instanceMethod yX1_beginTrip) ∈ wsU := cU_3 (List.mem_of_getElem? (i := 2) rfl)
theorem u_147 : (Cond.selects RX1 yX1_beginTrip yX1_beginTrip) ∈ wsU := cU_3 (List.mem_of_getElem? (i := 3) rfl)
theorem u_148 : (Cond.methodLink RX1 164 yX1_hasAlarm) ∈ wsU := cU_3 (List.mem_of_getElem? (i := 4) rfl)
theorem u_149 : (Cond.code yX1_hasAlarm cX1_hasAlarm 2 (some .boolean)) ∈ wsU := cU_3 (List.mem_of_getElem? (i := 5) rfl)
theorem u_150 : (Cond.instanceMethod yX1_hasAlarm) ∈ wsU := cU_3 (List.mem_of_getElem? (i := 6) rfl)
theorem u_151 : (Cond.selects RX1 yX1_hasAlarm yX1_hasAlarm) ∈ wsU := cU_3 (List.mem_of_getElem? (i := 7) rfl)
theorem u_152 : (Cond.fieldLink RX1 195 "MineHoist$Request" "level" "I") ∈ wsU := cU_3 (List.mem_of_getElem? (i := 8) rfl)
theorem u_153 : (Cond.fieldLink RX1 194 "MineHoist$Request" "kind" "C") ∈ wsU := cU_3 (List.mem_of_getElem? (i := 9) rfl)
theorem u_154 : (Cond.methodLink RX1 204 yX1_isShut) ∈ wsU := cU_3 (List.mem_of_getElem? (i := 10) rfl)
theorem u_155 : (Cond.code yX1_isShut cX1_isShut 2 (some .boolean)) ∈ wsU := cU_3 (List.mem_of_getElem? (i := 11) rfl)
theorem u_156 : (Cond.instanceMethod yX1_isShut) ∈ wsU := cU_3 (List.mem_of_getElem? (i := 12) rfl)
theorem u_157 : (Cond.selects RX1 yX1_isShut yX1_isShut) ∈ wsU := cU_3 (List.mem_of_getElem? (i := 13) rfl)
theorem u_158 : (Cond.fieldLink RX1 201 "MineHoist$Request" "count" "I") ∈ wsU := cU_3 (List.mem_of_getElem? (i := 14) rfl)
theorem u_159 : (Cond.methodLink RX1 177 yX4_oldest) ∈ wsU := cU_3 (List.mem_of_getElem? (i := 15) rfl)
theorem u_160 : (Cond.code yX4_oldest cX4_oldest 3 (some (.object "MineHoist$Request"))) ∈ wsU := cU_3 (List.mem_of_getElem? (i := 16) rfl)
theorem u_161 : (Cond.instanceMethod yX4_oldest) ∈ wsU := cU_3 (List.mem_of_getElem? (i := 17) rfl)
theorem u_162 : (Cond.selects RX4 yX4_oldest yX4_oldest) ∈ wsU := cU_3 (List.mem_of_getElem? (i := 18) rfl)
theorem u_163 : (Cond.fieldLink RX1 181 "MineHoist$Request" "number" "I") ∈ wsU := cU_3 (List.mem_of_getElem? (i := 19) rfl)
theorem u_164 : (Cond.methodLink RX1 186 yX4_remove) ∈ wsU := cU_3 (List.mem_of_getElem? (i := 20) rfl)
theorem u_165 : (Cond.code yX4_remove cX4_remove 5 none) ∈ wsU := cU_3 (List.mem_of_getElem? (i := 21) rfl)
theorem u_166 : (Cond.instanceMethod yX4_remove) ∈ wsU := cU_3 (List.mem_of_getElem? (i := 22) rfl)
theorem u_167 : (Cond.selects RX4 yX4_remove yX4_remove) ∈ wsU := cU_3 (List.mem_of_getElem? (i := 23) rfl)
theorem u_168 : (Cond.methodLink RX1 190 yX1_loadOf) ∈ wsU := cU_3 (List.mem_of_getElem? (i := 24) rfl)
theorem u_169 : (Cond.code yX1_loadOf cX1_loadOf 3 (some .int)) ∈ wsU := cU_3 (List.mem_of_getElem? (i := 25) rfl)
theorem u_170 : (Cond.instanceMethod yX1_loadOf) ∈ wsU := cU_3 (List.mem_of_getElem? (i := 26) rfl)
theorem u_171 : (Cond.selects RX1 yX1_loadOf yX1_loadOf) ∈ wsU := cU_3 (List.mem_of_getElem? (i := 27) rfl)
theorem u_172 : (Cond.fieldLink RX1 220 "MineHoist$Trip" "request" "I") ∈ wsU := cU_3 (List.mem_of_getElem? (i := 28) rfl)
theorem u_173 : (Cond.methodLink RX1 223 yX3_clear) ∈ wsU := cU_3 (List.mem_of_getElem? (i := 29) rfl)
theorem u_174 : (Cond.code yX3_clear cX3_clear 1 none) ∈ wsU := cU_3 (List.mem_of_getElem? (i := 30) rfl)
theorem u_175 : (Cond.instanceMethod yX3_clear) ∈ wsU := cU_3 (List.mem_of_getElem? (i := 31) rfl)
theorem u_176 : (Cond.selects RX3 yX3_clear yX3_clear) ∈ wsU := cU_3 (List.mem_of_getElem? (i := 32) rfl)
theorem u_177 : (Cond.fieldLink RX1 219 "MineHoist$Trip" "level" "I") ∈ wsU := cU_3 (List.mem_of_getElem? (i := 33) rfl)
theorem u_178 : (Cond.methodLink RX1 137 yX3_isOn) ∈ wsU := cU_3 (List.mem_of_getElem? (i := 34) rfl)
theorem u_179 : (Cond.fieldLink RX1 148 "MineHoist$Trip" "rest" "I") ∈ wsU := cU_3 (List.mem_of_getElem? (i := 35) rfl)
theorem u_180 : (Cond.methodLink RX1 151 yX1_endTrip) ∈ wsU := cU_3 (List.mem_of_getElem? (i := 36) rfl)
theorem u_181 : (Cond.code yX1_endTrip cX1_endTrip 1 none) ∈ wsU := cU_3 (List.mem_of_getElem? (i := 37) rfl)
theorem u_182 : (Cond.instanceMethod yX1_endTrip) ∈ wsU := cU_3 (List.mem_of_getElem? (i := 38) rfl)
theorem u_183 : (Cond.selects RX1 yX1_endTrip yX1_endTrip) ∈ wsU := cU_3 (List.mem_of_getElem? (i := 39) rfl)
theorem u_184 : (Cond.methodLink RX1 141 yX1_startFlight) ∈ wsU := cU_3 (List.mem_of_getElem? (i := 40) rfl)
theorem u_185 : (Cond.code yX1_startFlight cX1_startFlight 5 (some .boolean)) ∈ wsU := cU_3 (List.mem_of_getElem? (i := 41) rfl)
theorem u_186 : (Cond.instanceMethod yX1_startFlight) ∈ wsU := cU_3 (List.mem_of_getElem? (i := 42) rfl)
theorem u_187 : (Cond.selects RX1 yX1_startFlight yX1_startFlight) ∈ wsU := cU_3 (List.mem_of_getElem? (i := 43) rfl)
theorem u_188 : (Cond.methodLink RX1 144 yX1_startRequest) ∈ wsU := cU_3 (List.mem_of_getElem? (i := 44) rfl)
theorem u_189 : (Cond.code yX1_startRequest cX1_startRequest 5 (some .boolean)) ∈ wsU := cU_3 (List.mem_of_getElem? (i := 45) rfl)
theorem u_190 : (Cond.instanceMethod yX1_startRequest) ∈ wsU := cU_3 (List.mem_of_getElem? (i := 46) rfl)
theorem u_191 : (Cond.selects RX1 yX1_startRequest yX1_startRequest) ∈ wsU := cU_3 (List.mem_of_getElem? (i := 47) rfl)
theorem kU_3 : wsU_3.all goodWord = true := by decide +kernel
theorem cU_4 {w : Cond} (h : w ∈ wsU_4) : w ∈ wsU := List.mem_append_right _ (List.mem_append_right _ (List.mem_append_right _ (List.mem_append_right _ (List.mem_append_left _ (h)))))
theorem u_192 : (Cond.methodLink RX1 134 yX1_moveGas) ∈ wsU := cU_4 (List.mem_of_getElem? (i := 0) rfl)
theorem u_193 : (Cond.code yX1_moveGas cX1_moveGas 3 none) ∈ wsU := cU_4 (List.mem_of_getElem? (i := 1) rfl)
theorem u_194 : (Cond.instanceMethod yX1_moveGas) ∈ wsU := cU_4 (List.mem_of_getElem? (i := 2) rfl)
theorem u_195 : (Cond.selects RX1 yX1_moveGas yX1_moveGas) ∈ wsU := cU_4 (List.mem_of_getElem? (i := 3) rfl)
theorem u_196 : (Cond.methodLink RX1 233 yX1_isPending) ∈ wsU := cU_4 (List.mem_of_getElem? (i := 4) rfl)
theorem u_197 : (Cond.code yX1_isPending cX1_isPending 2 (some .boolean)) ∈ wsU := cU_4 (List.mem_of_getElem? (i := 5) rfl)
theorem u_198 : (Cond.instanceMethod yX1_isPending) ∈ wsU := cU_4 (List.mem_of_getElem? (i := 6) rfl)
theorem u_199 : (Cond.selects RX1 yX1_isPending yX1_isPending) ∈ wsU := cU_4 (List.mem_of_getElem? (i := 7) rfl)
theorem u_200 : (Cond.methodLink RX1 236 yX1_passMinute) ∈ wsU := cU_4 (List.mem_of_getElem? (i := 8) rfl)
theorem u_201 : (Cond.code yX1_passMinute cX1_passMinute 2 none) ∈ wsU := cU_4 (List.mem_of_getElem? (i := 9) rfl)
theorem u_202 : (Cond.instanceMethod yX1_passMinute) ∈ wsU := cU_4 (List.mem_of_getElem? (i := 10) rfl)
theorem u_203 : (Cond.selects RX1 yX1_passMinute yX1_passMinute) ∈ wsU := cU_4 (List.mem_of_getElem? (i := 11) rfl)
theorem u_204 : (Cond.classLink RX5 43 "java/lang/IllegalArgumentException") ∈ wsU := cU_4 (List.mem_of_getElem? (i := 12) rfl)
theorem u_205 : (Cond.initialized "java/lang/IllegalArgumentException") ∈ wsU := cU_4 (List.mem_of_getElem? (i := 13) rfl)
theorem u_206 : (Cond.classLink RX5 194 "java/lang/IndexOutOfBoundsException") ∈ wsU := cU_4 (List.mem_of_getElem? (i := 14) rfl)
theorem u_207 : (Cond.initialized "java/lang/IndexOutOfBoundsException") ∈ wsU := cU_4 (List.mem_of_getElem? (i := 15) rfl)
theorem u_208 : (Cond.fieldLink RX5 10 "MineHoist" "mine" "LMineHoist$Mine;") ∈ wsU := cU_4 (List.mem_of_getElem? (i := 16) rfl)
theorem u_209 : (Cond.fieldLink RX5 30 "MineHoist$Mine" "levels" "I") ∈ wsU := cU_4 (List.mem_of_getElem? (i := 17) rfl)
theorem u_210 : (Cond.methodLink RX5 65 yX5_checkPlace) ∈ wsU := cU_4 (List.mem_of_getElem? (i := 18) rfl)
theorem u_211 : (Cond.initialized RX5) ∈ wsU := cU_4 (List.mem_of_getElem? (i := 19) rfl)
theorem u_212 : (Cond.code yX5_checkPlace cX5_checkPlace 2 none) ∈ wsU := cU_4 (List.mem_of_getElem? (i := 20) rfl)
theorem u_213 : (Cond.instanceMethod yX5_checkPlace) ∈ wsU := cU_4 (List.mem_of_getElem? (i := 21) rfl)
theorem u_214 : (Cond.selects RX5 yX5_checkPlace yX5_checkPlace) ∈ wsU := cU_4 (List.mem_of_getElem? (i := 22) rfl)
theorem u_215 : (Cond.fieldLink RX5 146 "MineHoist$Mine" "trip" "LMineHoist$Trip;") ∈ wsU := cU_4 (List.mem_of_getElem? (i := 23) rfl)
theorem u_216 : (Cond.methodLink RX5 254 yX3_isOn) ∈ wsU := cU_4 (List.mem_of_getElem? (i := 24) rfl)
theorem u_217 : (Cond.classLink RX5 121 "java/util/NoSuchElementException") ∈ wsU := cU_4 (List.mem_of_getElem? (i := 25) rfl)
theorem u_218 : (Cond.initialized "java/util/NoSuchElementException") ∈ wsU := cU_4 (List.mem_of_getElem? (i := 26) rfl)
theorem u_219 : (Cond.fieldLink RX5 177 "MineHoist$Mine" "waiting" "LMineHoist$Waiting;") ∈ wsU := cU_4 (List.mem_of_getElem? (i := 27) rfl)
theorem u_220 : (Cond.fieldLink RX5 191 "MineHoist$Waiting" "size" "I") ∈ wsU := cU_4 (List.mem_of_getElem? (i := 28) rfl)
theorem u_221 : (Cond.fieldLink RX5 287 "MineHoist$Mine" "nextRequest" "I") ∈ wsU := cU_4 (List.mem_of_getElem? (i := 29) rfl)
theorem u_222 : (Cond.methodLink RX5 290 yX4_add) ∈ wsU := cU_4 (List.mem_of_getElem? (i := 30) rfl)
theorem u_223 : (Cond.code yX4_add cX4_add 5 none) ∈ wsU := cU_4 (List.mem_of_getElem? (i := 31) rfl)
theorem u_224 : (Cond.instanceMethod yX4_add) ∈ wsU := cU_4 (List.mem_of_getElem? (i := 32) rfl)
theorem u_225 : (Cond.selects RX4 yX4_add yX4_add) ∈ wsU := cU_4 (List.mem_of_getElem? (i := 33) rfl)
theorem u_226 : (Cond.classLink RX5 53 "java/lang/IllegalStateException") ∈ wsU := cU_4 (List.mem_of_getElem? (i := 34) rfl)
theorem u_227 : (Cond.initialized "java/lang/IllegalStateException") ∈ wsU := cU_4 (List.mem_of_getElem? (i := 35) rfl)
theorem u_228 : (Cond.methodLink RX5 26 yX5_checkRange) ∈ wsU := cU_4 (List.mem_of_getElem? (i := 36) rfl)
theorem u_229 : (Cond.code yX5_checkRange cX5_checkRange 3 none) ∈ wsU := cU_4 (List.mem_of_getElem? (i := 37) rfl)
theorem u_230 : (Cond.static yX5_checkRange) ∈ wsU := cU_4 (List.mem_of_getElem? (i := 38) rfl)
theorem u_231 : (Cond.methodLink RX5 34 yX1_place) ∈ wsU := cU_4 (List.mem_of_getElem? (i := 39) rfl)
theorem u_232 : (Cond.fieldLink RX5 38 "MineHoist$Level" "depth" "I") ∈ wsU := cU_4 (List.mem_of_getElem? (i := 40) rfl)
theorem u_233 : (Cond.fieldLink RX5 50 "MineHoist$Mine" "minutes" "I") ∈ wsU := cU_4 (List.mem_of_getElem? (i := 41) rfl)
theorem u_234 : (Cond.methodLink RX5 58 yX0_open) ∈ wsU := cU_4 (List.mem_of_getElem? (i := 42) rfl)
theorem u_235 : (Cond.code yX0_open cX0_open 5 none) ∈ wsU := cU_4 (List.mem_of_getElem? (i := 43) rfl)
theorem u_236 : (Cond.instanceMethod yX0_open) ∈ wsU := cU_4 (List.mem_of_getElem? (i := 44) rfl)
theorem u_237 : (Cond.selects RX0 yX0_open yX0_open) ∈ wsU := cU_4 (List.mem_of_getElem? (i := 45) rfl)
theorem u_238 : (Cond.methodLink RX5 62 yX1_spreadAir) ∈ wsU := cU_4 (List.mem_of_getElem? (i := 46) rfl)
theorem u_239 : (Cond.code yX1_spreadAir cX1_spreadAir 5 none) ∈ wsU := cU_4 (List.mem_of_getElem? (i := 47) rfl)
theorem kU_4 : wsU_4.all goodWord = true := by decide +kernel
theorem cU_5 {w : Cond} (h : w ∈ wsU_5) : w ∈ wsU := List.mem_append_right _ (List.mem_append_right _ (List.mem_append_right _ (List.mem_append_right _ (List.mem_append_right _ (List.mem_append_left _ (h))))))
theorem u_240 : (Cond.instanceMethod yX1_spreadAir) ∈ wsU := cU_5 (List.mem_of_getElem? (i := 0) rfl)
theorem u_241 : (Cond.selects RX1 yX1_spreadAir yX1_spreadAir) ∈ wsU := cU_5 (List.mem_of_getElem? (i := 1) rfl)
theorem u_242 : (Cond.fieldLink RX5 69 "MineHoist$Mine" "fan" "I") ∈ wsU := cU_5 (List.mem_of_getElem? (i := 2) rfl)
theorem u_243 : (Cond.methodLink RX5 72 yX5_checkLevel) ∈ wsU := cU_5 (List.mem_of_getElem? (i := 3) rfl)
theorem u_244 : (Cond.code yX5_checkLevel cX5_checkLevel 2 none) ∈ wsU := cU_5 (List.mem_of_getElem? (i := 4) rfl)
theorem u_245 : (Cond.instanceMethod yX5_checkLevel) ∈ wsU := cU_5 (List.mem_of_getElem? (i := 5) rfl)
theorem u_246 : (Cond.selects RX5 yX5_checkLevel yX5_checkLevel) ∈ wsU := cU_5 (List.mem_of_getElem? (i := 6) rfl)
theorem u_247 : (Cond.fieldLink RX5 75 "MineHoist$Level" "hasOpenDoor" "Z") ∈ wsU := cU_5 (List.mem_of_getElem? (i := 7) rfl)
theorem u_248 : (Cond.fieldLink RX5 79 "MineHoist$Level" "air" "I") ∈ wsU := cU_5 (List.mem_of_getElem? (i := 8) rfl)
theorem u_249 : (Cond.methodLink RX5 82 yX1_followAir) ∈ wsU := cU_5 (List.mem_of_getElem? (i := 9) rfl)
theorem u_250 : (Cond.code yX1_followAir cX1_followAir 3 none) ∈ wsU := cU_5 (List.mem_of_getElem? (i := 10) rfl)
theorem u_251 : (Cond.instanceMethod yX1_followAir) ∈ wsU := cU_5 (List.mem_of_getElem? (i := 11) rfl)
theorem u_252 : (Cond.selects RX1 yX1_followAir yX1_followAir) ∈ wsU := cU_5 (List.mem_of_getElem? (i := 12) rfl)
theorem u_253 : (Cond.fieldLink RX5 85 "MineHoist$Level" "unitsFollowed" "I") ∈ wsU := cU_5 (List.mem_of_getElem? (i := 13) rfl)
theorem u_254 : (Cond.fieldLink RX5 88 "MineHoist$Mine" "limit" "I") ∈ wsU := cU_5 (List.mem_of_getElem? (i := 14) rfl)
theorem u_255 : (Cond.fieldLink RX5 91 "MineHoist$Level" "gas" "I") ∈ wsU := cU_5 (List.mem_of_getElem? (i := 15) rfl)
theorem u_256 : (Cond.methodLink RX5 94 yX0_share) ∈ wsU := cU_5 (List.mem_of_getElem? (i := 16) rfl)
theorem u_257 : (Cond.methodLink RX5 98 yX1_hasAlarm) ∈ wsU := cU_5 (List.mem_of_getElem? (i := 17) rfl)
theorem u_258 : (Cond.fieldLink RX5 102 "MineHoist$Mine" "gasIn" "I") ∈ wsU := cU_5 (List.mem_of_getElem? (i := 18) rfl)
theorem u_259 : (Cond.fieldLink RX5 105 "MineHoist$Mine" "gasVented" "I") ∈ wsU := cU_5 (List.mem_of_getElem? (i := 19) rfl)
theorem u_260 : (Cond.classLink RX5 108 "java/lang/ArithmeticException") ∈ wsU := cU_5 (List.mem_of_getElem? (i := 20) rfl)
theorem u_261 : (Cond.initialized "java/lang/ArithmeticException") ∈ wsU := cU_5 (List.mem_of_getElem? (i := 21) rfl)
theorem u_262 : (Cond.fieldLink RX5 16 "MineHoist" "trial" "LMineHoist$Mine;") ∈ wsU := cU_5 (List.mem_of_getElem? (i := 22) rfl)
theorem u_263 : (Cond.methodLink RX5 113 yX1_copyFrom) ∈ wsU := cU_5 (List.mem_of_getElem? (i := 23) rfl)
theorem u_264 : (Cond.code yX1_copyFrom cX1_copyFrom 3 none) ∈ wsU := cU_5 (List.mem_of_getElem? (i := 24) rfl)
theorem u_265 : (Cond.instanceMethod yX1_copyFrom) ∈ wsU := cU_5 (List.mem_of_getElem? (i := 25) rfl)
theorem u_266 : (Cond.selects RX1 yX1_copyFrom yX1_copyFrom) ∈ wsU := cU_5 (List.mem_of_getElem? (i := 26) rfl)
theorem u_267 : (Cond.methodLink RX5 117 yX1_passToAlarm) ∈ wsU := cU_5 (List.mem_of_getElem? (i := 27) rfl)
theorem u_268 : (Cond.code yX1_passToAlarm cX1_passToAlarm 3 (some .int)) ∈ wsU := cU_5 (List.mem_of_getElem? (i := 28) rfl)
theorem u_269 : (Cond.instanceMethod yX1_passToAlarm) ∈ wsU := cU_5 (List.mem_of_getElem? (i := 29) rfl)
theorem u_270 : (Cond.selects RX1 yX1_passToAlarm yX1_passToAlarm) ∈ wsU := cU_5 (List.mem_of_getElem? (i := 30) rfl)
theorem u_271 : (Cond.methodLink RX5 126 yX1_allPeople) ∈ wsU := cU_5 (List.mem_of_getElem? (i := 31) rfl)
theorem u_272 : (Cond.code yX1_allPeople cX1_allPeople 3 (some .int)) ∈ wsU := cU_5 (List.mem_of_getElem? (i := 32) rfl)
theorem u_273 : (Cond.instanceMethod yX1_allPeople) ∈ wsU := cU_5 (List.mem_of_getElem? (i := 33) rfl)
theorem u_274 : (Cond.selects RX1 yX1_allPeople yX1_allPeople) ∈ wsU := cU_5 (List.mem_of_getElem? (i := 34) rfl)
theorem u_275 : (Cond.fieldLink RX5 131 "MineHoist$Mine" "surface" "LMineHoist$Level;") ∈ wsU := cU_5 (List.mem_of_getElem? (i := 35) rfl)
theorem u_276 : (Cond.fieldLink RX5 135 "MineHoist$Level" "people" "I") ∈ wsU := cU_5 (List.mem_of_getElem? (i := 36) rfl)
theorem u_277 : (Cond.fieldLink RX5 138 "MineHoist$Level" "ore" "I") ∈ wsU := cU_5 (List.mem_of_getElem? (i := 37) rfl)
theorem u_278 : (Cond.methodLink RX5 141 yX1_isShut) ∈ wsU := cU_5 (List.mem_of_getElem? (i := 38) rfl)
theorem u_279 : (Cond.classLink RX5 156 "java/lang/UnsupportedOperationException") ∈ wsU := cU_5 (List.mem_of_getElem? (i := 39) rfl)
theorem u_280 : (Cond.initialized "java/lang/UnsupportedOperationException") ∈ wsU := cU_5 (List.mem_of_getElem? (i := 40) rfl)
theorem u_281 : (Cond.methodLink RX5 150 yX3_isTo) ∈ wsU := cU_5 (List.mem_of_getElem? (i := 41) rfl)
theorem u_282 : (Cond.code yX3_isTo cX3_isTo 2 (some .boolean)) ∈ wsU := cU_5 (List.mem_of_getElem? (i := 42) rfl)
theorem u_283 : (Cond.instanceMethod yX3_isTo) ∈ wsU := cU_5 (List.mem_of_getElem? (i := 43) rfl)
theorem u_284 : (Cond.selects RX3 yX3_isTo yX3_isTo) ∈ wsU := cU_5 (List.mem_of_getElem? (i := 44) rfl)
theorem u_285 : (Cond.methodLink RX5 161 yX1_letGasIn) ∈ wsU := cU_5 (List.mem_of_getElem? (i := 45) rfl)
theorem u_286 : (Cond.fieldLink RX5 165 "MineHoist$Level" "closedUntil" "I") ∈ wsU := cU_5 (List.mem_of_getElem? (i := 46) rfl)
theorem u_287 : (Cond.fieldLink RX5 168 "MineHoist$Mine" "speed" "I") ∈ wsU := cU_5 (List.mem_of_getElem? (i := 47) rfl)
theorem kU_5 : wsU_5.all goodWord = true := by decide +kernel
theorem cU_6 {w : Cond} (h : w ∈ wsU_6) : w ∈ wsU := List.mem_append_right _ (List.mem_append_right _ (List.mem_append_right _ (List.mem_append_right _ (List.mem_append_right _ (List.mem_append_right _ (List.mem_append_left _ (h)))))))
theorem u_288 : (Cond.methodLink RX5 173 yX5_request) ∈ wsU := cU_6 (List.mem_of_getElem? (i := 0) rfl)
theorem u_289 : (Cond.code yX5_request cX5_request 5 (some .int)) ∈ wsU := cU_6 (List.mem_of_getElem? (i := 1) rfl)
theorem u_290 : (Cond.instanceMethod yX5_request) ∈ wsU := cU_6 (List.mem_of_getElem? (i := 2) rfl)
theorem u_291 : (Cond.selects RX5 yX5_request yX5_request) ∈ wsU := cU_6 (List.mem_of_getElem? (i := 3) rfl)
theorem u_292 : (Cond.methodLink RX5 181 yX4_holds) ∈ wsU := cU_6 (List.mem_of_getElem? (i := 4) rfl)
theorem u_293 : (Cond.methodLink RX5 188 yX4_remove) ∈ wsU := cU_6 (List.mem_of_getElem? (i := 5) rfl)
theorem u_294 : (Cond.methodLink RX5 199 yX4_numberAt) ∈ wsU := cU_6 (List.mem_of_getElem? (i := 6) rfl)
theorem u_295 : (Cond.methodLink RX5 205 yX1_passMinute) ∈ wsU := cU_6 (List.mem_of_getElem? (i := 7) rfl)
theorem u_296 : (Cond.fieldLink RX5 208 "MineHoist$Trip" "kind" "C") ∈ wsU := cU_6 (List.mem_of_getElem? (i := 8) rfl)
theorem u_297 : (Cond.methodLink RX5 212 yX5_checkTrip) ∈ wsU := cU_6 (List.mem_of_getElem? (i := 9) rfl)
theorem u_298 : (Cond.code yX5_checkTrip cX5_checkTrip 1 none) ∈ wsU := cU_6 (List.mem_of_getElem? (i := 10) rfl)
theorem u_299 : (Cond.instanceMethod yX5_checkTrip) ∈ wsU := cU_6 (List.mem_of_getElem? (i := 11) rfl)
theorem u_300 : (Cond.selects RX5 yX5_checkTrip yX5_checkTrip) ∈ wsU := cU_6 (List.mem_of_getElem? (i := 12) rfl)
theorem u_301 : (Cond.fieldLink RX5 215 "MineHoist$Trip" "level" "I") ∈ wsU := cU_6 (List.mem_of_getElem? (i := 13) rfl)
theorem u_302 : (Cond.fieldLink RX5 218 "MineHoist$Trip" "load" "I") ∈ wsU := cU_6 (List.mem_of_getElem? (i := 14) rfl)
theorem u_303 : (Cond.fieldLink RX5 221 "MineHoist$Trip" "rest" "I") ∈ wsU := cU_6 (List.mem_of_getElem? (i := 15) rfl)
theorem u_304 : (Cond.fieldLink RX5 224 "MineHoist$Mine" "cage" "I") ∈ wsU := cU_6 (List.mem_of_getElem? (i := 16) rfl)
theorem u_305 : (Cond.fieldLink RX5 227 "MineHoist$Mine" "tripsDone" "I") ∈ wsU := cU_6 (List.mem_of_getElem? (i := 17) rfl)
theorem u_306 : (Cond.fieldLink RX5 230 "MineHoist$Mine" "requestsDropped" "I") ∈ wsU := cU_6 (List.mem_of_getElem? (i := 18) rfl)
theorem u_307 : (Cond.methodLink RX5 233 yX1_isPending) ∈ wsU := cU_6 (List.mem_of_getElem? (i := 19) rfl)
theorem u_308 : (Cond.methodLink RX5 238 yX1_passToEndOf) ∈ wsU := cU_6 (List.mem_of_getElem? (i := 20) rfl)
theorem u_309 : (Cond.code yX1_passToEndOf cX1_passToEndOf 3 (some .int)) ∈ wsU := cU_6 (List.mem_of_getElem? (i := 21) rfl)
theorem u_310 : (Cond.instanceMethod yX1_passToEndOf) ∈ wsU := cU_6 (List.mem_of_getElem? (i := 22) rfl)
theorem u_311 : (Cond.selects RX1 yX1_passToEndOf yX1_passToEndOf) ∈ wsU := cU_6 (List.mem_of_getElem? (i := 23) rfl)
theorem u_312 : (Cond.methodLink RL 7 yX5_addLevel) ∈ wsU := cU_6 (List.mem_of_getElem? (i := 24) rfl)
theorem u_313 : (Cond.code yX5_addLevel cX5_addLevel 5 (some .int)) ∈ wsU := cU_6 (List.mem_of_getElem? (i := 25) rfl)
theorem u_314 : (Cond.instanceMethod yX5_addLevel) ∈ wsU := cU_6 (List.mem_of_getElem? (i := 26) rfl)
theorem u_315 : (Cond.selects RX5 yX5_addLevel yX5_addLevel) ∈ wsU := cU_6 (List.mem_of_getElem? (i := 27) rfl)
theorem u_316 : (Cond.classLink RL 13 "java/lang/IllegalArgumentException") ∈ wsU := cU_6 (List.mem_of_getElem? (i := 28) rfl)
theorem u_317 : (Cond.classLink RL 15 "java/lang/IllegalStateException") ∈ wsU := cU_6 (List.mem_of_getElem? (i := 29) rfl)
theorem u_318 : (Cond.methodLink RL 24 yX5_setSpeed) ∈ wsU := cU_6 (List.mem_of_getElem? (i := 30) rfl)
theorem u_319 : (Cond.code yX5_setSpeed cX5_setSpeed 3 (some .int)) ∈ wsU := cU_6 (List.mem_of_getElem? (i := 31) rfl)
theorem u_320 : (Cond.instanceMethod yX5_setSpeed) ∈ wsU := cU_6 (List.mem_of_getElem? (i := 32) rfl)
theorem u_321 : (Cond.selects RX5 yX5_setSpeed yX5_setSpeed) ∈ wsU := cU_6 (List.mem_of_getElem? (i := 33) rfl)
theorem u_322 : (Cond.methodLink RL 21 yX5_setLimit) ∈ wsU := cU_6 (List.mem_of_getElem? (i := 34) rfl)
theorem u_323 : (Cond.code yX5_setLimit cX5_setLimit 3 (some .int)) ∈ wsU := cU_6 (List.mem_of_getElem? (i := 35) rfl)
theorem u_324 : (Cond.instanceMethod yX5_setLimit) ∈ wsU := cU_6 (List.mem_of_getElem? (i := 36) rfl)
theorem u_325 : (Cond.selects RX5 yX5_setLimit yX5_setLimit) ∈ wsU := cU_6 (List.mem_of_getElem? (i := 37) rfl)
theorem u_326 : (Cond.methodLink RL 17 yX5_setFan) ∈ wsU := cU_6 (List.mem_of_getElem? (i := 38) rfl)
theorem u_327 : (Cond.code yX5_setFan cX5_setFan 3 (some .int)) ∈ wsU := cU_6 (List.mem_of_getElem? (i := 39) rfl)
theorem u_328 : (Cond.instanceMethod yX5_setFan) ∈ wsU := cU_6 (List.mem_of_getElem? (i := 40) rfl)
theorem u_329 : (Cond.selects RX5 yX5_setFan yX5_setFan) ∈ wsU := cU_6 (List.mem_of_getElem? (i := 41) rfl)
theorem u_330 : (Cond.methodLink RL 27 yX5_setDoor) ∈ wsU := cU_6 (List.mem_of_getElem? (i := 42) rfl)
theorem u_331 : (Cond.code yX5_setDoor cX5_setDoor 5 (some .boolean)) ∈ wsU := cU_6 (List.mem_of_getElem? (i := 43) rfl)
theorem u_332 : (Cond.instanceMethod yX5_setDoor) ∈ wsU := cU_6 (List.mem_of_getElem? (i := 44) rfl)
theorem u_333 : (Cond.selects RX5 yX5_setDoor yX5_setDoor) ∈ wsU := cU_6 (List.mem_of_getElem? (i := 45) rfl)
theorem u_334 : (Cond.classLink RL 31 "java/lang/IndexOutOfBoundsException") ∈ wsU := cU_6 (List.mem_of_getElem? (i := 46) rfl)
theorem u_335 : (Cond.methodLink RL 33 yX5_pass) ∈ wsU := cU_6 (List.mem_of_getElem? (i := 47) rfl)
theorem kU_6 : wsU_6.all goodWord = true := by decide +kernel
theorem cU_7 {w : Cond} (h : w ∈ wsU_7) : w ∈ wsU := List.mem_append_right _ (List.mem_append_right _ (List.mem_append_right _ (List.mem_append_right _ (List.mem_append_right _ (List.mem_append_right _ (List.mem_append_right _ (List.mem_append_left _ (h))))))))
theorem u_336 : (Cond.code yX5_pass cX5_pass 3 (some .int)) ∈ wsU := cU_7 (List.mem_of_getElem? (i := 0) rfl)
theorem u_337 : (Cond.instanceMethod yX5_pass) ∈ wsU := cU_7 (List.mem_of_getElem? (i := 1) rfl)
theorem u_338 : (Cond.selects RX5 yX5_pass yX5_pass) ∈ wsU := cU_7 (List.mem_of_getElem? (i := 2) rfl)
theorem u_339 : (Cond.methodLink RL 36 yX5_depthOf) ∈ wsU := cU_7 (List.mem_of_getElem? (i := 3) rfl)
theorem u_340 : (Cond.code yX5_depthOf cX5_depthOf 2 (some .int)) ∈ wsU := cU_7 (List.mem_of_getElem? (i := 4) rfl)
theorem u_341 : (Cond.instanceMethod yX5_depthOf) ∈ wsU := cU_7 (List.mem_of_getElem? (i := 5) rfl)
theorem u_342 : (Cond.selects RX5 yX5_depthOf yX5_depthOf) ∈ wsU := cU_7 (List.mem_of_getElem? (i := 6) rfl)
theorem u_343 : (Cond.classLink RL 67 "java/util/NoSuchElementException") ∈ wsU := cU_7 (List.mem_of_getElem? (i := 7) rfl)
theorem u_344 : (Cond.methodLink RL 39 yX5_airOf) ∈ wsU := cU_7 (List.mem_of_getElem? (i := 8) rfl)
theorem u_345 : (Cond.code yX5_airOf cX5_airOf 2 (some .int)) ∈ wsU := cU_7 (List.mem_of_getElem? (i := 9) rfl)
theorem u_346 : (Cond.instanceMethod yX5_airOf) ∈ wsU := cU_7 (List.mem_of_getElem? (i := 10) rfl)
theorem u_347 : (Cond.selects RX5 yX5_airOf yX5_airOf) ∈ wsU := cU_7 (List.mem_of_getElem? (i := 11) rfl)
theorem u_348 : (Cond.methodLink RL 42 yX5_airByPaths) ∈ wsU := cU_7 (List.mem_of_getElem? (i := 12) rfl)
theorem u_349 : (Cond.code yX5_airByPaths cX5_airByPaths 2 (some .int)) ∈ wsU := cU_7 (List.mem_of_getElem? (i := 13) rfl)
theorem u_350 : (Cond.instanceMethod yX5_airByPaths) ∈ wsU := cU_7 (List.mem_of_getElem? (i := 14) rfl)
theorem u_351 : (Cond.selects RX5 yX5_airByPaths yX5_airByPaths) ∈ wsU := cU_7 (List.mem_of_getElem? (i := 15) rfl)
theorem u_352 : (Cond.methodLink RL 45 yX5_gasOf) ∈ wsU := cU_7 (List.mem_of_getElem? (i := 16) rfl)
theorem u_353 : (Cond.code yX5_gasOf cX5_gasOf 2 (some .int)) ∈ wsU := cU_7 (List.mem_of_getElem? (i := 17) rfl)
theorem u_354 : (Cond.instanceMethod yX5_gasOf) ∈ wsU := cU_7 (List.mem_of_getElem? (i := 18) rfl)
theorem u_355 : (Cond.selects RX5 yX5_gasOf yX5_gasOf) ∈ wsU := cU_7 (List.mem_of_getElem? (i := 19) rfl)
theorem u_356 : (Cond.methodLink RL 48 yX5_gasShare) ∈ wsU := cU_7 (List.mem_of_getElem? (i := 20) rfl)
theorem u_357 : (Cond.code yX5_gasShare cX5_gasShare 2 (some .int)) ∈ wsU := cU_7 (List.mem_of_getElem? (i := 21) rfl)
theorem u_358 : (Cond.instanceMethod yX5_gasShare) ∈ wsU := cU_7 (List.mem_of_getElem? (i := 22) rfl)
theorem u_359 : (Cond.selects RX5 yX5_gasShare yX5_gasShare) ∈ wsU := cU_7 (List.mem_of_getElem? (i := 23) rfl)
theorem u_360 : (Cond.methodLink RL 51 yX5_isAlarm) ∈ wsU := cU_7 (List.mem_of_getElem? (i := 24) rfl)
theorem u_361 : (Cond.code yX5_isAlarm cX5_isAlarm 2 (some .boolean)) ∈ wsU := cU_7 (List.mem_of_getElem? (i := 25) rfl)
theorem u_362 : (Cond.instanceMethod yX5_isAlarm) ∈ wsU := cU_7 (List.mem_of_getElem? (i := 26) rfl)
theorem u_363 : (Cond.selects RX5 yX5_isAlarm yX5_isAlarm) ∈ wsU := cU_7 (List.mem_of_getElem? (i := 27) rfl)
theorem u_364 : (Cond.methodLink RL 55 yX5_minutesToAlarm) ∈ wsU := cU_7 (List.mem_of_getElem? (i := 28) rfl)
theorem u_365 : (Cond.code yX5_minutesToAlarm cX5_minutesToAlarm 3 (some .int)) ∈ wsU := cU_7 (List.mem_of_getElem? (i := 29) rfl)
theorem u_366 : (Cond.instanceMethod yX5_minutesToAlarm) ∈ wsU := cU_7 (List.mem_of_getElem? (i := 30) rfl)
theorem u_367 : (Cond.selects RX5 yX5_minutesToAlarm yX5_minutesToAlarm) ∈ wsU := cU_7 (List.mem_of_getElem? (i := 31) rfl)
theorem u_368 : (Cond.methodLink RL 58 yX5_peopleAt) ∈ wsU := cU_7 (List.mem_of_getElem? (i := 32) rfl)
theorem u_369 : (Cond.code yX5_peopleAt cX5_peopleAt 2 (some .int)) ∈ wsU := cU_7 (List.mem_of_getElem? (i := 33) rfl)
theorem u_370 : (Cond.instanceMethod yX5_peopleAt) ∈ wsU := cU_7 (List.mem_of_getElem? (i := 34) rfl)
theorem u_371 : (Cond.selects RX5 yX5_peopleAt yX5_peopleAt) ∈ wsU := cU_7 (List.mem_of_getElem? (i := 35) rfl)
theorem u_372 : (Cond.methodLink RL 61 yX5_oreAt) ∈ wsU := cU_7 (List.mem_of_getElem? (i := 36) rfl)
theorem u_373 : (Cond.code yX5_oreAt cX5_oreAt 2 (some .int)) ∈ wsU := cU_7 (List.mem_of_getElem? (i := 37) rfl)
theorem u_374 : (Cond.instanceMethod yX5_oreAt) ∈ wsU := cU_7 (List.mem_of_getElem? (i := 38) rfl)
theorem u_375 : (Cond.selects RX5 yX5_oreAt yX5_oreAt) ∈ wsU := cU_7 (List.mem_of_getElem? (i := 39) rfl)
theorem u_376 : (Cond.methodLink RL 64 yX5_isClosed) ∈ wsU := cU_7 (List.mem_of_getElem? (i := 40) rfl)
theorem u_377 : (Cond.code yX5_isClosed cX5_isClosed 2 (some .boolean)) ∈ wsU := cU_7 (List.mem_of_getElem? (i := 41) rfl)
theorem u_378 : (Cond.instanceMethod yX5_isClosed) ∈ wsU := cU_7 (List.mem_of_getElem? (i := 42) rfl)
theorem u_379 : (Cond.selects RX5 yX5_isClosed yX5_isClosed) ∈ wsU := cU_7 (List.mem_of_getElem? (i := 43) rfl)
theorem u_380 : (Cond.methodLink RL 69 yX5_meanShare) ∈ wsU := cU_7 (List.mem_of_getElem? (i := 44) rfl)
theorem u_381 : (Cond.code yX5_meanShare cX5_meanShare 3 (some .double)) ∈ wsU := cU_7 (List.mem_of_getElem? (i := 45) rfl)
theorem u_382 : (Cond.instanceMethod yX5_meanShare) ∈ wsU := cU_7 (List.mem_of_getElem? (i := 46) rfl)
theorem u_383 : (Cond.selects RX5 yX5_meanShare yX5_meanShare) ∈ wsU := cU_7 (List.mem_of_getElem? (i := 47) rfl)
theorem kU_7 : wsU_7.all goodWord = true := by decide +kernel
theorem cU_8 {w : Cond} (h : w ∈ wsU_8) : w ∈ wsU := List.mem_append_right _ (List.mem_append_right _ (List.mem_append_right _ (List.mem_append_right _ (List.mem_append_right _ (List.mem_append_right _ (List.mem_append_right _ (List.mem_append_right _ (List.mem_append_left _ (h)))))))))
theorem u_384 : (Cond.constantDouble RL 75 (13830554455654793216)) ∈ wsU := cU_8 (List.mem_of_getElem? (i := 0) rfl)
theorem u_385 : (Cond.classLink RL 73 "java/lang/ArithmeticException") ∈ wsU := cU_8 (List.mem_of_getElem? (i := 1) rfl)
theorem u_386 : (Cond.methodLink RL 77 yX5_hire) ∈ wsU := cU_8 (List.mem_of_getElem? (i := 2) rfl)
theorem u_387 : (Cond.code yX5_hire cX5_hire 2 (some .int)) ∈ wsU := cU_8 (List.mem_of_getElem? (i := 3) rfl)
theorem u_388 : (Cond.instanceMethod yX5_hire) ∈ wsU := cU_8 (List.mem_of_getElem? (i := 4) rfl)
theorem u_389 : (Cond.selects RX5 yX5_hire yX5_hire) ∈ wsU := cU_8 (List.mem_of_getElem? (i := 5) rfl)
theorem u_390 : (Cond.methodLink RL 80 yX5_blast) ∈ wsU := cU_8 (List.mem_of_getElem? (i := 6) rfl)
theorem u_391 : (Cond.code yX5_blast cX5_blast 4 (some .int)) ∈ wsU := cU_8 (List.mem_of_getElem? (i := 7) rfl)
theorem u_392 : (Cond.instanceMethod yX5_blast) ∈ wsU := cU_8 (List.mem_of_getElem? (i := 8) rfl)
theorem u_393 : (Cond.selects RX5 yX5_blast yX5_blast) ∈ wsU := cU_8 (List.mem_of_getElem? (i := 9) rfl)
theorem u_394 : (Cond.classLink RL 84 "java/lang/UnsupportedOperationException") ∈ wsU := cU_8 (List.mem_of_getElem? (i := 10) rfl)
theorem u_395 : (Cond.methodLink RL 92 yX5_hoistOre) ∈ wsU := cU_8 (List.mem_of_getElem? (i := 11) rfl)
theorem u_396 : (Cond.code yX5_hoistOre cX5_hoistOre 2 (some .int)) ∈ wsU := cU_8 (List.mem_of_getElem? (i := 12) rfl)
theorem u_397 : (Cond.instanceMethod yX5_hoistOre) ∈ wsU := cU_8 (List.mem_of_getElem? (i := 13) rfl)
theorem u_398 : (Cond.selects RX5 yX5_hoistOre yX5_hoistOre) ∈ wsU := cU_8 (List.mem_of_getElem? (i := 14) rfl)
theorem u_399 : (Cond.methodLink RL 89 yX5_callUp) ∈ wsU := cU_8 (List.mem_of_getElem? (i := 15) rfl)
theorem u_400 : (Cond.code yX5_callUp cX5_callUp 3 (some .int)) ∈ wsU := cU_8 (List.mem_of_getElem? (i := 16) rfl)
theorem u_401 : (Cond.instanceMethod yX5_callUp) ∈ wsU := cU_8 (List.mem_of_getElem? (i := 17) rfl)
theorem u_402 : (Cond.selects RX5 yX5_callUp yX5_callUp) ∈ wsU := cU_8 (List.mem_of_getElem? (i := 18) rfl)
theorem u_403 : (Cond.methodLink RL 86 yX5_sendDown) ∈ wsU := cU_8 (List.mem_of_getElem? (i := 19) rfl)
theorem u_404 : (Cond.code yX5_sendDown cX5_sendDown 4 (some .int)) ∈ wsU := cU_8 (List.mem_of_getElem? (i := 20) rfl)
theorem u_405 : (Cond.instanceMethod yX5_sendDown) ∈ wsU := cU_8 (List.mem_of_getElem? (i := 21) rfl)
theorem u_406 : (Cond.selects RX5 yX5_sendDown yX5_sendDown) ∈ wsU := cU_8 (List.mem_of_getElem? (i := 22) rfl)
theorem u_407 : (Cond.methodLink RL 101 yX5_waitFor) ∈ wsU := cU_8 (List.mem_of_getElem? (i := 23) rfl)
theorem u_408 : (Cond.code yX5_waitFor cX5_waitFor 3 (some .int)) ∈ wsU := cU_8 (List.mem_of_getElem? (i := 24) rfl)
theorem u_409 : (Cond.instanceMethod yX5_waitFor) ∈ wsU := cU_8 (List.mem_of_getElem? (i := 25) rfl)
theorem u_410 : (Cond.selects RX5 yX5_waitFor yX5_waitFor) ∈ wsU := cU_8 (List.mem_of_getElem? (i := 26) rfl)
theorem u_411 : (Cond.methodLink RL 98 yX5_waitingAt) ∈ wsU := cU_8 (List.mem_of_getElem? (i := 27) rfl)
theorem u_412 : (Cond.code yX5_waitingAt cX5_waitingAt 2 (some .int)) ∈ wsU := cU_8 (List.mem_of_getElem? (i := 28) rfl)
theorem u_413 : (Cond.instanceMethod yX5_waitingAt) ∈ wsU := cU_8 (List.mem_of_getElem? (i := 29) rfl)
theorem u_414 : (Cond.selects RX5 yX5_waitingAt yX5_waitingAt) ∈ wsU := cU_8 (List.mem_of_getElem? (i := 30) rfl)
theorem u_415 : (Cond.methodLink RL 95 yX5_cancel) ∈ wsU := cU_8 (List.mem_of_getElem? (i := 31) rfl)
theorem u_416 : (Cond.code yX5_cancel cX5_cancel 2 (some .int)) ∈ wsU := cU_8 (List.mem_of_getElem? (i := 32) rfl)
theorem u_417 : (Cond.instanceMethod yX5_cancel) ∈ wsU := cU_8 (List.mem_of_getElem? (i := 33) rfl)
theorem u_418 : (Cond.selects RX5 yX5_cancel yX5_cancel) ∈ wsU := cU_8 (List.mem_of_getElem? (i := 34) rfl)
theorem u_419 : (Cond.methodLink RL 111 yX5_tripRest) ∈ wsU := cU_8 (List.mem_of_getElem? (i := 35) rfl)
theorem u_420 : (Cond.code yX5_tripRest cX5_tripRest 1 (some .int)) ∈ wsU := cU_8 (List.mem_of_getElem? (i := 36) rfl)
theorem u_421 : (Cond.instanceMethod yX5_tripRest) ∈ wsU := cU_8 (List.mem_of_getElem? (i := 37) rfl)
theorem u_422 : (Cond.selects RX5 yX5_tripRest yX5_tripRest) ∈ wsU := cU_8 (List.mem_of_getElem? (i := 38) rfl)
theorem u_423 : (Cond.methodLink RL 108 yX5_tripLoad) ∈ wsU := cU_8 (List.mem_of_getElem? (i := 39) rfl)
theorem u_424 : (Cond.code yX5_tripLoad cX5_tripLoad 1 (some .int)) ∈ wsU := cU_8 (List.mem_of_getElem? (i := 40) rfl)
theorem u_425 : (Cond.instanceMethod yX5_tripLoad) ∈ wsU := cU_8 (List.mem_of_getElem? (i := 41) rfl)
theorem u_426 : (Cond.selects RX5 yX5_tripLoad yX5_tripLoad) ∈ wsU := cU_8 (List.mem_of_getElem? (i := 42) rfl)
theorem u_427 : (Cond.methodLink RL 104 yX5_tripLevel) ∈ wsU := cU_8 (List.mem_of_getElem? (i := 43) rfl)
theorem u_428 : (Cond.code yX5_tripLevel cX5_tripLevel 1 (some .int)) ∈ wsU := cU_8 (List.mem_of_getElem? (i := 44) rfl)
theorem u_429 : (Cond.instanceMethod yX5_tripLevel) ∈ wsU := cU_8 (List.mem_of_getElem? (i := 45) rfl)
theorem u_430 : (Cond.selects RX5 yX5_tripLevel yX5_tripLevel) ∈ wsU := cU_8 (List.mem_of_getElem? (i := 46) rfl)
theorem u_431 : (Cond.methodLink RL 118 yX5_clock) ∈ wsU := cU_8 (List.mem_of_getElem? (i := 47) rfl)
theorem kU_8 : wsU_8.all goodWord = true := by decide +kernel
theorem cU_9 {w : Cond} (h : w ∈ wsU_9) : w ∈ wsU := List.mem_append_right _ (List.mem_append_right _ (List.mem_append_right _ (List.mem_append_right _ (List.mem_append_right _ (List.mem_append_right _ (List.mem_append_right _ (List.mem_append_right _ (List.mem_append_right _ (List.mem_append_left _ (h))))))))))
theorem u_432 : (Cond.code yX5_clock cX5_clock 1 (some .int)) ∈ wsU := cU_9 (List.mem_of_getElem? (i := 0) rfl)
theorem u_433 : (Cond.instanceMethod yX5_clock) ∈ wsU := cU_9 (List.mem_of_getElem? (i := 1) rfl)
theorem u_434 : (Cond.selects RX5 yX5_clock yX5_clock) ∈ wsU := cU_9 (List.mem_of_getElem? (i := 2) rfl)
theorem u_435 : (Cond.constantLong RL 121 (31)) ∈ wsU := cU_9 (List.mem_of_getElem? (i := 3) rfl)
theorem u_436 : (Cond.methodLink RL 123 yX5_gasTotal) ∈ wsU := cU_9 (List.mem_of_getElem? (i := 4) rfl)
theorem u_437 : (Cond.code yX5_gasTotal cX5_gasTotal 1 (some .int)) ∈ wsU := cU_9 (List.mem_of_getElem? (i := 5) rfl)
theorem u_438 : (Cond.instanceMethod yX5_gasTotal) ∈ wsU := cU_9 (List.mem_of_getElem? (i := 6) rfl)
theorem u_439 : (Cond.selects RX5 yX5_gasTotal yX5_gasTotal) ∈ wsU := cU_9 (List.mem_of_getElem? (i := 7) rfl)
theorem u_440 : (Cond.constantLong RL 126 (961)) ∈ wsU := cU_9 (List.mem_of_getElem? (i := 8) rfl)
theorem u_441 : (Cond.methodLink RL 128 yX5_ventedTotal) ∈ wsU := cU_9 (List.mem_of_getElem? (i := 9) rfl)
theorem u_442 : (Cond.code yX5_ventedTotal cX5_ventedTotal 1 (some .int)) ∈ wsU := cU_9 (List.mem_of_getElem? (i := 10) rfl)
theorem u_443 : (Cond.instanceMethod yX5_ventedTotal) ∈ wsU := cU_9 (List.mem_of_getElem? (i := 11) rfl)
theorem u_444 : (Cond.selects RX5 yX5_ventedTotal yX5_ventedTotal) ∈ wsU := cU_9 (List.mem_of_getElem? (i := 12) rfl)
theorem u_445 : (Cond.constantLong RL 131 (7)) ∈ wsU := cU_9 (List.mem_of_getElem? (i := 13) rfl)
theorem u_446 : (Cond.methodLink RL 133 yX5_peopleTotal) ∈ wsU := cU_9 (List.mem_of_getElem? (i := 14) rfl)
theorem u_447 : (Cond.code yX5_peopleTotal cX5_peopleTotal 1 (some .int)) ∈ wsU := cU_9 (List.mem_of_getElem? (i := 15) rfl)
theorem u_448 : (Cond.instanceMethod yX5_peopleTotal) ∈ wsU := cU_9 (List.mem_of_getElem? (i := 16) rfl)
theorem u_449 : (Cond.selects RX5 yX5_peopleTotal yX5_peopleTotal) ∈ wsU := cU_9 (List.mem_of_getElem? (i := 17) rfl)
theorem u_450 : (Cond.constantLong RL 136 (11)) ∈ wsU := cU_9 (List.mem_of_getElem? (i := 18) rfl)
theorem u_451 : (Cond.methodLink RL 138 yX5_waitingCount) ∈ wsU := cU_9 (List.mem_of_getElem? (i := 19) rfl)
theorem u_452 : (Cond.code yX5_waitingCount cX5_waitingCount 1 (some .int)) ∈ wsU := cU_9 (List.mem_of_getElem? (i := 20) rfl)
theorem u_453 : (Cond.instanceMethod yX5_waitingCount) ∈ wsU := cU_9 (List.mem_of_getElem? (i := 21) rfl)
theorem u_454 : (Cond.selects RX5 yX5_waitingCount yX5_waitingCount) ∈ wsU := cU_9 (List.mem_of_getElem? (i := 22) rfl)
theorem u_455 : (Cond.constantLong RL 141 (13)) ∈ wsU := cU_9 (List.mem_of_getElem? (i := 23) rfl)
theorem u_456 : (Cond.methodLink RL 143 yX5_doneCount) ∈ wsU := cU_9 (List.mem_of_getElem? (i := 24) rfl)
theorem u_457 : (Cond.code yX5_doneCount cX5_doneCount 1 (some .int)) ∈ wsU := cU_9 (List.mem_of_getElem? (i := 25) rfl)
theorem u_458 : (Cond.instanceMethod yX5_doneCount) ∈ wsU := cU_9 (List.mem_of_getElem? (i := 26) rfl)
theorem u_459 : (Cond.selects RX5 yX5_doneCount yX5_doneCount) ∈ wsU := cU_9 (List.mem_of_getElem? (i := 27) rfl)
theorem u_460 : (Cond.constantLong RL 146 (17)) ∈ wsU := cU_9 (List.mem_of_getElem? (i := 28) rfl)
theorem u_461 : (Cond.methodLink RL 148 yX5_droppedCount) ∈ wsU := cU_9 (List.mem_of_getElem? (i := 29) rfl)
theorem u_462 : (Cond.code yX5_droppedCount cX5_droppedCount 1 (some .int)) ∈ wsU := cU_9 (List.mem_of_getElem? (i := 30) rfl)
theorem u_463 : (Cond.instanceMethod yX5_droppedCount) ∈ wsU := cU_9 (List.mem_of_getElem? (i := 31) rfl)
theorem u_464 : (Cond.selects RX5 yX5_droppedCount yX5_droppedCount) ∈ wsU := cU_9 (List.mem_of_getElem? (i := 32) rfl)
theorem u_465 : (Cond.constantLong RL 151 (19)) ∈ wsU := cU_9 (List.mem_of_getElem? (i := 33) rfl)
theorem u_466 : (Cond.methodLink RL 153 yX5_tripKind) ∈ wsU := cU_9 (List.mem_of_getElem? (i := 34) rfl)
theorem u_467 : (Cond.code yX5_tripKind cX5_tripKind 1 (some .char)) ∈ wsU := cU_9 (List.mem_of_getElem? (i := 35) rfl)
theorem u_468 : (Cond.instanceMethod yX5_tripKind) ∈ wsU := cU_9 (List.mem_of_getElem? (i := 36) rfl)
theorem u_469 : (Cond.selects RX5 yX5_tripKind yX5_tripKind) ∈ wsU := cU_9 (List.mem_of_getElem? (i := 37) rfl)
theorem u_470 : (Cond.constantLong RL 157 (23)) ∈ wsU := cU_9 (List.mem_of_getElem? (i := 38) rfl)
theorem u_471 : (Cond.methodLink RL 159 yX5_cageLevel) ∈ wsU := cU_9 (List.mem_of_getElem? (i := 39) rfl)
theorem u_472 : (Cond.code yX5_cageLevel cX5_cageLevel 1 (some .int)) ∈ wsU := cU_9 (List.mem_of_getElem? (i := 40) rfl)
theorem u_473 : (Cond.instanceMethod yX5_cageLevel) ∈ wsU := cU_9 (List.mem_of_getElem? (i := 41) rfl)
theorem u_474 : (Cond.selects RX5 yX5_cageLevel yX5_cageLevel) ∈ wsU := cU_9 (List.mem_of_getElem? (i := 42) rfl)
theorem u_475 : (Cond.methodLink RL 162 yX5_levelCount) ∈ wsU := cU_9 (List.mem_of_getElem? (i := 43) rfl)
theorem u_476 : (Cond.code yX5_levelCount cX5_levelCount 1 (some .int)) ∈ wsU := cU_9 (List.mem_of_getElem? (i := 44) rfl)
theorem u_477 : (Cond.instanceMethod yX5_levelCount) ∈ wsU := cU_9 (List.mem_of_getElem? (i := 45) rfl)
theorem u_478 : (Cond.selects RX5 yX5_levelCount yX5_levelCount) ∈ wsU := cU_9 (List.mem_of_getElem? (i := 46) rfl)
theorem u_479 : (Cond.methodLink RL 178 yL_trip) ∈ wsU := cU_9 (List.mem_of_getElem? (i := 47) rfl)
theorem kU_9 : wsU_9.all goodWord = true := by decide +kernel
theorem cU_10 {w : Cond} (h : w ∈ wsU_10) : w ∈ wsU := List.mem_append_right _ (List.mem_append_right _ (List.mem_append_right _ (List.mem_append_right _ (List.mem_append_right _ (List.mem_append_right _ (List.mem_append_right _ (List.mem_append_right _ (List.mem_append_right _ (List.mem_append_right _ (List.mem_append_left _ (h)))))))))))
theorem u_480 : (Cond.initialized RL) ∈ wsU := cU_10 (List.mem_of_getElem? (i := 0) rfl)
theorem u_481 : (Cond.codeWith yL_trip cL_trip 3 (some .int) [(0, 27, 28, 67)]) ∈ wsU := cU_10 (List.mem_of_getElem? (i := 1) rfl)
theorem u_482 : (Cond.static yL_trip) ∈ wsU := cU_10 (List.mem_of_getElem? (i := 2) rfl)
theorem u_483 : (Cond.constantLong RL 171 (3)) ∈ wsU := cU_10 (List.mem_of_getElem? (i := 3) rfl)
theorem u_484 : (Cond.constantLong RL 173 (5)) ∈ wsU := cU_10 (List.mem_of_getElem? (i := 4) rfl)
theorem u_485 : (Cond.methodLink RL 175 yL_asked) ∈ wsU := cU_10 (List.mem_of_getElem? (i := 5) rfl)
theorem u_486 : (Cond.codeWith yL_asked cL_asked 4 (some .int) [(0, 30, 31, 67), (0, 30, 36, 31), (0, 30, 41, 84)]) ∈ wsU := cU_10 (List.mem_of_getElem? (i := 6) rfl)
theorem u_487 : (Cond.static yL_asked) ∈ wsU := cU_10 (List.mem_of_getElem? (i := 7) rfl)
theorem u_488 : (Cond.methodLink RL 165 yL_of) ∈ wsU := cU_10 (List.mem_of_getElem? (i := 8) rfl)
theorem u_489 : (Cond.codeWith yL_of cL_of 4 (some .int) [(0, 57, 128, 31), (58, 63, 128, 31), (64, 69, 128, 31), (70, 75, 128, 31), (76, 81, 128, 31), (82, 95, 128, 31), (96, 101, 128, 31), (102, 107, 128, 31), (108, 113, 128, 31), (114, 127, 128, 31), (0, 57, 133, 67), (58, 63, 133, 67), (64, 69, 133, 67), (70, 75, 133, 67), (76, 81, 133, 67), (82, 95, 133, 67), (96, 101, 133, 67), (102, 107, 133, 67), (108, 113, 133, 67), (114, 127, 133, 67)]) ∈ wsU := cU_10 (List.mem_of_getElem? (i := 9) rfl)
theorem u_490 : (Cond.static yL_of) ∈ wsU := cU_10 (List.mem_of_getElem? (i := 10) rfl)
theorem u_491 : (Cond.methodLink RL 182 yL_sets) ∈ wsU := cU_10 (List.mem_of_getElem? (i := 11) rfl)
theorem u_492 : (Cond.codeWith yL_sets cL_sets 4 (some .int) [(0, 33, 34, 13)]) ∈ wsU := cU_10 (List.mem_of_getElem? (i := 12) rfl)
theorem u_493 : (Cond.static yL_sets) ∈ wsU := cU_10 (List.mem_of_getElem? (i := 13) rfl)
theorem u_494 : (Cond.methodLink RL 186 yX5_endangered) ∈ wsU := cU_10 (List.mem_of_getElem? (i := 14) rfl)
theorem u_495 : (Cond.code yX5_endangered cX5_endangered 4 (some .int)) ∈ wsU := cU_10 (List.mem_of_getElem? (i := 15) rfl)
theorem u_496 : (Cond.instanceMethod yX5_endangered) ∈ wsU := cU_10 (List.mem_of_getElem? (i := 16) rfl)
theorem u_497 : (Cond.selects RX5 yX5_endangered yX5_endangered) ∈ wsU := cU_10 (List.mem_of_getElem? (i := 17) rfl)
theorem u_498 : (Cond.methodLink RL 189 yX5_isConsistent) ∈ wsU := cU_10 (List.mem_of_getElem? (i := 18) rfl)
theorem u_499 : (Cond.code yX5_isConsistent cX5_isConsistent 4 (some .boolean)) ∈ wsU := cU_10 (List.mem_of_getElem? (i := 19) rfl)
theorem u_500 : (Cond.instanceMethod yX5_isConsistent) ∈ wsU := cU_10 (List.mem_of_getElem? (i := 20) rfl)
theorem u_501 : (Cond.selects RX5 yX5_isConsistent yX5_isConsistent) ∈ wsU := cU_10 (List.mem_of_getElem? (i := 21) rfl)
theorem kU_10 : wsU_10.all goodWord = true := by decide +kernel
theorem in_X0 {c0 : Cond} : ∀ w ∈ u_ws RX0 TX0 11, w ∈ c0 :: wsU := fun w h => List.mem_cons_of_mem _ (List.mem_append_right _ (List.mem_append_right _ (List.mem_append_right _ (List.mem_append_right _ (List.mem_append_right _ (List.mem_append_right _ (List.mem_append_right _ (List.mem_append_right _ (List.mem_append_right _ (List.mem_append_right _ (List.mem_append_right _ (List.mem_append_left _ (h)))))))))))))
theorem kU_X0 : (wsX00).all goodWord = true := by decide +kernel
theorem in_X1 {c0 : Cond} : ∀ w ∈ u_ws RX1 TX1 16, w ∈ c0 :: wsU := fun w h => List.mem_cons_of_mem _ (List.mem_append_right _ (List.mem_append_right _ (List.mem_append_right _ (List.mem_append_right _ (List.mem_append_right _ (List.mem_append_right _ (List.mem_append_right _ (List.mem_append_right _ (List.mem_append_right _ (List.mem_append_right _ (List.mem_append_right _ (List.mem_append_right _ (List.mem_append_left _ (h))))))))))))))
theorem kU_X1 : (wsX10).all goodWord = true := by decide +kernel
theorem in_X2 {c0 : Cond} : ∀ w ∈ u_ws RX2 TX2 4, w ∈ c0 :: wsU := fun w h => List.mem_cons_of_mem _ (List.mem_append_right _ (List.mem_append_right _ (List.mem_append_right _ (List.mem_append_right _ (List.mem_append_right _ (List.mem_append_right _ (List.mem_append_right _ (List.mem_append_right _ (List.mem_append_right _ (List.mem_append_right _ (List.mem_append_right _ (List.mem_append_right _ (List.mem_append_right _ (List.mem_append_left _ (h)))))))))))))))
theorem kU_X2 : (wsX20).all goodWord = true := by decide +kernel
theorem in_X3 {c0 : Cond} : ∀ w ∈ u_ws RX3 TX3 5, w ∈ c0 :: wsU := fun w h => List.mem_cons_of_mem _ (List.mem_append_right _ (List.mem_append_right _ (List.mem_append_right _ (List.mem_append_right _ (List.mem_append_right _ (List.mem_append_right _ (List.mem_append_right _ (List.mem_append_right _ (List.mem_append_right _ (List.mem_append_right _ (List.mem_append_right _ (List.mem_append_right _ (List.mem_append_right _ (List.mem_append_right _ (List.mem_append_left _ (h))))))))))))))))
theorem kU_X3 : (wsX30).all goodWord = true := by decide +kernel
theorem in_X4 {c0 : Cond} : ∀ w ∈ u_ws RX4 TX4 2, w ∈ c0 :: wsU := fun w h => List.mem_cons_of_mem _ (List.mem_append_right _ (List.mem_append_right _ (List.mem_append_right _ (List.mem_append_right _ (List.mem_append_right _ (List.mem_append_right _ (List.mem_append_right _ (List.mem_append_right _ (List.mem_append_right _ (List.mem_append_right _ (List.mem_append_right _ (List.mem_append_right _ (List.mem_append_right _ (List.mem_append_right _ (List.mem_append_right _ (List.mem_append_left _ (h)))))))))))))))))
theorem kU_X4 : (wsX40).all goodWord = true := by decide +kernel
theorem in_X5 {c0 : Cond} : ∀ w ∈ u_ws RX5 TX5 3, w ∈ c0 :: wsU := fun w h => List.mem_cons_of_mem _ (List.mem_append_right _ (List.mem_append_right _ (List.mem_append_right _ (List.mem_append_right _ (List.mem_append_right _ (List.mem_append_right _ (List.mem_append_right _ (List.mem_append_right _ (List.mem_append_right _ (List.mem_append_right _ (List.mem_append_right _ (List.mem_append_right _ (List.mem_append_right _ (List.mem_append_right _ (List.mem_append_right _ (List.mem_append_right _ (List.mem_append_left _ (h))))))))))))))))))
theorem kU_X5 : (wsX50).all goodWord = true := by decide +kernel
theorem tw_47 {c0 : Cond} : ∀ w ∈ (vx_atS RX5 47 "java/lang/IllegalArgumentException" ["java/lang/RuntimeException", "java/lang/Exception"]).filter goodWord, w ∈ c0 :: wsU := fun w h => List.mem_cons_of_mem _ (List.mem_append_right _ (List.mem_append_right _ (List.mem_append_right _ (List.mem_append_right _ (List.mem_append_right _ (List.mem_append_right _ (List.mem_append_right _ (List.mem_append_right _ (List.mem_append_right _ (List.mem_append_right _ (List.mem_append_right _ (List.mem_append_right _ (List.mem_append_right _ (List.mem_append_right _ (List.mem_append_right _ (List.mem_append_right _ (List.mem_append_right _ (List.mem_append_left _ (h)))))))))))))))))))
theorem tn_47 : ∀ w ∈ (vx_atS RX5 47 "java/lang/IllegalArgumentException" ["java/lang/RuntimeException", "java/lang/Exception"]).filter (fun w => !goodWord w), w ∈ [Cond.castable "java/lang/IllegalArgumentException" "java/lang/IllegalArgumentException", Cond.declares (Bundle.initS "java/lang/RuntimeException"), Cond.declares (Bundle.initS "java/lang/Exception"), Cond.declares (Bundle.initS "java/lang/Throwable")] := by decide +kernel
theorem kT_47 : wsT_47.all goodWord = true := by decide +kernel
theorem tg_47 : ∀ w ∈ vx_atS RX5 47 "java/lang/IllegalArgumentException" ["java/lang/RuntimeException", "java/lang/Exception"], vx_ot w = true := by decide +kernel
theorem tw_57 {c0 : Cond} : ∀ w ∈ (vx_atS RX5 57 "java/lang/IllegalStateException" ["java/lang/RuntimeException", "java/lang/Exception"]).filter goodWord, w ∈ c0 :: wsU := fun w h => List.mem_cons_of_mem _ (List.mem_append_right _ (List.mem_append_right _ (List.mem_append_right _ (List.mem_append_right _ (List.mem_append_right _ (List.mem_append_right _ (List.mem_append_right _ (List.mem_append_right _ (List.mem_append_right _ (List.mem_append_right _ (List.mem_append_right _ (List.mem_append_right _ (List.mem_append_right _ (List.mem_append_right _ (List.mem_append_right _ (List.mem_append_right _ (List.mem_append_right _ (List.mem_append_right _ (List.mem_append_left _ (h))))))))))))))))))))
theorem tn_57 : ∀ w ∈ (vx_atS RX5 57 "java/lang/IllegalStateException" ["java/lang/RuntimeException", "java/lang/Exception"]).filter (fun w => !goodWord w), w ∈ [Cond.castable "java/lang/IllegalStateException" "java/lang/IllegalStateException", Cond.declares (Bundle.initS "java/lang/RuntimeException"), Cond.declares (Bundle.initS "java/lang/Exception"), Cond.declares (Bundle.initS "java/lang/Throwable")] := by decide +kernel
theorem kT_57 : wsT_57.all goodWord = true := by decide +kernel
theorem tg_57 : ∀ w ∈ vx_atS RX5 57 "java/lang/IllegalStateException" ["java/lang/RuntimeException", "java/lang/Exception"], vx_ot w = true := by decide +kernel
theorem tw_112 {c0 : Cond} : ∀ w ∈ (vx_atS RX5 112 "java/lang/ArithmeticException" ["java/lang/RuntimeException", "java/lang/Exception"]).filter goodWord, w ∈ c0 :: wsU := fun w h => List.mem_cons_of_mem _ (List.mem_append_right _ (List.mem_append_right _ (List.mem_append_right _ (List.mem_append_right _ (List.mem_append_right _ (List.mem_append_right _ (List.mem_append_right _ (List.mem_append_right _ (List.mem_append_right _ (List.mem_append_right _ (List.mem_append_right _ (List.mem_append_right _ (List.mem_append_right _ (List.mem_append_right _ (List.mem_append_right _ (List.mem_append_right _ (List.mem_append_right _ (List.mem_append_right _ (List.mem_append_right _ (List.mem_append_left _ (h)))))))))))))))))))))
theorem tn_112 : ∀ w ∈ (vx_atS RX5 112 "java/lang/ArithmeticException" ["java/lang/RuntimeException", "java/lang/Exception"]).filter (fun w => !goodWord w), w ∈ [Cond.castable "java/lang/ArithmeticException" "java/lang/ArithmeticException", Cond.declares (Bundle.initS "java/lang/RuntimeException"), Cond.declares (Bundle.initS "java/lang/Exception"), Cond.declares (Bundle.initS "java/lang/Throwable")] := by decide +kernel
theorem kT_112 : wsT_112.all goodWord = true := by decide +kernel
theorem tg_112 : ∀ w ∈ vx_atS RX5 112 "java/lang/ArithmeticException" ["java/lang/RuntimeException", "java/lang/Exception"], vx_ot w = true := by decide +kernel
theorem tw_125 {c0 : Cond} : ∀ w ∈ (vx_atX RX5 125 "java/util/NoSuchElementException" 13 nse_rx ["java/lang/RuntimeException", "java/lang/Exception"]).filter goodWord, w ∈ c0 :: wsU := fun w h => List.mem_cons_of_mem _ (List.mem_append_right _ (List.mem_append_right _ (List.mem_append_right _ (List.mem_append_right _ (List.mem_append_right _ (List.mem_append_right _ (List.mem_append_right _ (List.mem_append_right _ (List.mem_append_right _ (List.mem_append_right _ (List.mem_append_right _ (List.mem_append_right _ (List.mem_append_right _ (List.mem_append_right _ (List.mem_append_right _ (List.mem_append_right _ (List.mem_append_right _ (List.mem_append_right _ (List.mem_append_right _ (List.mem_append_right _ (List.mem_append_left _ (h))))))))))))))))))))))
theorem tn_125 : ∀ w ∈ (vx_atX RX5 125 "java/util/NoSuchElementException" 13 nse_rx ["java/lang/RuntimeException", "java/lang/Exception"]).filter (fun w => !goodWord w), w ∈ [Cond.castable "java/util/NoSuchElementException" "java/util/NoSuchElementException", Cond.declares (Bundle.initS "java/lang/RuntimeException"), Cond.declares (Bundle.initS "java/lang/Exception"), Cond.declares (Bundle.initS "java/lang/Throwable")] := by decide +kernel
theorem kT_125 : wsT_125.all goodWord = true := by decide +kernel
theorem tg_125 : ∀ w ∈ vx_atX RX5 125 "java/util/NoSuchElementException" 13 nse_rx ["java/lang/RuntimeException", "java/lang/Exception"], vx_ot w = true := by decide +kernel
theorem tw_160 {c0 : Cond} : ∀ w ∈ (vx_atS RX5 160 "java/lang/UnsupportedOperationException" ["java/lang/RuntimeException", "java/lang/Exception"]).filter goodWord, w ∈ c0 :: wsU := fun w h => List.mem_cons_of_mem _ (List.mem_append_right _ (List.mem_append_right _ (List.mem_append_right _ (List.mem_append_right _ (List.mem_append_right _ (List.mem_append_right _ (List.mem_append_right _ (List.mem_append_right _ (List.mem_append_right _ (List.mem_append_right _ (List.mem_append_right _ (List.mem_append_right _ (List.mem_append_right _ (List.mem_append_right _ (List.mem_append_right _ (List.mem_append_right _ (List.mem_append_right _ (List.mem_append_right _ (List.mem_append_right _ (List.mem_append_right _ (List.mem_append_right _ (List.mem_append_left _ (h)))))))))))))))))))))))
theorem tn_160 : ∀ w ∈ (vx_atS RX5 160 "java/lang/UnsupportedOperationException" ["java/lang/RuntimeException", "java/lang/Exception"]).filter (fun w => !goodWord w), w ∈ [Cond.castable "java/lang/UnsupportedOperationException" "java/lang/UnsupportedOperationException", Cond.declares (Bundle.initS "java/lang/RuntimeException"), Cond.declares (Bundle.initS "java/lang/Exception"), Cond.declares (Bundle.initS "java/lang/Throwable")] := by decide +kernel
theorem kT_160 : wsT_160.all goodWord = true := by decide +kernel
theorem tg_160 : ∀ w ∈ vx_atS RX5 160 "java/lang/UnsupportedOperationException" ["java/lang/RuntimeException", "java/lang/Exception"], vx_ot w = true := by decide +kernel
theorem tw_198 {c0 : Cond} : ∀ w ∈ (vx_atS RX5 198 "java/lang/IndexOutOfBoundsException" ["java/lang/RuntimeException", "java/lang/Exception"]).filter goodWord, w ∈ c0 :: wsU := fun w h => List.mem_cons_of_mem _ (List.mem_append_right _ (List.mem_append_right _ (List.mem_append_right _ (List.mem_append_right _ (List.mem_append_right _ (List.mem_append_right _ (List.mem_append_right _ (List.mem_append_right _ (List.mem_append_right _ (List.mem_append_right _ (List.mem_append_right _ (List.mem_append_right _ (List.mem_append_right _ (List.mem_append_right _ (List.mem_append_right _ (List.mem_append_right _ (List.mem_append_right _ (List.mem_append_right _ (List.mem_append_right _ (List.mem_append_right _ (List.mem_append_right _ (List.mem_append_right _ (h)))))))))))))))))))))))
theorem tn_198 : ∀ w ∈ (vx_atS RX5 198 "java/lang/IndexOutOfBoundsException" ["java/lang/RuntimeException", "java/lang/Exception"]).filter (fun w => !goodWord w), w ∈ [Cond.castable "java/lang/IndexOutOfBoundsException" "java/lang/IndexOutOfBoundsException", Cond.declares (Bundle.initS "java/lang/RuntimeException"), Cond.declares (Bundle.initS "java/lang/Exception"), Cond.declares (Bundle.initS "java/lang/Throwable")] := by decide +kernel
theorem kT_198 : wsT_198.all goodWord = true := by decide +kernel
theorem tg_198 : ∀ w ∈ vx_atS RX5 198 "java/lang/IndexOutOfBoundsException" ["java/lang/RuntimeException", "java/lang/Exception"], vx_ot w = true := by decide +kernel
theorem all_app {a b : List Cond} (h1 : a.all goodWord = true) (h2 : b.all goodWord = true) : (a ++ b).all goodWord = true := by rw [List.all_append, h1, h2]; rfl
theorem wsU_good : wsU.all goodWord = true := all_app kU_0 (all_app kU_1 (all_app kU_2 (all_app kU_3 (all_app kU_4 (all_app kU_5 (all_app kU_6 (all_app kU_7 (all_app kU_8 (all_app kU_9 (all_app kU_10 (all_app kU_X0 (all_app kU_X1 (all_app kU_X2 (all_app kU_X3 (all_app kU_X4 (all_app kU_X5 (all_app kT_47 (all_app kT_57 (all_app kT_112 (all_app kT_125 (all_app kT_160 (kT_198))))))))))))))))))))))
theorem mU {c0 w : Cond} (h : w ∈ wsU) : w ∈ c0 :: wsU := List.mem_cons_of_mem _ h
theorem gW {c0 c1 : Cond} {L : List Cond} (hL : ∀ w ∈ L, w ∈ wsU) (h1 : c1 ∈ wsU) : GoodIn (c0 :: wsU) (L ++ (c1 :: wsU)) := fun w hw => by
  have h : w ∈ wsU := (List.mem_append.mp hw).elim (hL w) (fun h => (List.mem_cons.mp h).elim (fun e => e ▸ h1) id)
  exact ⟨List.mem_cons_of_mem _ h, good_of_word (List.all_eq_true.mp wsU_good w h)⟩
theorem gV {c0 : Cond} {own : String} {idx mL : Nat} {y : MethodName} {b : ByteArray} {ret : Option FieldType} (h1 : Cond.methodLink own idx y ∈ wsU) (h2 : Cond.instanceMethod y ∈ wsU) (h3 : Cond.selects y.cls y y ∈ wsU) (h4 : Cond.initialized y.cls ∈ wsU) (h5 : Cond.code y b mL ret ∈ wsU) : GoodIn (c0 :: wsU) (wsV own idx y.cls y (Cond.code y b mL ret :: wsU)) :=
  gW (L := [.methodLink own idx y, .instanceMethod y, .selects y.cls y y, .initialized y.cls]) (fun w hw => by
    rcases List.mem_cons.mp hw with e | hw
    · exact e ▸ h1
    rcases List.mem_cons.mp hw with e | hw
    · exact e ▸ h2
    rcases List.mem_cons.mp hw with e | hw
    · exact e ▸ h3
    rcases List.mem_cons.mp hw with e | hw
    · exact e ▸ h4
    cases hw) h5
theorem gS {c0 : Cond} {own : String} {idx mL : Nat} {y : MethodName} {b : ByteArray} {ret : Option FieldType} (h1 : Cond.methodLink own idx y ∈ wsU) (h2 : Cond.static y ∈ wsU) (h4 : Cond.initialized y.cls ∈ wsU) (h5 : Cond.code y b mL ret ∈ wsU) : GoodIn (c0 :: wsU) (va_wsS own idx y (Cond.code y b mL ret :: wsU)) :=
  gW (L := [.methodLink own idx y, .static y, .initialized y.cls]) (fun w hw => by
    rcases List.mem_cons.mp hw with e | hw
    · exact e ▸ h1
    rcases List.mem_cons.mp hw with e | hw
    · exact e ▸ h2
    rcases List.mem_cons.mp hw with e | hw
    · exact e ▸ h4
    cases hw) h5
theorem gSX {c0 : Cond} {own : String} {idx mL : Nat} {y : MethodName} {b : ByteArray} {ret : Option FieldType} {hh : List (Nat × Nat × Nat × Nat)} (h1 : Cond.methodLink own idx y ∈ wsU) (h2 : Cond.static y ∈ wsU) (h4 : Cond.initialized y.cls ∈ wsU) (h5 : Cond.codeWith y b mL ret hh ∈ wsU) : GoodIn (c0 :: wsU) (va_wsS own idx y (Cond.codeWith y b mL ret hh :: wsU)) :=
  gW (L := [.methodLink own idx y, .static y, .initialized y.cls]) (fun w hw => by
    rcases List.mem_cons.mp hw with e | hw
    · exact e ▸ h1
    rcases List.mem_cons.mp hw with e | hw
    · exact e ▸ h2
    rcases List.mem_cons.mp hw with e | hw
    · exact e ▸ h4
    cases hw) h5
theorem tgc {own cls : String} {ik : Nat} {L : List Cond} (h : ∀ w ∈ L, vx_ot w = true) : ∀ w ∈ Cond.classLink own ik cls :: Cond.initialized cls :: L, vx_ot w = true := fun w hw => by
  rcases List.mem_cons.mp hw with e | hw
  · rw [e]; rfl
  rcases List.mem_cons.mp hw with e | hw
  · rw [e]; rfl
  exact h w hw
