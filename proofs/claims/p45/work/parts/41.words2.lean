/-! TEXT: words -/
def wsV9_0 : List Cond := [.fieldLink RJ5 18 "java/lang/String" "COMPACT_STRINGS" "Z", .fieldLink RJ5 22 "java/lang/AbstractStringBuilder" "coder" "B", .fieldLink RJ5 79 "java/lang/AbstractStringBuilder" "count" "I", .fieldLink RJ5 15 "java/lang/AbstractStringBuilder" "value" "[B", .methodLink RJ4 343 yJ5_length_8abf5, .sameMethod RJ5 RJ5 "length" "()I", .superclass RJ4 RJ5, .instanceMethod yJ5_length_8abf5, .initialized RJ5, .code yJ5_length_8abf5 cJ5_length_8abf5 1 (some .int), .fieldLink RJ6 83 "java/lang/Integer" "DigitOnes" "[B", .fieldLink RJ6 87 "java/lang/Integer" "DigitTens" "[B", .methodLink RJ8 194 Lib.Math.max.name, .static Lib.Math.max.name, .initialized "java/lang/Math", .code Lib.Math.max.name Lib.Math.max.code 2 (some .int), .constant RJ8 200 (2147483639), .methodLink RJ5 114 yJ8_newLength_cabcc, .static yJ8_newLength_cabcc, .initialized RJ8, .code yJ8_newLength_cabcc cJ8_newLength_cabcc 4 (some .int), .constant RJ5 39 (2147483647), .arrayClass .byte, .methodLink RJ7 304 Lib.Math.min.name, .static Lib.Math.min.name, .code Lib.Math.min.name Lib.Math.min.code 2 (some .int), .methodLink RJ7 150 arraycopyName, .native arraycopyName, .static arraycopyName, .initialized "java/lang/System", .methodLink RJ5 104 yJ5_newCapacity_0f7a4, .sameMethod RJ5 RJ5 "newCapacity" "(I)I", .selects RJ4 yJ5_newCapacity_0f7a4 yJ5_newCapacity_0f7a4, .instanceMethod yJ5_newCapacity_0f7a4, .code yJ5_newCapacity_0f7a4 cJ5_newCapacity_0f7a4 6 (some .int), .methodLink RJ5 108 yJ7_copyOf_9075b, .static yJ7_copyOf_9075b, .initialized RJ7, .code yJ7_copyOf_9075b cJ7_copyOf_9075b 3 (some (.array .byte)), .methodLink RJ5 100 yJ5_ensureCapacityInternal_d00df, .sameMethod RJ5 RJ5 "ensureCapacityInternal" "(I)V", .selects RJ4 yJ5_ensureCapacityInternal_d00df yJ5_ensureCapacityInternal_d00df, .instanceMethod yJ5_ensureCapacityInternal_d00df, .code yJ5_ensureCapacityInternal_d00df cJ5_ensureCapacityInternal_d00df 3 none, .methodLink RJ5 83 yJ5_isLatin1_aae02, .sameMethod RJ5 RJ5 "isLatin1" "()Z", .selects RJ4 yJ5_isLatin1_aae02 yJ5_isLatin1_aae02, .instanceMethod yJ5_isLatin1_aae02]
def wsV9_1 : List Cond := [.code yJ5_isLatin1_aae02 cJ5_isLatin1_aae02 1 (some .boolean), .methodLink RJ5 191 yJ1_canEncode_fc78d, .static yJ1_canEncode_fc78d, .initialized RJ1, .code yJ1_canEncode_fc78d cJ1_canEncode_fc78d 1 (some .boolean), .fieldLink RJ0 38 "java/lang/String" "COMPACT_STRINGS" "Z", .fieldLink RJ0 15 "java/lang/String" "coder" "B", .fieldLink RJ0 9 "java/lang/String" "value" "[B", .methodLink RJ0 335 yJ0_coder_7d493, .instanceMethod yJ0_coder_7d493, .selects RJ0 yJ0_coder_7d493 yJ0_coder_7d493, .initialized RJ0, .code yJ0_coder_7d493 cJ0_coder_7d493 1 (some .byte), .methodLink RJ0 212 arraycopyName, .methodLink RJ5 40 yJ0_coder_7d493, .methodLink RJ5 397 yJ5_inflateIfNeededFor_a7421, .sameMethod RJ5 RJ5 "inflateIfNeededFor" "(Ljava/lang/String;)V", .selects RJ4 yJ5_inflateIfNeededFor_a7421 yJ5_inflateIfNeededFor_a7421, .instanceMethod yJ5_inflateIfNeededFor_a7421, .code yJ5_inflateIfNeededFor_a7421 cJ5_inflateIfNeededFor_a7421 2 none, .methodLink RJ5 399 yJ0_getBytes_840e7, .instanceMethod yJ0_getBytes_840e7, .selects RJ0 yJ0_getBytes_840e7 yJ0_getBytes_840e7, .code yJ0_getBytes_840e7 cJ0_getBytes_840e7 4 none, .methodLink RJ5 32 yJ0_length_8abf5, .instanceMethod yJ0_length_8abf5, .selects RJ0 yJ0_length_8abf5 yJ0_length_8abf5, .code yJ0_length_8abf5 cJ0_length_8abf5 1 (some .int), .methodLink RJ5 208 yJ5_putStringAt_47b60, .sameMethod RJ5 RJ5 "putStringAt" "(ILjava/lang/String;)V", .selects RJ4 yJ5_putStringAt_47b60 yJ5_putStringAt_47b60, .instanceMethod yJ5_putStringAt_47b60, .code yJ5_putStringAt_47b60 cJ5_putStringAt_47b60 3 none, .methodLink RJ5 245 yJ6_stringSize_0f7a4, .static yJ6_stringSize_0f7a4, .initialized RJ6, .code yJ6_stringSize_0f7a4 cJ6_stringSize_0f7a4 4 (some .int), .methodLink RJ5 248 yJ6_getChars_ba4f3, .static yJ6_getChars_ba4f3, .code yJ6_getChars_ba4f3 cJ6_getChars_ba4f3 7 (some .int), .methodLink RJ4 50 yJ5_append_3fe6f, .sameMethod RJ5 RJ5 "append" "(C)Ljava/lang/AbstractStringBuilder;", .instanceMethod yJ5_append_3fe6f, .code yJ5_append_3fe6f cJ5_append_3fe6f 2 (some (.object "java/lang/AbstractStringBuilder")), .methodLink RJ4 29 yJ5_append_cf1ce, .sameMethod RJ5 RJ5 "append" "(Ljava/lang/String;)Ljava/lang/AbstractStringBuilder;", .instanceMethod yJ5_append_cf1ce, .code yJ5_append_cf1ce cJ5_append_cf1ce 3 (some (.object "java/lang/AbstractStringBuilder"))]
def wsV9_2 : List Cond := [.methodLink RJ4 53 yJ5_append_c97b9, .sameMethod RJ5 RJ5 "append" "(I)Ljava/lang/AbstractStringBuilder;", .instanceMethod yJ5_append_c97b9, .code yJ5_append_c97b9 cJ5_append_c97b9 4 (some (.object "java/lang/AbstractStringBuilder")), .fieldLink RJ5 73 "java/lang/AbstractStringBuilder" "maybeLatin1" "Z", .methodLink RJ4 333 yJ5_setLength_d00df, .sameMethod RJ5 RJ5 "setLength" "(I)V", .instanceMethod yJ5_setLength_d00df, .code yJ5_setLength_d00df cJ5_setLength_d00df 2 none, .fieldLink RJ0 1053 "jdk/internal/util/Preconditions" "SIOOBE_FORMATTER" "Ljava/util/function/BiFunction;", .methodLink RJ0 1059 yJ3_checkIndex_8e157, .static yJ3_checkIndex_8e157, .initialized RJ3, .code yJ3_checkIndex_8e157 cJ3_checkIndex_8e157 3 (some .int), .methodLink RJ5 138 Lib.Math.min.name, .methodLink RJ5 144 yJ0_checkIndex_df160, .static yJ0_checkIndex_df160, .code yJ0_checkIndex_df160 cJ0_checkIndex_df160 2 none, .methodLink RJ4 329 yJ5_charAt_5068e, .sameMethod RJ5 RJ5 "charAt" "(I)C", .instanceMethod yJ5_charAt_5068e, .code yJ5_charAt_5068e cJ5_charAt_5068e 5 (some .char), .methodLink RJ5 3 objectInit, .instanceMethod objectInit, .code objectInit ⟨#[0xb1]⟩ 1 none, .code yJ5_init_d00df cJ5_init_d00df 2 none, .methodLink RJ4 1 yJ5_init_d00df, .instanceMethod yJ5_init_d00df, .fieldLink RX3 9 "MineHoist$Trip" "kind" "C", .fieldLink RX5 10 "MineHoist" "mine" "LMineHoist$Mine;", .fieldLink RX5 146 "MineHoist$Mine" "trip" "LMineHoist$Trip;", .fieldLink RX5 22 "MineHoist" "line" "Ljava/lang/StringBuilder;", .methodLink RX5 243 yJ4_setLength_d00df, .instanceMethod yJ4_setLength_d00df, .selects RJ4 yJ4_setLength_d00df yJ4_setLength_d00df, .initialized RJ4, .code yJ4_setLength_d00df cJ4_setLength_d00df 2 none, .methodLink RX5 246 yX3_word, .instanceMethod yX3_word, .selects RX3 yX3_word yX3_word, .initialized RX3, .code yX3_word cX3_word 1 (some (.object "java/lang/String")), .methodLink RX5 250 yJ4_append_15ec4, .instanceMethod yJ4_append_15ec4, .selects RJ4 yJ4_append_15ec4 yJ4_append_15ec4, .code yJ4_append_15ec4 cJ4_append_15ec4 2 (some (.object "java/lang/StringBuilder")), .methodLink RX5 254 yX3_isOn, .instanceMethod yX3_isOn]
def wsV9_3 : List Cond := [.selects RX3 yX3_isOn yX3_isOn, .code yX3_isOn cX3_isOn 1 (some .boolean), .methodLink RX5 268 yJ4_length_8abf5, .instanceMethod yJ4_length_8abf5, .selects RJ4 yJ4_length_8abf5 yJ4_length_8abf5, .code yJ4_length_8abf5 cJ4_length_8abf5 1 (some .int), .methodLink RX5 258 yJ4_append_cf468, .instanceMethod yJ4_append_cf468, .selects RJ4 yJ4_append_cf468 yJ4_append_cf468, .code yJ4_append_cf468 cJ4_append_cf468 2 (some (.object "java/lang/StringBuilder")), .fieldLink RX5 218 "MineHoist$Trip" "load" "I", .methodLink RX5 261 yJ4_append_bf812, .instanceMethod yJ4_append_bf812, .selects RJ4 yJ4_append_bf812 yJ4_append_bf812, .code yJ4_append_bf812 cJ4_append_bf812 2 (some (.object "java/lang/StringBuilder")), .fieldLink RX5 215 "MineHoist$Trip" "level" "I", .fieldLink RX5 221 "MineHoist$Trip" "rest" "I", .methodLink RX5 273 yJ4_charAt_5068e, .instanceMethod yJ4_charAt_5068e, .selects RJ4 yJ4_charAt_5068e yJ4_charAt_5068e, .code yJ4_charAt_5068e cJ4_charAt_5068e 2 (some .char), .classLink RX5 194 "java/lang/IndexOutOfBoundsException", .initialized "java/lang/IndexOutOfBoundsException", .methodLink RL 114 yX5_lineAt, .instanceMethod yX5_lineAt, .selects RX5 yX5_lineAt yX5_lineAt, .initialized RX5, .code yX5_lineAt cX5_lineAt 2 (some .char), .classLink RL 31 "java/lang/IndexOutOfBoundsException", .methodLink RJ1 9 yJ0_checkIndex_df160, .methodLink RJ0 492 yJ0_isLatin1_aae02, .instanceMethod yJ0_isLatin1_aae02, .selects RJ0 yJ0_isLatin1_aae02 yJ0_isLatin1_aae02, .code yJ0_isLatin1_aae02 cJ0_isLatin1_aae02 1 (some .boolean), .methodLink RJ0 495 yJ1_charAt_3b067, .static yJ1_charAt_3b067, .code yJ1_charAt_3b067 cJ1_charAt_3b067 2 (some .char), .methodLink RX0 1 objectInit, .methodLink RX2 1 objectInit, .methodLink RX3 3 objectInit, .fieldLink RX3 15 "MineHoist$Trip" "request" "I", .methodLink RX4 3 objectInit, .classLink RX4 9 RX2, .fieldLink RX4 11 "MineHoist$Waiting" "rows" "[LMineHoist$Request;", .instantiable RX2 4, .initialized RX2, .code yX2_init cX2_init 1 none, .instanceMethod yX2_init]
def wsV9_4 : List Cond := [.methodLink RX1 3 objectInit, .classLink RX1 9 RX0, .instantiable RX0 11, .initialized RX0, .code yX0_init cX0_init 1 none, .instanceMethod yX0_init, .fieldLink RX1 12 "MineHoist$Mine" "surface" "LMineHoist$Level;", .fieldLink RX1 18 "MineHoist$Mine" "places" "[LMineHoist$Level;", .classLink RX1 22 RX4, .instantiable RX4 2, .initialized RX4, .code yX4_init cX4_init 2 none, .methodLink RX1 24 yX4_init, .instanceMethod yX4_init, .fieldLink RX1 25 "MineHoist$Mine" "waiting" "LMineHoist$Waiting;", .classLink RX1 29 RX3, .instantiable RX3 5, .code yX3_init cX3_init 1 none, .instanceMethod yX3_init, .fieldLink RX1 32 "MineHoist$Mine" "trip" "LMineHoist$Trip;", .fieldLink RX1 36 "MineHoist$Mine" "fan" "I", .fieldLink RX1 40 "MineHoist$Mine" "limit" "I", .fieldLink RX1 43 "MineHoist$Mine" "speed" "I", .fieldLink RX1 46 "MineHoist$Mine" "cage" "I", .fieldLink RX1 49 "MineHoist$Mine" "requestDone" "I", .methodLink RX5 1 objectInit, .classLink RX5 7 RX1, .instantiable RX1 16, .initialized RX1, .code yX1_init cX1_init 2 none, .methodLink RX5 9 yX1_init, .instanceMethod yX1_init, .fieldLink RX5 16 "MineHoist" "trial" "LMineHoist$Mine;", .classLink RX5 19 RJ4, .instantiable RJ4 4, .code yJ4_init_da8c8 cJ4_init_da8c8 1 none, .methodLink RX5 21 yJ4_init_da8c8, .instanceMethod yJ4_init_da8c8, .methodLink RL 194 yL_at, .static yL_at, .initialized RL, .code yL_at cL_at 2 (some .int), .methodLink RL 198 yL_some, .code yL_some cL_some 3 (some .int), .static yL_some, .methodLink RL 238 yL_isSound, .code yL_isSound cL_isSound 12 (some .boolean), .static yL_isSound]
def wsV9_5 : List Cond := [.methodLink RL 202 yL_sum, .code yL_sum cL_sum 4 (some .long), .static yL_sum, .methodLink RL 162 yX5_levelCount, .code yX5_levelCount cX5_levelCount 1 (some .int), .instanceMethod yX5_levelCount, .selects RX5 yX5_levelCount yX5_levelCount, .methodLink RL 213 yL_level, .codeWith yL_level cL_level 6 (some .int) [(0, 9, 10, 13), (0, 9, 16, 15)], .static yL_level, .methodLink RL 118 yX5_clock, .code yX5_clock cX5_clock 1 (some .int), .instanceMethod yX5_clock, .selects RX5 yX5_clock yX5_clock, .methodLink RL 182 yL_sets, .codeWith yL_sets cL_sets 4 (some .int) [(0, 33, 34, 13)], .static yL_sets, .methodLink RL 219 yL_door, .codeWith yL_door cL_door 4 (some .int) [(0, 14, 15, 31)], .static yL_door, .methodLink RL 217 yL_hire, .codeWith yL_hire cL_hire 3 (some .int) [(0, 5, 6, 13), (0, 5, 11, 15)], .static yL_hire, .methodLink RL 236 yL_pass, .codeWith yL_pass cL_pass 3 (some .int) [(0, 5, 6, 13), (0, 5, 11, 15)], .static yL_pass, .methodLink RL 223 yL_blast, .codeWith yL_blast cL_blast 4 (some .int) [(0, 6, 7, 31), (0, 6, 12, 13), (0, 6, 17, 15), (0, 6, 22, 84)], .static yL_blast, .methodLink RL 232 yL_request, .codeWith yL_request cL_request 5 (some .int) [(0, 35, 36, 31), (0, 35, 42, 13), (0, 35, 48, 84), (0, 35, 54, 15)], .static yL_request, .methodLink RL 175 yL_asked, .codeWith yL_asked cL_asked 4 (some .int) [(0, 30, 31, 67), (0, 30, 36, 31), (0, 30, 41, 84)], .static yL_asked, .methodLink RL 138 yX5_waitingCount, .code yX5_waitingCount cX5_waitingCount 1 (some .int), .instanceMethod yX5_waitingCount, .selects RX5 yX5_waitingCount yX5_waitingCount, .methodLink RL 242 yL_mean, .codeWith yL_mean cL_mean 2 (some .double) [(0, 4, 5, 73)], .static yL_mean, .constantDouble RL 75 (13830554455654793216), .methodLink RL 165 yL_of, .codeWith yL_of cL_of 4 (some .int) [(0, 57, 128, 31), (58, 63, 128, 31), (64, 69, 128, 31), (70, 75, 128, 31), (76, 81, 128, 31), (82, 95, 128, 31), (96, 101, 128, 31), (102, 107, 128, 31), (108, 113, 128, 31), (114, 127, 128, 31), (0, 57, 133, 67), (58, 63, 133, 67), (64, 69, 133, 67), (70, 75, 133, 67), (76, 81, 133, 67), (82, 95, 133, 67), (96, 101, 133, 67), (102, 107, 133, 67), (108, 113, 133, 67), (114, 127, 133, 67)], .static yL_of, .constant RL 201 (100000000), .methodLink RL 206 Lib.Math.max.name]
def wsV9_6 : List Cond := [.methodLink RL 227 yJ0_charAt_5068e, .instanceMethod yJ0_charAt_5068e, .selects RJ0 yJ0_charAt_5068e yJ0_charAt_5068e, .code yJ0_charAt_5068e cJ0_charAt_5068e 2 (some .char), .methodLink RL 123 yX5_gasTotal, .code yX5_gasTotal cX5_gasTotal 1 (some .int), .instanceMethod yX5_gasTotal, .selects RX5 yX5_gasTotal yX5_gasTotal, .constant RL 211 (60000), .constant RL 212 (1200000), .methodLink RL 246 yL_line, .static yL_line, .codeWith yL_line cL_line 3 (some .char) [(0, 5, 6, 31)], .methodLink RL 250 yX5_writeTrip, .instanceMethod yX5_writeTrip, .selects RX5 yX5_writeTrip yX5_writeTrip, .code yX5_writeTrip cX5_writeTrip 2 (some .int), .classLink RL 8 RX5, .instantiable RX5 3, .code yX5_init cX5_init 1 none, .methodLink RL 193 yX5_init, .instanceMethod yX5_init]
abbrev wsC9_J4 : List Cond := u_ws RJ4 TJ4 4
abbrev wsC9_X0 : List Cond := u_ws RX0 TX0 11
abbrev wsC9_X1 : List Cond := u_ws RX1 TX1 16
abbrev wsC9_X2 : List Cond := u_ws RX2 TX2 4
abbrev wsC9_X3 : List Cond := u_ws RX3 TX3 5
abbrev wsC9_X4 : List Cond := u_ws RX4 TX4 2
abbrev wsC9_X5 : List Cond := u_ws RX5 TX5 3
def wsV9 : List Cond := wsV9_0 ++ (wsV9_1 ++ (wsV9_2 ++ (wsV9_3 ++ (wsV9_4 ++ (wsV9_5 ++ (wsV9_6 ++ (wsC9_J4 ++ (wsC9_X0 ++ (wsC9_X1 ++ (wsC9_X2 ++ (wsC9_X3 ++ (wsC9_X4 ++ (wsC9_X5)))))))))))))
def wsT : List Cond := wsU ++ wsV9
theorem cV9_0 {w : Cond} (h : w ∈ wsV9_0) : w ∈ wsT := List.mem_append_right _ (List.mem_append_left _ (h))
theorem v_0 : (Cond.fieldLink RJ5 18 "java/lang/String" "COMPACT_STRINGS" "Z") ∈ wsT := cV9_0 (List.mem_of_getElem? (i := 0) rfl)
theorem v_1 : (Cond.fieldLink RJ5 22 "java/lang/AbstractStringBuilder" "coder" "B") ∈ wsT := cV9_0 (List.mem_of_getElem? (i := 1) rfl)
theorem v_2 : (Cond.fieldLink RJ5 79 "java/lang/AbstractStringBuilder" "count" "I") ∈ wsT := cV9_0 (List.mem_of_getElem? (i := 2) rfl)
theorem v_3 : (Cond.fieldLink RJ5 15 "java/lang/AbstractStringBuilder" "value" "[B") ∈ wsT := cV9_0 (List.mem_of_getElem? (i := 3) rfl)
theorem v_4 : (Cond.methodLink RJ4 343 yJ5_length_8abf5) ∈ wsT := cV9_0 (List.mem_of_getElem? (i := 4) rfl)
theorem v_5 : (Cond.sameMethod RJ5 RJ5 "length" "()I") ∈ wsT := cV9_0 (List.mem_of_getElem? (i := 5) rfl)
theorem v_6 : (Cond.superclass RJ4 RJ5) ∈ wsT := cV9_0 (List.mem_of_getElem? (i := 6) rfl)
theorem v_7 : (Cond.instanceMethod yJ5_length_8abf5) ∈ wsT := cV9_0 (List.mem_of_getElem? (i := 7) rfl)
theorem v_8 : (Cond.initialized RJ5) ∈ wsT := cV9_0 (List.mem_of_getElem? (i := 8) rfl)
theorem v_9 : (Cond.code yJ5_length_8abf5 cJ5_length_8abf5 1 (some .int)) ∈ wsT := cV9_0 (List.mem_of_getElem? (i := 9) rfl)
theorem v_10 : (Cond.fieldLink RJ6 83 "java/lang/Integer" "DigitOnes" "[B") ∈ wsT := cV9_0 (List.mem_of_getElem? (i := 10) rfl)
theorem v_11 : (Cond.fieldLink RJ6 87 "java/lang/Integer" "DigitTens" "[B") ∈ wsT := cV9_0 (List.mem_of_getElem? (i := 11) rfl)
theorem v_12 : (Cond.methodLink RJ8 194 Lib.Math.max.name) ∈ wsT := cV9_0 (List.mem_of_getElem? (i := 12) rfl)
theorem v_13 : (Cond.static Lib.Math.max.name) ∈ wsT := cV9_0 (List.mem_of_getElem? (i := 13) rfl)
theorem v_14 : (Cond.initialized "java/lang/Math") ∈ wsT := cV9_0 (List.mem_of_getElem? (i := 14) rfl)
theorem v_15 : (Cond.code Lib.Math.max.name Lib.Math.max.code 2 (some .int)) ∈ wsT := cV9_0 (List.mem_of_getElem? (i := 15) rfl)
theorem v_16 : (Cond.constant RJ8 200 (2147483639)) ∈ wsT := cV9_0 (List.mem_of_getElem? (i := 16) rfl)
theorem v_17 : (Cond.methodLink RJ5 114 yJ8_newLength_cabcc) ∈ wsT := cV9_0 (List.mem_of_getElem? (i := 17) rfl)
theorem v_18 : (Cond.static yJ8_newLength_cabcc) ∈ wsT := cV9_0 (List.mem_of_getElem? (i := 18) rfl)
theorem v_19 : (Cond.initialized RJ8) ∈ wsT := cV9_0 (List.mem_of_getElem? (i := 19) rfl)
theorem v_20 : (Cond.code yJ8_newLength_cabcc cJ8_newLength_cabcc 4 (some .int)) ∈ wsT := cV9_0 (List.mem_of_getElem? (i := 20) rfl)
theorem v_21 : (Cond.constant RJ5 39 (2147483647)) ∈ wsT := cV9_0 (List.mem_of_getElem? (i := 21) rfl)
theorem v_22 : (Cond.arrayClass .byte) ∈ wsT := cV9_0 (List.mem_of_getElem? (i := 22) rfl)
theorem v_23 : (Cond.methodLink RJ7 304 Lib.Math.min.name) ∈ wsT := cV9_0 (List.mem_of_getElem? (i := 23) rfl)
theorem v_24 : (Cond.static Lib.Math.min.name) ∈ wsT := cV9_0 (List.mem_of_getElem? (i := 24) rfl)
theorem v_25 : (Cond.code Lib.Math.min.name Lib.Math.min.code 2 (some .int)) ∈ wsT := cV9_0 (List.mem_of_getElem? (i := 25) rfl)
theorem v_26 : (Cond.methodLink RJ7 150 arraycopyName) ∈ wsT := cV9_0 (List.mem_of_getElem? (i := 26) rfl)
theorem v_27 : (Cond.native arraycopyName) ∈ wsT := cV9_0 (List.mem_of_getElem? (i := 27) rfl)
theorem v_28 : (Cond.static arraycopyName) ∈ wsT := cV9_0 (List.mem_of_getElem? (i := 28) rfl)
theorem v_29 : (Cond.initialized "java/lang/System") ∈ wsT := cV9_0 (List.mem_of_getElem? (i := 29) rfl)
theorem v_30 : (Cond.methodLink RJ5 104 yJ5_newCapacity_0f7a4) ∈ wsT := cV9_0 (List.mem_of_getElem? (i := 30) rfl)
theorem v_31 : (Cond.sameMethod RJ5 RJ5 "newCapacity" "(I)I") ∈ wsT := cV9_0 (List.mem_of_getElem? (i := 31) rfl)
theorem v_32 : (Cond.selects RJ4 yJ5_newCapacity_0f7a4 yJ5_newCapacity_0f7a4) ∈ wsT := cV9_0 (List.mem_of_getElem? (i := 32) rfl)
theorem v_33 : (Cond.instanceMethod yJ5_newCapacity_0f7a4) ∈ wsT := cV9_0 (List.mem_of_getElem? (i := 33) rfl)
theorem v_34 : (Cond.code yJ5_newCapacity_0f7a4 cJ5_newCapacity_0f7a4 6 (some .int)) ∈ wsT := cV9_0 (List.mem_of_getElem? (i := 34) rfl)
theorem v_35 : (Cond.methodLink RJ5 108 yJ7_copyOf_9075b) ∈ wsT := cV9_0 (List.mem_of_getElem? (i := 35) rfl)
theorem v_36 : (Cond.static yJ7_copyOf_9075b) ∈ wsT := cV9_0 (List.mem_of_getElem? (i := 36) rfl)
theorem v_37 : (Cond.initialized RJ7) ∈ wsT := cV9_0 (List.mem_of_getElem? (i := 37) rfl)
theorem v_38 : (Cond.code yJ7_copyOf_9075b cJ7_copyOf_9075b 3 (some (.array .byte))) ∈ wsT := cV9_0 (List.mem_of_getElem? (i := 38) rfl)
theorem v_39 : (Cond.methodLink RJ5 100 yJ5_ensureCapacityInternal_d00df) ∈ wsT := cV9_0 (List.mem_of_getElem? (i := 39) rfl)
theorem v_40 : (Cond.sameMethod RJ5 RJ5 "ensureCapacityInternal" "(I)V") ∈ wsT := cV9_0 (List.mem_of_getElem? (i := 40) rfl)
theorem v_41 : (Cond.selects RJ4 yJ5_ensureCapacityInternal_d00df yJ5_ensureCapacityInternal_d00df) ∈ wsT := cV9_0 (List.mem_of_getElem? (i := 41) rfl)
theorem v_42 : (Cond.instanceMethod yJ5_ensureCapacityInternal_d00df) ∈ wsT := cV9_0 (List.mem_of_getElem? (i := 42) rfl)
theorem v_43 : (Cond.code yJ5_ensureCapacityInternal_d00df cJ5_ensureCapacityInternal_d00df 3 none) ∈ wsT := cV9_0 (List.mem_of_getElem? (i := 43) rfl)
theorem v_44 : (Cond.methodLink RJ5 83 yJ5_isLatin1_aae02) ∈ wsT := cV9_0 (List.mem_of_getElem? (i := 44) rfl)
theorem v_45 : (Cond.sameMethod RJ5 RJ5 "isLatin1" "()Z") ∈ wsT := cV9_0 (List.mem_of_getElem? (i := 45) rfl)
theorem v_46 : (Cond.selects RJ4 yJ5_isLatin1_aae02 yJ5_isLatin1_aae02) ∈ wsT := cV9_0 (List.mem_of_getElem? (i := 46) rfl)
theorem v_47 : (Cond.instanceMethod yJ5_isLatin1_aae02) ∈ wsT := cV9_0 (List.mem_of_getElem? (i := 47) rfl)
theorem kV9_0 : wsV9_0.all goodWord = true := by decide +kernel
theorem cV9_1 {w : Cond} (h : w ∈ wsV9_1) : w ∈ wsT := List.mem_append_right _ (List.mem_append_right _ (List.mem_append_left _ (h)))
theorem v_48 : (Cond.code yJ5_isLatin1_aae02 cJ5_isLatin1_aae02 1 (some .boolean)) ∈ wsT := cV9_1 (List.mem_of_getElem? (i := 0) rfl)
theorem v_49 : (Cond.methodLink RJ5 191 yJ1_canEncode_fc78d) ∈ wsT := cV9_1 (List.mem_of_getElem? (i := 1) rfl)
theorem v_50 : (Cond.static yJ1_canEncode_fc78d) ∈ wsT := cV9_1 (List.mem_of_getElem? (i := 2) rfl)
theorem v_51 : (Cond.initialized RJ1) ∈ wsT := cV9_1 (List.mem_of_getElem? (i := 3) rfl)
theorem v_52 : (Cond.code yJ1_canEncode_fc78d cJ1_canEncode_fc78d 1 (some .boolean)) ∈ wsT := cV9_1 (List.mem_of_getElem? (i := 4) rfl)
theorem v_53 : (Cond.fieldLink RJ0 38 "java/lang/String" "COMPACT_STRINGS" "Z") ∈ wsT := cV9_1 (List.mem_of_getElem? (i := 5) rfl)
theorem v_54 : (Cond.fieldLink RJ0 15 "java/lang/String" "coder" "B") ∈ wsT := cV9_1 (List.mem_of_getElem? (i := 6) rfl)
theorem v_55 : (Cond.fieldLink RJ0 9 "java/lang/String" "value" "[B") ∈ wsT := cV9_1 (List.mem_of_getElem? (i := 7) rfl)
theorem v_56 : (Cond.methodLink RJ0 335 yJ0_coder_7d493) ∈ wsT := cV9_1 (List.mem_of_getElem? (i := 8) rfl)
theorem v_57 : (Cond.instanceMethod yJ0_coder_7d493) ∈ wsT := cV9_1 (List.mem_of_getElem? (i := 9) rfl)
theorem v_58 : (Cond.selects RJ0 yJ0_coder_7d493 yJ0_coder_7d493) ∈ wsT := cV9_1 (List.mem_of_getElem? (i := 10) rfl)
theorem v_59 : (Cond.initialized RJ0) ∈ wsT := cV9_1 (List.mem_of_getElem? (i := 11) rfl)
theorem v_60 : (Cond.code yJ0_coder_7d493 cJ0_coder_7d493 1 (some .byte)) ∈ wsT := cV9_1 (List.mem_of_getElem? (i := 12) rfl)
theorem v_61 : (Cond.methodLink RJ0 212 arraycopyName) ∈ wsT := cV9_1 (List.mem_of_getElem? (i := 13) rfl)
theorem v_62 : (Cond.methodLink RJ5 40 yJ0_coder_7d493) ∈ wsT := cV9_1 (List.mem_of_getElem? (i := 14) rfl)
theorem v_63 : (Cond.methodLink RJ5 397 yJ5_inflateIfNeededFor_a7421) ∈ wsT := cV9_1 (List.mem_of_getElem? (i := 15) rfl)
theorem v_64 : (Cond.sameMethod RJ5 RJ5 "inflateIfNeededFor" "(Ljava/lang/String;)V") ∈ wsT := cV9_1 (List.mem_of_getElem? (i := 16) rfl)
theorem v_65 : (Cond.selects RJ4 yJ5_inflateIfNeededFor_a7421 yJ5_inflateIfNeededFor_a7421) ∈ wsT := cV9_1 (List.mem_of_getElem? (i := 17) rfl)
theorem v_66 : (Cond.instanceMethod yJ5_inflateIfNeededFor_a7421) ∈ wsT := cV9_1 (List.mem_of_getElem? (i := 18) rfl)
theorem v_67 : (Cond.code yJ5_inflateIfNeededFor_a7421 cJ5_inflateIfNeededFor_a7421 2 none) ∈ wsT := cV9_1 (List.mem_of_getElem? (i := 19) rfl)
theorem v_68 : (Cond.methodLink RJ5 399 yJ0_getBytes_840e7) ∈ wsT := cV9_1 (List.mem_of_getElem? (i := 20) rfl)
theorem v_69 : (Cond.instanceMethod yJ0_getBytes_840e7) ∈ wsT := cV9_1 (List.mem_of_getElem? (i := 21) rfl)
theorem v_70 : (Cond.selects RJ0 yJ0_getBytes_840e7 yJ0_getBytes_840e7) ∈ wsT := cV9_1 (List.mem_of_getElem? (i := 22) rfl)
theorem v_71 : (Cond.code yJ0_getBytes_840e7 cJ0_getBytes_840e7 4 none) ∈ wsT := cV9_1 (List.mem_of_getElem? (i := 23) rfl)
theorem v_72 : (Cond.methodLink RJ5 32 yJ0_length_8abf5) ∈ wsT := cV9_1 (List.mem_of_getElem? (i := 24) rfl)
theorem v_73 : (Cond.instanceMethod yJ0_length_8abf5) ∈ wsT := cV9_1 (List.mem_of_getElem? (i := 25) rfl)
theorem v_74 : (Cond.selects RJ0 yJ0_length_8abf5 yJ0_length_8abf5) ∈ wsT := cV9_1 (List.mem_of_getElem? (i := 26) rfl)
theorem v_75 : (Cond.code yJ0_length_8abf5 cJ0_length_8abf5 1 (some .int)) ∈ wsT := cV9_1 (List.mem_of_getElem? (i := 27) rfl)
theorem v_76 : (Cond.methodLink RJ5 208 yJ5_putStringAt_47b60) ∈ wsT := cV9_1 (List.mem_of_getElem? (i := 28) rfl)
theorem v_77 : (Cond.sameMethod RJ5 RJ5 "putStringAt" "(ILjava/lang/String;)V") ∈ wsT := cV9_1 (List.mem_of_getElem? (i := 29) rfl)
theorem v_78 : (Cond.selects RJ4 yJ5_putStringAt_47b60 yJ5_putStringAt_47b60) ∈ wsT := cV9_1 (List.mem_of_getElem? (i := 30) rfl)
theorem v_79 : (Cond.instanceMethod yJ5_putStringAt_47b60) ∈ wsT := cV9_1 (List.mem_of_getElem? (i := 31) rfl)
theorem v_80 : (Cond.code yJ5_putStringAt_47b60 cJ5_putStringAt_47b60 3 none) ∈ wsT := cV9_1 (List.mem_of_getElem? (i := 32) rfl)
theorem v_81 : (Cond.methodLink RJ5 245 yJ6_stringSize_0f7a4) ∈ wsT := cV9_1 (List.mem_of_getElem? (i := 33) rfl)
theorem v_82 : (Cond.static yJ6_stringSize_0f7a4) ∈ wsT := cV9_1 (List.mem_of_getElem? (i := 34) rfl)
theorem v_83 : (Cond.initialized RJ6) ∈ wsT := cV9_1 (List.mem_of_getElem? (i := 35) rfl)
theorem v_84 : (Cond.code yJ6_stringSize_0f7a4 cJ6_stringSize_0f7a4 4 (some .int)) ∈ wsT := cV9_1 (List.mem_of_getElem? (i := 36) rfl)
theorem v_85 : (Cond.methodLink RJ5 248 yJ6_getChars_ba4f3) ∈ wsT := cV9_1 (List.mem_of_getElem? (i := 37) rfl)
theorem v_86 : (Cond.static yJ6_getChars_ba4f3) ∈ wsT := cV9_1 (List.mem_of_getElem? (i := 38) rfl)
theorem v_87 : (Cond.code yJ6_getChars_ba4f3 cJ6_getChars_ba4f3 7 (some .int)) ∈ wsT := cV9_1 (List.mem_of_getElem? (i := 39) rfl)
theorem v_88 : (Cond.methodLink RJ4 50 yJ5_append_3fe6f) ∈ wsT := cV9_1 (List.mem_of_getElem? (i := 40) rfl)
theorem v_89 : (Cond.sameMethod RJ5 RJ5 "append" "(C)Ljava/lang/AbstractStringBuilder;") ∈ wsT := cV9_1 (List.mem_of_getElem? (i := 41) rfl)
theorem v_90 : (Cond.instanceMethod yJ5_append_3fe6f) ∈ wsT := cV9_1 (List.mem_of_getElem? (i := 42) rfl)
theorem v_91 : (Cond.code yJ5_append_3fe6f cJ5_append_3fe6f 2 (some (.object "java/lang/AbstractStringBuilder"))) ∈ wsT := cV9_1 (List.mem_of_getElem? (i := 43) rfl)
theorem v_92 : (Cond.methodLink RJ4 29 yJ5_append_cf1ce) ∈ wsT := cV9_1 (List.mem_of_getElem? (i := 44) rfl)
theorem v_93 : (Cond.sameMethod RJ5 RJ5 "append" "(Ljava/lang/String;)Ljava/lang/AbstractStringBuilder;") ∈ wsT := cV9_1 (List.mem_of_getElem? (i := 45) rfl)
theorem v_94 : (Cond.instanceMethod yJ5_append_cf1ce) ∈ wsT := cV9_1 (List.mem_of_getElem? (i := 46) rfl)
theorem v_95 : (Cond.code yJ5_append_cf1ce cJ5_append_cf1ce 3 (some (.object "java/lang/AbstractStringBuilder"))) ∈ wsT := cV9_1 (List.mem_of_getElem? (i := 47) rfl)
theorem kV9_1 : wsV9_1.all goodWord = true := by decide +kernel
theorem cV9_2 {w : Cond} (h : w ∈ wsV9_2) : w ∈ wsT := List.mem_append_right _ (List.mem_append_right _ (List.mem_append_right _ (List.mem_append_left _ (h))))
theorem v_96 : (Cond.methodLink RJ4 53 yJ5_append_c97b9) ∈ wsT := cV9_2 (List.mem_of_getElem? (i := 0) rfl)
theorem v_97 : (Cond.sameMethod RJ5 RJ5 "append" "(I)Ljava/lang/AbstractStringBuilder;") ∈ wsT := cV9_2 (List.mem_of_getElem? (i := 1) rfl)
theorem v_98 : (Cond.instanceMethod yJ5_append_c97b9) ∈ wsT := cV9_2 (List.mem_of_getElem? (i := 2) rfl)
theorem v_99 : (Cond.code yJ5_append_c97b9 cJ5_append_c97b9 4 (some (.object "java/lang/AbstractStringBuilder"))) ∈ wsT := cV9_2 (List.mem_of_getElem? (i := 3) rfl)
theorem v_100 : (Cond.fieldLink RJ5 73 "java/lang/AbstractStringBuilder" "maybeLatin1" "Z") ∈ wsT := cV9_2 (List.mem_of_getElem? (i := 4) rfl)
theorem v_101 : (Cond.methodLink RJ4 333 yJ5_setLength_d00df) ∈ wsT := cV9_2 (List.mem_of_getElem? (i := 5) rfl)
theorem v_102 : (Cond.sameMethod RJ5 RJ5 "setLength" "(I)V") ∈ wsT := cV9_2 (List.mem_of_getElem? (i := 6) rfl)
theorem v_103 : (Cond.instanceMethod yJ5_setLength_d00df) ∈ wsT := cV9_2 (List.mem_of_getElem? (i := 7) rfl)
theorem v_104 : (Cond.code yJ5_setLength_d00df cJ5_setLength_d00df 2 none) ∈ wsT := cV9_2 (List.mem_of_getElem? (i := 8) rfl)
theorem v_105 : (Cond.fieldLink RJ0 1053 "jdk/internal/util/Preconditions" "SIOOBE_FORMATTER" "Ljava/util/function/BiFunction;") ∈ wsT := cV9_2 (List.mem_of_getElem? (i := 9) rfl)
theorem v_106 : (Cond.methodLink RJ0 1059 yJ3_checkIndex_8e157) ∈ wsT := cV9_2 (List.mem_of_getElem? (i := 10) rfl)
theorem v_107 : (Cond.static yJ3_checkIndex_8e157) ∈ wsT := cV9_2 (List.mem_of_getElem? (i := 11) rfl)
theorem v_108 : (Cond.initialized RJ3) ∈ wsT := cV9_2 (List.mem_of_getElem? (i := 12) rfl)
theorem v_109 : (Cond.code yJ3_checkIndex_8e157 cJ3_checkIndex_8e157 3 (some .int)) ∈ wsT := cV9_2 (List.mem_of_getElem? (i := 13) rfl)
theorem v_110 : (Cond.methodLink RJ5 138 Lib.Math.min.name) ∈ wsT := cV9_2 (List.mem_of_getElem? (i := 14) rfl)
theorem v_111 : (Cond.methodLink RJ5 144 yJ0_checkIndex_df160) ∈ wsT := cV9_2 (List.mem_of_getElem? (i := 15) rfl)
theorem v_112 : (Cond.static yJ0_checkIndex_df160) ∈ wsT := cV9_2 (List.mem_of_getElem? (i := 16) rfl)
theorem v_113 : (Cond.code yJ0_checkIndex_df160 cJ0_checkIndex_df160 2 none) ∈ wsT := cV9_2 (List.mem_of_getElem? (i := 17) rfl)
theorem v_114 : (Cond.methodLink RJ4 329 yJ5_charAt_5068e) ∈ wsT := cV9_2 (List.mem_of_getElem? (i := 18) rfl)
theorem v_115 : (Cond.sameMethod RJ5 RJ5 "charAt" "(I)C") ∈ wsT := cV9_2 (List.mem_of_getElem? (i := 19) rfl)
theorem v_116 : (Cond.instanceMethod yJ5_charAt_5068e) ∈ wsT := cV9_2 (List.mem_of_getElem? (i := 20) rfl)
theorem v_117 : (Cond.code yJ5_charAt_5068e cJ5_charAt_5068e 5 (some .char)) ∈ wsT := cV9_2 (List.mem_of_getElem? (i := 21) rfl)
theorem v_118 : (Cond.methodLink RJ5 3 objectInit) ∈ wsT := cV9_2 (List.mem_of_getElem? (i := 22) rfl)
theorem v_119 : (Cond.instanceMethod objectInit) ∈ wsT := cV9_2 (List.mem_of_getElem? (i := 23) rfl)
theorem v_120 : (Cond.code objectInit ⟨#[0xb1]⟩ 1 none) ∈ wsT := cV9_2 (List.mem_of_getElem? (i := 24) rfl)
theorem v_121 : (Cond.code yJ5_init_d00df cJ5_init_d00df 2 none) ∈ wsT := cV9_2 (List.mem_of_getElem? (i := 25) rfl)
theorem v_122 : (Cond.methodLink RJ4 1 yJ5_init_d00df) ∈ wsT := cV9_2 (List.mem_of_getElem? (i := 26) rfl)
theorem v_123 : (Cond.instanceMethod yJ5_init_d00df) ∈ wsT := cV9_2 (List.mem_of_getElem? (i := 27) rfl)
theorem v_124 : (Cond.fieldLink RX3 9 "MineHoist$Trip" "kind" "C") ∈ wsT := cV9_2 (List.mem_of_getElem? (i := 28) rfl)
theorem v_125 : (Cond.fieldLink RX5 10 "MineHoist" "mine" "LMineHoist$Mine;") ∈ wsT := cV9_2 (List.mem_of_getElem? (i := 29) rfl)
theorem v_126 : (Cond.fieldLink RX5 146 "MineHoist$Mine" "trip" "LMineHoist$Trip;") ∈ wsT := cV9_2 (List.mem_of_getElem? (i := 30) rfl)
theorem v_127 : (Cond.fieldLink RX5 22 "MineHoist" "line" "Ljava/lang/StringBuilder;") ∈ wsT := cV9_2 (List.mem_of_getElem? (i := 31) rfl)
theorem v_128 : (Cond.methodLink RX5 243 yJ4_setLength_d00df) ∈ wsT := cV9_2 (List.mem_of_getElem? (i := 32) rfl)
theorem v_129 : (Cond.instanceMethod yJ4_setLength_d00df) ∈ wsT := cV9_2 (List.mem_of_getElem? (i := 33) rfl)
theorem v_130 : (Cond.selects RJ4 yJ4_setLength_d00df yJ4_setLength_d00df) ∈ wsT := cV9_2 (List.mem_of_getElem? (i := 34) rfl)
theorem v_131 : (Cond.initialized RJ4) ∈ wsT := cV9_2 (List.mem_of_getElem? (i := 35) rfl)
theorem v_132 : (Cond.code yJ4_setLength_d00df cJ4_setLength_d00df 2 none) ∈ wsT := cV9_2 (List.mem_of_getElem? (i := 36) rfl)
theorem v_133 : (Cond.methodLink RX5 246 yX3_word) ∈ wsT := cV9_2 (List.mem_of_getElem? (i := 37) rfl)
theorem v_134 : (Cond.instanceMethod yX3_word) ∈ wsT := cV9_2 (List.mem_of_getElem? (i := 38) rfl)
theorem v_135 : (Cond.selects RX3 yX3_word yX3_word) ∈ wsT := cV9_2 (List.mem_of_getElem? (i := 39) rfl)
theorem v_136 : (Cond.initialized RX3) ∈ wsT := cV9_2 (List.mem_of_getElem? (i := 40) rfl)
theorem v_137 : (Cond.code yX3_word cX3_word 1 (some (.object "java/lang/String"))) ∈ wsT := cV9_2 (List.mem_of_getElem? (i := 41) rfl)
theorem v_138 : (Cond.methodLink RX5 250 yJ4_append_15ec4) ∈ wsT := cV9_2 (List.mem_of_getElem? (i := 42) rfl)
theorem v_139 : (Cond.instanceMethod yJ4_append_15ec4) ∈ wsT := cV9_2 (List.mem_of_getElem? (i := 43) rfl)
theorem v_140 : (Cond.selects RJ4 yJ4_append_15ec4 yJ4_append_15ec4) ∈ wsT := cV9_2 (List.mem_of_getElem? (i := 44) rfl)
theorem v_141 : (Cond.code yJ4_append_15ec4 cJ4_append_15ec4 2 (some (.object "java/lang/StringBuilder"))) ∈ wsT := cV9_2 (List.mem_of_getElem? (i := 45) rfl)
theorem v_142 : (Cond.methodLink RX5 254 yX3_isOn) ∈ wsT := cV9_2 (List.mem_of_getElem? (i := 46) rfl)
theorem v_143 : (Cond.instanceMethod yX3_isOn) ∈ wsT := cV9_2 (List.mem_of_getElem? (i := 47) rfl)
theorem kV9_2 : wsV9_2.all goodWord = true := by decide +kernel
theorem cV9_3 {w : Cond} (h : w ∈ wsV9_3) : w ∈ wsT := List.mem_append_right _ (List.mem_append_right _ (List.mem_append_right _ (List.mem_append_right _ (List.mem_append_left _ (h)))))
theorem v_144 : (Cond.selects RX3 yX3_isOn yX3_isOn) ∈ wsT := cV9_3 (List.mem_of_getElem? (i := 0) rfl)
theorem v_145 : (Cond.code yX3_isOn cX3_isOn 1 (some .boolean)) ∈ wsT := cV9_3 (List.mem_of_getElem? (i := 1) rfl)
theorem v_146 : (Cond.methodLink RX5 268 yJ4_length_8abf5) ∈ wsT := cV9_3 (List.mem_of_getElem? (i := 2) rfl)
theorem v_147 : (Cond.instanceMethod yJ4_length_8abf5) ∈ wsT := cV9_3 (List.mem_of_getElem? (i := 3) rfl)
theorem v_148 : (Cond.selects RJ4 yJ4_length_8abf5 yJ4_length_8abf5) ∈ wsT := cV9_3 (List.mem_of_getElem? (i := 4) rfl)
theorem v_149 : (Cond.code yJ4_length_8abf5 cJ4_length_8abf5 1 (some .int)) ∈ wsT := cV9_3 (List.mem_of_getElem? (i := 5) rfl)
theorem v_150 : (Cond.methodLink RX5 258 yJ4_append_cf468) ∈ wsT := cV9_3 (List.mem_of_getElem? (i := 6) rfl)
theorem v_151 : (Cond.instanceMethod yJ4_append_cf468) ∈ wsT := cV9_3 (List.mem_of_getElem? (i := 7) rfl)
theorem v_152 : (Cond.selects RJ4 yJ4_append_cf468 yJ4_append_cf468) ∈ wsT := cV9_3 (List.mem_of_getElem? (i := 8) rfl)
theorem v_153 : (Cond.code yJ4_append_cf468 cJ4_append_cf468 2 (some (.object "java/lang/StringBuilder"))) ∈ wsT := cV9_3 (List.mem_of_getElem? (i := 9) rfl)
theorem v_154 : (Cond.fieldLink RX5 218 "MineHoist$Trip" "load" "I") ∈ wsT := cV9_3 (List.mem_of_getElem? (i := 10) rfl)
theorem v_155 : (Cond.methodLink RX5 261 yJ4_append_bf812) ∈ wsT := cV9_3 (List.mem_of_getElem? (i := 11) rfl)
theorem v_156 : (Cond.instanceMethod yJ4_append_bf812) ∈ wsT := cV9_3 (List.mem_of_getElem? (i := 12) rfl)
theorem v_157 : (Cond.selects RJ4 yJ4_append_bf812 yJ4_append_bf812) ∈ wsT := cV9_3 (List.mem_of_getElem? (i := 13) rfl)
theorem v_158 : (Cond.code yJ4_append_bf812 cJ4_append_bf812 2 (some (.object "java/lang/StringBuilder"))) ∈ wsT := cV9_3 (List.mem_of_getElem? (i := 14) rfl)
theorem v_159 : (Cond.fieldLink RX5 215 "MineHoist$Trip" "level" "I") ∈ wsT := cV9_3 (List.mem_of_getElem? (i := 15) rfl)
theorem v_160 : (Cond.fieldLink RX5 221 "MineHoist$Trip" "rest" "I") ∈ wsT := cV9_3 (List.mem_of_getElem? (i := 16) rfl)
theorem v_161 : (Cond.methodLink RX5 273 yJ4_charAt_5068e) ∈ wsT := cV9_3 (List.mem_of_getElem? (i := 17) rfl)
theorem v_162 : (Cond.instanceMethod yJ4_charAt_5068e) ∈ wsT := cV9_3 (List.mem_of_getElem? (i := 18) rfl)
theorem v_163 : (Cond.selects RJ4 yJ4_charAt_5068e yJ4_charAt_5068e) ∈ wsT := cV9_3 (List.mem_of_getElem? (i := 19) rfl)
theorem v_164 : (Cond.code yJ4_charAt_5068e cJ4_charAt_5068e 2 (some .char)) ∈ wsT := cV9_3 (List.mem_of_getElem? (i := 20) rfl)
theorem v_165 : (Cond.classLink RX5 194 "java/lang/IndexOutOfBoundsException") ∈ wsT := cV9_3 (List.mem_of_getElem? (i := 21) rfl)
theorem v_166 : (Cond.initialized "java/lang/IndexOutOfBoundsException") ∈ wsT := cV9_3 (List.mem_of_getElem? (i := 22) rfl)
theorem v_167 : (Cond.methodLink RL 114 yX5_lineAt) ∈ wsT := cV9_3 (List.mem_of_getElem? (i := 23) rfl)
theorem v_168 : (Cond.instanceMethod yX5_lineAt) ∈ wsT := cV9_3 (List.mem_of_getElem? (i := 24) rfl)
theorem v_169 : (Cond.selects RX5 yX5_lineAt yX5_lineAt) ∈ wsT := cV9_3 (List.mem_of_getElem? (i := 25) rfl)
theorem v_170 : (Cond.initialized RX5) ∈ wsT := cV9_3 (List.mem_of_getElem? (i := 26) rfl)
theorem v_171 : (Cond.code yX5_lineAt cX5_lineAt 2 (some .char)) ∈ wsT := cV9_3 (List.mem_of_getElem? (i := 27) rfl)
theorem v_172 : (Cond.classLink RL 31 "java/lang/IndexOutOfBoundsException") ∈ wsT := cV9_3 (List.mem_of_getElem? (i := 28) rfl)
theorem v_173 : (Cond.methodLink RJ1 9 yJ0_checkIndex_df160) ∈ wsT := cV9_3 (List.mem_of_getElem? (i := 29) rfl)
theorem v_174 : (Cond.methodLink RJ0 492 yJ0_isLatin1_aae02) ∈ wsT := cV9_3 (List.mem_of_getElem? (i := 30) rfl)
theorem v_175 : (Cond.instanceMethod yJ0_isLatin1_aae02) ∈ wsT := cV9_3 (List.mem_of_getElem? (i := 31) rfl)
theorem v_176 : (Cond.selects RJ0 yJ0_isLatin1_aae02 yJ0_isLatin1_aae02) ∈ wsT := cV9_3 (List.mem_of_getElem? (i := 32) rfl)
theorem v_177 : (Cond.code yJ0_isLatin1_aae02 cJ0_isLatin1_aae02 1 (some .boolean)) ∈ wsT := cV9_3 (List.mem_of_getElem? (i := 33) rfl)
theorem v_178 : (Cond.methodLink RJ0 495 yJ1_charAt_3b067) ∈ wsT := cV9_3 (List.mem_of_getElem? (i := 34) rfl)
theorem v_179 : (Cond.static yJ1_charAt_3b067) ∈ wsT := cV9_3 (List.mem_of_getElem? (i := 35) rfl)
theorem v_180 : (Cond.code yJ1_charAt_3b067 cJ1_charAt_3b067 2 (some .char)) ∈ wsT := cV9_3 (List.mem_of_getElem? (i := 36) rfl)
theorem v_181 : (Cond.methodLink RX0 1 objectInit) ∈ wsT := cV9_3 (List.mem_of_getElem? (i := 37) rfl)
theorem v_182 : (Cond.methodLink RX2 1 objectInit) ∈ wsT := cV9_3 (List.mem_of_getElem? (i := 38) rfl)
theorem v_183 : (Cond.methodLink RX3 3 objectInit) ∈ wsT := cV9_3 (List.mem_of_getElem? (i := 39) rfl)
theorem v_184 : (Cond.fieldLink RX3 15 "MineHoist$Trip" "request" "I") ∈ wsT := cV9_3 (List.mem_of_getElem? (i := 40) rfl)
theorem v_185 : (Cond.methodLink RX4 3 objectInit) ∈ wsT := cV9_3 (List.mem_of_getElem? (i := 41) rfl)
theorem v_186 : (Cond.classLink RX4 9 RX2) ∈ wsT := cV9_3 (List.mem_of_getElem? (i := 42) rfl)
theorem v_187 : (Cond.fieldLink RX4 11 "MineHoist$Waiting" "rows" "[LMineHoist$Request;") ∈ wsT := cV9_3 (List.mem_of_getElem? (i := 43) rfl)
theorem v_188 : (Cond.instantiable RX2 4) ∈ wsT := cV9_3 (List.mem_of_getElem? (i := 44) rfl)
theorem v_189 : (Cond.initialized RX2) ∈ wsT := cV9_3 (List.mem_of_getElem? (i := 45) rfl)
theorem v_190 : (Cond.code yX2_init cX2_init 1 none) ∈ wsT := cV9_3 (List.mem_of_getElem? (i := 46) rfl)
theorem v_191 : (Cond.instanceMethod yX2_init) ∈ wsT := cV9_3 (List.mem_of_getElem? (i := 47) rfl)
theorem kV9_3 : wsV9_3.all goodWord = true := by decide +kernel
theorem cV9_4 {w : Cond} (h : w ∈ wsV9_4) : w ∈ wsT := List.mem_append_right _ (List.mem_append_right _ (List.mem_append_right _ (List.mem_append_right _ (List.mem_append_right _ (List.mem_append_left _ (h))))))
theorem v_192 : (Cond.methodLink RX1 3 objectInit) ∈ wsT := cV9_4 (List.mem_of_getElem? (i := 0) rfl)
theorem v_193 : (Cond.classLink RX1 9 RX0) ∈ wsT := cV9_4 (List.mem_of_getElem? (i := 1) rfl)
theorem v_194 : (Cond.instantiable RX0 11) ∈ wsT := cV9_4 (List.mem_of_getElem? (i := 2) rfl)
theorem v_195 : (Cond.initialized RX0) ∈ wsT := cV9_4 (List.mem_of_getElem? (i := 3) rfl)
theorem v_196 : (Cond.code yX0_init cX0_init 1 none) ∈ wsT := cV9_4 (List.mem_of_getElem? (i := 4) rfl)
theorem v_197 : (Cond.instanceMethod yX0_init) ∈ wsT := cV9_4 (List.mem_of_getElem? (i := 5) rfl)
theorem v_198 : (Cond.fieldLink RX1 12 "MineHoist$Mine" "surface" "LMineHoist$Level;") ∈ wsT := cV9_4 (List.mem_of_getElem? (i := 6) rfl)
theorem v_199 : (Cond.fieldLink RX1 18 "MineHoist$Mine" "places" "[LMineHoist$Level;") ∈ wsT := cV9_4 (List.mem_of_getElem? (i := 7) rfl)
theorem v_200 : (Cond.classLink RX1 22 RX4) ∈ wsT := cV9_4 (List.mem_of_getElem? (i := 8) rfl)
theorem v_201 : (Cond.instantiable RX4 2) ∈ wsT := cV9_4 (List.mem_of_getElem? (i := 9) rfl)
theorem v_202 : (Cond.initialized RX4) ∈ wsT := cV9_4 (List.mem_of_getElem? (i := 10) rfl)
theorem v_203 : (Cond.code yX4_init cX4_init 2 none) ∈ wsT := cV9_4 (List.mem_of_getElem? (i := 11) rfl)
theorem v_204 : (Cond.methodLink RX1 24 yX4_init) ∈ wsT := cV9_4 (List.mem_of_getElem? (i := 12) rfl)
theorem v_205 : (Cond.instanceMethod yX4_init) ∈ wsT := cV9_4 (List.mem_of_getElem? (i := 13) rfl)
theorem v_206 : (Cond.fieldLink RX1 25 "MineHoist$Mine" "waiting" "LMineHoist$Waiting;") ∈ wsT := cV9_4 (List.mem_of_getElem? (i := 14) rfl)
theorem v_207 : (Cond.classLink RX1 29 RX3) ∈ wsT := cV9_4 (List.mem_of_getElem? (i := 15) rfl)
theorem v_208 : (Cond.instantiable RX3 5) ∈ wsT := cV9_4 (List.mem_of_getElem? (i := 16) rfl)
theorem v_209 : (Cond.code yX3_init cX3_init 1 none) ∈ wsT := cV9_4 (List.mem_of_getElem? (i := 17) rfl)
theorem v_210 : (Cond.instanceMethod yX3_init) ∈ wsT := cV9_4 (List.mem_of_getElem? (i := 18) rfl)
theorem v_211 : (Cond.fieldLink RX1 32 "MineHoist$Mine" "trip" "LMineHoist$Trip;") ∈ wsT := cV9_4 (List.mem_of_getElem? (i := 19) rfl)
theorem v_212 : (Cond.fieldLink RX1 36 "MineHoist$Mine" "fan" "I") ∈ wsT := cV9_4 (List.mem_of_getElem? (i := 20) rfl)
theorem v_213 : (Cond.fieldLink RX1 40 "MineHoist$Mine" "limit" "I") ∈ wsT := cV9_4 (List.mem_of_getElem? (i := 21) rfl)
theorem v_214 : (Cond.fieldLink RX1 43 "MineHoist$Mine" "speed" "I") ∈ wsT := cV9_4 (List.mem_of_getElem? (i := 22) rfl)
theorem v_215 : (Cond.fieldLink RX1 46 "MineHoist$Mine" "cage" "I") ∈ wsT := cV9_4 (List.mem_of_getElem? (i := 23) rfl)
theorem v_216 : (Cond.fieldLink RX1 49 "MineHoist$Mine" "requestDone" "I") ∈ wsT := cV9_4 (List.mem_of_getElem? (i := 24) rfl)
theorem v_217 : (Cond.methodLink RX5 1 objectInit) ∈ wsT := cV9_4 (List.mem_of_getElem? (i := 25) rfl)
theorem v_218 : (Cond.classLink RX5 7 RX1) ∈ wsT := cV9_4 (List.mem_of_getElem? (i := 26) rfl)
theorem v_219 : (Cond.instantiable RX1 16) ∈ wsT := cV9_4 (List.mem_of_getElem? (i := 27) rfl)
theorem v_220 : (Cond.initialized RX1) ∈ wsT := cV9_4 (List.mem_of_getElem? (i := 28) rfl)
theorem v_221 : (Cond.code yX1_init cX1_init 2 none) ∈ wsT := cV9_4 (List.mem_of_getElem? (i := 29) rfl)
theorem v_222 : (Cond.methodLink RX5 9 yX1_init) ∈ wsT := cV9_4 (List.mem_of_getElem? (i := 30) rfl)
theorem v_223 : (Cond.instanceMethod yX1_init) ∈ wsT := cV9_4 (List.mem_of_getElem? (i := 31) rfl)
theorem v_224 : (Cond.fieldLink RX5 16 "MineHoist" "trial" "LMineHoist$Mine;") ∈ wsT := cV9_4 (List.mem_of_getElem? (i := 32) rfl)
theorem v_225 : (Cond.classLink RX5 19 RJ4) ∈ wsT := cV9_4 (List.mem_of_getElem? (i := 33) rfl)
theorem v_226 : (Cond.instantiable RJ4 4) ∈ wsT := cV9_4 (List.mem_of_getElem? (i := 34) rfl)
theorem v_227 : (Cond.code yJ4_init_da8c8 cJ4_init_da8c8 1 none) ∈ wsT := cV9_4 (List.mem_of_getElem? (i := 35) rfl)
theorem v_228 : (Cond.methodLink RX5 21 yJ4_init_da8c8) ∈ wsT := cV9_4 (List.mem_of_getElem? (i := 36) rfl)
theorem v_229 : (Cond.instanceMethod yJ4_init_da8c8) ∈ wsT := cV9_4 (List.mem_of_getElem? (i := 37) rfl)
theorem v_230 : (Cond.methodLink RL 194 yL_at) ∈ wsT := cV9_4 (List.mem_of_getElem? (i := 38) rfl)
theorem v_231 : (Cond.static yL_at) ∈ wsT := cV9_4 (List.mem_of_getElem? (i := 39) rfl)
theorem v_232 : (Cond.initialized RL) ∈ wsT := cV9_4 (List.mem_of_getElem? (i := 40) rfl)
theorem v_233 : (Cond.code yL_at cL_at 2 (some .int)) ∈ wsT := cV9_4 (List.mem_of_getElem? (i := 41) rfl)
theorem v_234 : (Cond.methodLink RL 198 yL_some) ∈ wsT := cV9_4 (List.mem_of_getElem? (i := 42) rfl)
theorem v_235 : (Cond.code yL_some cL_some 3 (some .int)) ∈ wsT := cV9_4 (List.mem_of_getElem? (i := 43) rfl)
theorem v_236 : (Cond.static yL_some) ∈ wsT := cV9_4 (List.mem_of_getElem? (i := 44) rfl)
theorem v_237 : (Cond.methodLink RL 238 yL_isSound) ∈ wsT := cV9_4 (List.mem_of_getElem? (i := 45) rfl)
theorem v_238 : (Cond.code yL_isSound cL_isSound 12 (some .boolean)) ∈ wsT := cV9_4 (List.mem_of_getElem? (i := 46) rfl)
theorem v_239 : (Cond.static yL_isSound) ∈ wsT := cV9_4 (List.mem_of_getElem? (i := 47) rfl)
theorem kV9_4 : wsV9_4.all goodWord = true := by decide +kernel
theorem cV9_5 {w : Cond} (h : w ∈ wsV9_5) : w ∈ wsT := List.mem_append_right _ (List.mem_append_right _ (List.mem_append_right _ (List.mem_append_right _ (List.mem_append_right _ (List.mem_append_right _ (List.mem_append_left _ (h)))))))
theorem v_240 : (Cond.methodLink RL 202 yL_sum) ∈ wsT := cV9_5 (List.mem_of_getElem? (i := 0) rfl)
theorem v_241 : (Cond.code yL_sum cL_sum 4 (some .long)) ∈ wsT := cV9_5 (List.mem_of_getElem? (i := 1) rfl)
theorem v_242 : (Cond.static yL_sum) ∈ wsT := cV9_5 (List.mem_of_getElem? (i := 2) rfl)
theorem v_243 : (Cond.methodLink RL 162 yX5_levelCount) ∈ wsT := cV9_5 (List.mem_of_getElem? (i := 3) rfl)
theorem v_244 : (Cond.code yX5_levelCount cX5_levelCount 1 (some .int)) ∈ wsT := cV9_5 (List.mem_of_getElem? (i := 4) rfl)
theorem v_245 : (Cond.instanceMethod yX5_levelCount) ∈ wsT := cV9_5 (List.mem_of_getElem? (i := 5) rfl)
theorem v_246 : (Cond.selects RX5 yX5_levelCount yX5_levelCount) ∈ wsT := cV9_5 (List.mem_of_getElem? (i := 6) rfl)
theorem v_247 : (Cond.methodLink RL 213 yL_level) ∈ wsT := cV9_5 (List.mem_of_getElem? (i := 7) rfl)
theorem v_248 : (Cond.codeWith yL_level cL_level 6 (some .int) [(0, 9, 10, 13), (0, 9, 16, 15)]) ∈ wsT := cV9_5 (List.mem_of_getElem? (i := 8) rfl)
theorem v_249 : (Cond.static yL_level) ∈ wsT := cV9_5 (List.mem_of_getElem? (i := 9) rfl)
theorem v_250 : (Cond.methodLink RL 118 yX5_clock) ∈ wsT := cV9_5 (List.mem_of_getElem? (i := 10) rfl)
theorem v_251 : (Cond.code yX5_clock cX5_clock 1 (some .int)) ∈ wsT := cV9_5 (List.mem_of_getElem? (i := 11) rfl)
theorem v_252 : (Cond.instanceMethod yX5_clock) ∈ wsT := cV9_5 (List.mem_of_getElem? (i := 12) rfl)
theorem v_253 : (Cond.selects RX5 yX5_clock yX5_clock) ∈ wsT := cV9_5 (List.mem_of_getElem? (i := 13) rfl)
theorem v_254 : (Cond.methodLink RL 182 yL_sets) ∈ wsT := cV9_5 (List.mem_of_getElem? (i := 14) rfl)
theorem v_255 : (Cond.codeWith yL_sets cL_sets 4 (some .int) [(0, 33, 34, 13)]) ∈ wsT := cV9_5 (List.mem_of_getElem? (i := 15) rfl)
theorem v_256 : (Cond.static yL_sets) ∈ wsT := cV9_5 (List.mem_of_getElem? (i := 16) rfl)
theorem v_257 : (Cond.methodLink RL 219 yL_door) ∈ wsT := cV9_5 (List.mem_of_getElem? (i := 17) rfl)
theorem v_258 : (Cond.codeWith yL_door cL_door 4 (some .int) [(0, 14, 15, 31)]) ∈ wsT := cV9_5 (List.mem_of_getElem? (i := 18) rfl)
theorem v_259 : (Cond.static yL_door) ∈ wsT := cV9_5 (List.mem_of_getElem? (i := 19) rfl)
theorem v_260 : (Cond.methodLink RL 217 yL_hire) ∈ wsT := cV9_5 (List.mem_of_getElem? (i := 20) rfl)
theorem v_261 : (Cond.codeWith yL_hire cL_hire 3 (some .int) [(0, 5, 6, 13), (0, 5, 11, 15)]) ∈ wsT := cV9_5 (List.mem_of_getElem? (i := 21) rfl)
theorem v_262 : (Cond.static yL_hire) ∈ wsT := cV9_5 (List.mem_of_getElem? (i := 22) rfl)
theorem v_263 : (Cond.methodLink RL 236 yL_pass) ∈ wsT := cV9_5 (List.mem_of_getElem? (i := 23) rfl)
theorem v_264 : (Cond.codeWith yL_pass cL_pass 3 (some .int) [(0, 5, 6, 13), (0, 5, 11, 15)]) ∈ wsT := cV9_5 (List.mem_of_getElem? (i := 24) rfl)
theorem v_265 : (Cond.static yL_pass) ∈ wsT := cV9_5 (List.mem_of_getElem? (i := 25) rfl)
theorem v_266 : (Cond.methodLink RL 223 yL_blast) ∈ wsT := cV9_5 (List.mem_of_getElem? (i := 26) rfl)
theorem v_267 : (Cond.codeWith yL_blast cL_blast 4 (some .int) [(0, 6, 7, 31), (0, 6, 12, 13), (0, 6, 17, 15), (0, 6, 22, 84)]) ∈ wsT := cV9_5 (List.mem_of_getElem? (i := 27) rfl)
theorem v_268 : (Cond.static yL_blast) ∈ wsT := cV9_5 (List.mem_of_getElem? (i := 28) rfl)
theorem v_269 : (Cond.methodLink RL 232 yL_request) ∈ wsT := cV9_5 (List.mem_of_getElem? (i := 29) rfl)
theorem v_270 : (Cond.codeWith yL_request cL_request 5 (some .int) [(0, 35, 36, 31), (0, 35, 42, 13), (0, 35, 48, 84), (0, 35, 54, 15)]) ∈ wsT := cV9_5 (List.mem_of_getElem? (i := 30) rfl)
theorem v_271 : (Cond.static yL_request) ∈ wsT := cV9_5 (List.mem_of_getElem? (i := 31) rfl)
theorem v_272 : (Cond.methodLink RL 175 yL_asked) ∈ wsT := cV9_5 (List.mem_of_getElem? (i := 32) rfl)
theorem v_273 : (Cond.codeWith yL_asked cL_asked 4 (some .int) [(0, 30, 31, 67), (0, 30, 36, 31), (0, 30, 41, 84)]) ∈ wsT := cV9_5 (List.mem_of_getElem? (i := 33) rfl)
theorem v_274 : (Cond.static yL_asked) ∈ wsT := cV9_5 (List.mem_of_getElem? (i := 34) rfl)
theorem v_275 : (Cond.methodLink RL 138 yX5_waitingCount) ∈ wsT := cV9_5 (List.mem_of_getElem? (i := 35) rfl)
theorem v_276 : (Cond.code yX5_waitingCount cX5_waitingCount 1 (some .int)) ∈ wsT := cV9_5 (List.mem_of_getElem? (i := 36) rfl)
theorem v_277 : (Cond.instanceMethod yX5_waitingCount) ∈ wsT := cV9_5 (List.mem_of_getElem? (i := 37) rfl)
theorem v_278 : (Cond.selects RX5 yX5_waitingCount yX5_waitingCount) ∈ wsT := cV9_5 (List.mem_of_getElem? (i := 38) rfl)
theorem v_279 : (Cond.methodLink RL 242 yL_mean) ∈ wsT := cV9_5 (List.mem_of_getElem? (i := 39) rfl)
theorem v_280 : (Cond.codeWith yL_mean cL_mean 2 (some .double) [(0, 4, 5, 73)]) ∈ wsT := cV9_5 (List.mem_of_getElem? (i := 40) rfl)
theorem v_281 : (Cond.static yL_mean) ∈ wsT := cV9_5 (List.mem_of_getElem? (i := 41) rfl)
theorem v_282 : (Cond.constantDouble RL 75 (13830554455654793216)) ∈ wsT := cV9_5 (List.mem_of_getElem? (i := 42) rfl)
theorem v_283 : (Cond.methodLink RL 165 yL_of) ∈ wsT := cV9_5 (List.mem_of_getElem? (i := 43) rfl)
theorem v_284 : (Cond.codeWith yL_of cL_of 4 (some .int) [(0, 57, 128, 31), (58, 63, 128, 31), (64, 69, 128, 31), (70, 75, 128, 31), (76, 81, 128, 31), (82, 95, 128, 31), (96, 101, 128, 31), (102, 107, 128, 31), (108, 113, 128, 31), (114, 127, 128, 31), (0, 57, 133, 67), (58, 63, 133, 67), (64, 69, 133, 67), (70, 75, 133, 67), (76, 81, 133, 67), (82, 95, 133, 67), (96, 101, 133, 67), (102, 107, 133, 67), (108, 113, 133, 67), (114, 127, 133, 67)]) ∈ wsT := cV9_5 (List.mem_of_getElem? (i := 44) rfl)
theorem v_285 : (Cond.static yL_of) ∈ wsT := cV9_5 (List.mem_of_getElem? (i := 45) rfl)
theorem v_286 : (Cond.constant RL 201 (100000000)) ∈ wsT := cV9_5 (List.mem_of_getElem? (i := 46) rfl)
theorem v_287 : (Cond.methodLink RL 206 Lib.Math.max.name) ∈ wsT := cV9_5 (List.mem_of_getElem? (i := 47) rfl)
theorem kV9_5 : wsV9_5.all goodWord = true := by decide +kernel
theorem cV9_6 {w : Cond} (h : w ∈ wsV9_6) : w ∈ wsT := List.mem_append_right _ (List.mem_append_right _ (List.mem_append_right _ (List.mem_append_right _ (List.mem_append_right _ (List.mem_append_right _ (List.mem_append_right _ (List.mem_append_left _ (h))))))))
theorem v_288 : (Cond.methodLink RL 227 yJ0_charAt_5068e) ∈ wsT := cV9_6 (List.mem_of_getElem? (i := 0) rfl)
theorem v_289 : (Cond.instanceMethod yJ0_charAt_5068e) ∈ wsT := cV9_6 (List.mem_of_getElem? (i := 1) rfl)
theorem v_290 : (Cond.selects RJ0 yJ0_charAt_5068e yJ0_charAt_5068e) ∈ wsT := cV9_6 (List.mem_of_getElem? (i := 2) rfl)
theorem v_291 : (Cond.code yJ0_charAt_5068e cJ0_charAt_5068e 2 (some .char)) ∈ wsT := cV9_6 (List.mem_of_getElem? (i := 3) rfl)
theorem v_292 : (Cond.methodLink RL 123 yX5_gasTotal) ∈ wsT := cV9_6 (List.mem_of_getElem? (i := 4) rfl)
theorem v_293 : (Cond.code yX5_gasTotal cX5_gasTotal 1 (some .int)) ∈ wsT := cV9_6 (List.mem_of_getElem? (i := 5) rfl)
theorem v_294 : (Cond.instanceMethod yX5_gasTotal) ∈ wsT := cV9_6 (List.mem_of_getElem? (i := 6) rfl)
theorem v_295 : (Cond.selects RX5 yX5_gasTotal yX5_gasTotal) ∈ wsT := cV9_6 (List.mem_of_getElem? (i := 7) rfl)
theorem v_296 : (Cond.constant RL 211 (60000)) ∈ wsT := cV9_6 (List.mem_of_getElem? (i := 8) rfl)
theorem v_297 : (Cond.constant RL 212 (1200000)) ∈ wsT := cV9_6 (List.mem_of_getElem? (i := 9) rfl)
theorem v_298 : (Cond.methodLink RL 246 yL_line) ∈ wsT := cV9_6 (List.mem_of_getElem? (i := 10) rfl)
theorem v_299 : (Cond.static yL_line) ∈ wsT := cV9_6 (List.mem_of_getElem? (i := 11) rfl)
theorem v_300 : (Cond.codeWith yL_line cL_line 3 (some .char) [(0, 5, 6, 31)]) ∈ wsT := cV9_6 (List.mem_of_getElem? (i := 12) rfl)
theorem v_301 : (Cond.methodLink RL 250 yX5_writeTrip) ∈ wsT := cV9_6 (List.mem_of_getElem? (i := 13) rfl)
theorem v_302 : (Cond.instanceMethod yX5_writeTrip) ∈ wsT := cV9_6 (List.mem_of_getElem? (i := 14) rfl)
theorem v_303 : (Cond.selects RX5 yX5_writeTrip yX5_writeTrip) ∈ wsT := cV9_6 (List.mem_of_getElem? (i := 15) rfl)
theorem v_304 : (Cond.code yX5_writeTrip cX5_writeTrip 2 (some .int)) ∈ wsT := cV9_6 (List.mem_of_getElem? (i := 16) rfl)
theorem v_305 : (Cond.classLink RL 8 RX5) ∈ wsT := cV9_6 (List.mem_of_getElem? (i := 17) rfl)
theorem v_306 : (Cond.instantiable RX5 3) ∈ wsT := cV9_6 (List.mem_of_getElem? (i := 18) rfl)
theorem v_307 : (Cond.code yX5_init cX5_init 1 none) ∈ wsT := cV9_6 (List.mem_of_getElem? (i := 19) rfl)
theorem v_308 : (Cond.methodLink RL 193 yX5_init) ∈ wsT := cV9_6 (List.mem_of_getElem? (i := 20) rfl)
theorem v_309 : (Cond.instanceMethod yX5_init) ∈ wsT := cV9_6 (List.mem_of_getElem? (i := 21) rfl)
theorem kV9_6 : wsV9_6.all goodWord = true := by decide +kernel
theorem inT_J4 {c0 : Cond} : ∀ w ∈ u_ws RJ4 TJ4 4, w ∈ c0 :: wsT := fun w h => List.mem_cons_of_mem _ (List.mem_append_right _ (List.mem_append_right _ (List.mem_append_right _ (List.mem_append_right _ (List.mem_append_right _ (List.mem_append_right _ (List.mem_append_right _ (List.mem_append_right _ (List.mem_append_left _ (h))))))))))
theorem kV9_J4 : (wsC9_J4).all goodWord = true := by decide +kernel
theorem inT_X0 {c0 : Cond} : ∀ w ∈ u_ws RX0 TX0 11, w ∈ c0 :: wsT := fun w h => List.mem_cons_of_mem _ (List.mem_append_right _ (List.mem_append_right _ (List.mem_append_right _ (List.mem_append_right _ (List.mem_append_right _ (List.mem_append_right _ (List.mem_append_right _ (List.mem_append_right _ (List.mem_append_right _ (List.mem_append_left _ (h)))))))))))
theorem kV9_X0 : (wsC9_X0).all goodWord = true := by decide +kernel
theorem inT_X1 {c0 : Cond} : ∀ w ∈ u_ws RX1 TX1 16, w ∈ c0 :: wsT := fun w h => List.mem_cons_of_mem _ (List.mem_append_right _ (List.mem_append_right _ (List.mem_append_right _ (List.mem_append_right _ (List.mem_append_right _ (List.mem_append_right _ (List.mem_append_right _ (List.mem_append_right _ (List.mem_append_right _ (List.mem_append_right _ (List.mem_append_left _ (h))))))))))))
theorem kV9_X1 : (wsC9_X1).all goodWord = true := by decide +kernel
theorem inT_X2 {c0 : Cond} : ∀ w ∈ u_ws RX2 TX2 4, w ∈ c0 :: wsT := fun w h => List.mem_cons_of_mem _ (List.mem_append_right _ (List.mem_append_right _ (List.mem_append_right _ (List.mem_append_right _ (List.mem_append_right _ (List.mem_append_right _ (List.mem_append_right _ (List.mem_append_right _ (List.mem_append_right _ (List.mem_append_right _ (List.mem_append_right _ (List.mem_append_left _ (h)))))))))))))
theorem kV9_X2 : (wsC9_X2).all goodWord = true := by decide +kernel
theorem inT_X3 {c0 : Cond} : ∀ w ∈ u_ws RX3 TX3 5, w ∈ c0 :: wsT := fun w h => List.mem_cons_of_mem _ (List.mem_append_right _ (List.mem_append_right _ (List.mem_append_right _ (List.mem_append_right _ (List.mem_append_right _ (List.mem_append_right _ (List.mem_append_right _ (List.mem_append_right _ (List.mem_append_right _ (List.mem_append_right _ (List.mem_append_right _ (List.mem_append_right _ (List.mem_append_left _ (h))))))))))))))
theorem kV9_X3 : (wsC9_X3).all goodWord = true := by decide +kernel
theorem inT_X4 {c0 : Cond} : ∀ w ∈ u_ws RX4 TX4 2, w ∈ c0 :: wsT := fun w h => List.mem_cons_of_mem _ (List.mem_append_right _ (List.mem_append_right _ (List.mem_append_right _ (List.mem_append_right _ (List.mem_append_right _ (List.mem_append_right _ (List.mem_append_right _ (List.mem_append_right _ (List.mem_append_right _ (List.mem_append_right _ (List.mem_append_right _ (List.mem_append_right _ (List.mem_append_right _ (List.mem_append_left _ (h)))))))))))))))
theorem kV9_X4 : (wsC9_X4).all goodWord = true := by decide +kernel
theorem inT_X5 {c0 : Cond} : ∀ w ∈ u_ws RX5 TX5 3, w ∈ c0 :: wsT := fun w h => List.mem_cons_of_mem _ (List.mem_append_right _ (List.mem_append_right _ (List.mem_append_right _ (List.mem_append_right _ (List.mem_append_right _ (List.mem_append_right _ (List.mem_append_right _ (List.mem_append_right _ (List.mem_append_right _ (List.mem_append_right _ (List.mem_append_right _ (List.mem_append_right _ (List.mem_append_right _ (List.mem_append_right _ (h)))))))))))))))
theorem kV9_X5 : (wsC9_X5).all goodWord = true := by decide +kernel
theorem wsT_good : wsT.all goodWord = true := all_app wsU_good (all_app kV9_0 (all_app kV9_1 (all_app kV9_2 (all_app kV9_3 (all_app kV9_4 (all_app kV9_5 (all_app kV9_6 (all_app kV9_J4 (all_app kV9_X0 (all_app kV9_X1 (all_app kV9_X2 (all_app kV9_X3 (all_app kV9_X4 (kV9_X5))))))))))))))
theorem mT {c0 w : Cond} (h : w ∈ wsT) : w ∈ c0 :: wsT := List.mem_cons_of_mem _ h
theorem mUT {w : Cond} (h : w ∈ wsU) : w ∈ wsT := List.mem_append_left _ h
theorem gT9 {c0 : Cond} {L : List Cond} (hL : ∀ w ∈ L, w ∈ wsT) : GoodIn (c0 :: wsT) L := fun w hw => ⟨List.mem_cons_of_mem _ (hL w hw), good_of_word (List.all_eq_true.mp wsT_good w (hL w hw))⟩
theorem gC9 {c1 : Cond} {L : List Cond} (hL : ∀ w ∈ L, w ∈ wsT) (h1 : c1 ∈ wsT) : ∀ w ∈ L ++ (c1 :: wsT), w ∈ wsT := fun w hw => (List.mem_append.mp hw).elim (hL w) (fun h => (List.mem_cons.mp h).elim (fun e => e ▸ h1) id)
theorem m4_ {P : Cond → Prop} {a b c d : Cond} (h1 : P a) (h2 : P b) (h3 : P c) (h4 : P d) : ∀ w ∈ [a, b, c, d], P w := fun w hw => by
  rcases List.mem_cons.mp hw with e | hw
  · exact e ▸ h1
  rcases List.mem_cons.mp hw with e | hw
  · exact e ▸ h2
  rcases List.mem_cons.mp hw with e | hw
  · exact e ▸ h3
  rcases List.mem_cons.mp hw with e | hw
  · exact e ▸ h4
  cases hw
theorem m3_ {P : Cond → Prop} {a b c : Cond} (h1 : P a) (h2 : P b) (h3 : P c) : ∀ w ∈ [a, b, c], P w := fun w hw => by
  rcases List.mem_cons.mp hw with e | hw
  · exact e ▸ h1
  rcases List.mem_cons.mp hw with e | hw
  · exact e ▸ h2
  rcases List.mem_cons.mp hw with e | hw
  · exact e ▸ h3
  cases hw
theorem m5_ {P : Cond → Prop} {a b c d e9 : Cond} (h1 : P a) (h2 : P b) (h3 : P c) (h4 : P d) (h5 : P e9) : ∀ w ∈ [a, b, c, d, e9], P w := fun w hw => (List.mem_cons.mp hw).elim (fun e => e ▸ h1) (fun h => m4_ h2 h3 h4 h5 w h)
theorem m6_ {P : Cond → Prop} {a b c d e9 f9 : Cond} (h1 : P a) (h2 : P b) (h3 : P c) (h4 : P d) (h5 : P e9) (h6 : P f9) : ∀ w ∈ [a, b, c, d, e9, f9], P w := fun w hw => (List.mem_cons.mp hw).elim (fun e => e ▸ h1) (fun h => m5_ h2 h3 h4 h5 h6 w h)
theorem gV9 {c0 : Cond} {own : String} {idx mL : Nat} {y : MethodName} {b : ByteArray} {ret : Option FieldType} (h1 : Cond.methodLink own idx y ∈ wsT) (h2 : Cond.instanceMethod y ∈ wsT) (h3 : Cond.selects y.cls y y ∈ wsT) (h4 : Cond.initialized y.cls ∈ wsT) (h5 : Cond.code y b mL ret ∈ wsT) : GoodIn (c0 :: wsT) (wsV own idx y.cls y (Cond.code y b mL ret :: wsT)) := gT9 (gC9 (L := [.methodLink own idx y, .instanceMethod y, .selects y.cls y y, .initialized y.cls]) (m4_ h1 h2 h3 h4) h5)
theorem gS9 {c0 : Cond} {own : String} {idx mL : Nat} {y : MethodName} {b : ByteArray} {ret : Option FieldType} (h1 : Cond.methodLink own idx y ∈ wsT) (h2 : Cond.static y ∈ wsT) (h4 : Cond.initialized y.cls ∈ wsT) (h5 : Cond.code y b mL ret ∈ wsT) : GoodIn (c0 :: wsT) (va_wsS own idx y (Cond.code y b mL ret :: wsT)) := gT9 (gC9 (L := [.methodLink own idx y, .static y, .initialized y.cls]) (m3_ h1 h2 h4) h5)
theorem gU9 {c0 : Cond} {own Cr : String} {idx mL : Nat} {y : MethodName} {b : ByteArray} {ret : Option FieldType} (h1 : Cond.methodLink own idx y ∈ wsT) (h2 : Cond.sameMethod y.cls y.cls y.name y.desc ∈ wsT) (h3 : Cond.selects Cr y y ∈ wsT) (h4 : Cond.instanceMethod y ∈ wsT) (h5 : Cond.initialized y.cls ∈ wsT) (h6 : Cond.code y b mL ret ∈ wsT) : GoodIn (c0 :: wsT) (va_wsU own idx Cr y.cls y y (Cond.code y b mL ret :: wsT)) := gT9 (gC9 (L := [.methodLink own idx y, .sameMethod y.cls y.cls y.name y.desc, .selects Cr y y, .instanceMethod y, .initialized y.cls]) (m5_ h1 h2 h3 h4 h5) h6)
theorem gO9 {c0 : Cond} {own Cr : String} {idx mL : Nat} {o y : MethodName} {b : ByteArray} {ret : Option FieldType} (h1 : Cond.methodLink own idx o ∈ wsT) (h2 : Cond.sameMethod o.cls o.cls o.name o.desc ∈ wsT) (h7 : Cond.instanceMethod o ∈ wsT) (h3 : Cond.selects Cr o y ∈ wsT) (h4 : Cond.instanceMethod y ∈ wsT) (h5 : Cond.initialized y.cls ∈ wsT) (h6 : Cond.code y b mL ret ∈ wsT) : GoodIn (c0 :: wsT) (va_wsO own idx Cr o.cls o y (Cond.code y b mL ret :: wsT)) := gT9 (gC9 (L := [.methodLink own idx o, .sameMethod o.cls o.cls o.name o.desc, .instanceMethod o, .selects Cr o y, .instanceMethod y, .initialized y.cls]) (m6_ h1 h2 h7 h3 h4 h5) h6)
theorem gSU9 {c0 : Cond} {own : String} {idx mL : Nat} {y : MethodName} {b : ByteArray} {ret : Option FieldType} (h1 : Cond.methodLink own idx y ∈ wsT) (h2 : Cond.sameMethod y.cls y.cls y.name y.desc ∈ wsT) (h3 : Cond.superclass own y.cls ∈ wsT) (h4 : Cond.instanceMethod y ∈ wsT) (h5 : Cond.initialized y.cls ∈ wsT) (h6 : Cond.code y b mL ret ∈ wsT) : GoodIn (c0 :: wsT) (va_wsSU own idx y (Cond.code y b mL ret :: wsT)) := gT9 (gC9 (L := [.methodLink own idx y, .sameMethod y.cls y.cls y.name y.desc, .superclass own y.cls, .instanceMethod y, .initialized y.cls]) (m5_ h1 h2 h3 h4 h5) h6)
theorem gI9 {c0 : Cond} {mL : Nat} {y : MethodName} {b : ByteArray} {ret : Option FieldType} (h6 : Cond.code y b mL ret ∈ wsT) : GoodIn (c0 :: wsT) (Cond.code y b mL ret :: wsT) := gT9 (fun w hw => (List.mem_cons.mp hw).elim (fun e => e ▸ h6) id)
theorem hy_J0_charAt_5068e : hyOk yJ0_charAt_5068e 1 := by decide +kernel
theorem hy_J0_checkIndex_df160 : hyOk yJ0_checkIndex_df160 2 := by decide +kernel
theorem hy_J0_coder_7d493 : hyOk yJ0_coder_7d493 0 := by decide +kernel
theorem hy_J0_getBytes_840e7 : hyOk yJ0_getBytes_840e7 3 := by decide +kernel
theorem hy_J0_isLatin1_aae02 : hyOk yJ0_isLatin1_aae02 0 := by decide +kernel
theorem hy_J0_length_8abf5 : hyOk yJ0_length_8abf5 0 := by decide +kernel
theorem hy_J1_canEncode_fc78d : hyOk yJ1_canEncode_fc78d 1 := by decide +kernel
theorem hy_J1_charAt_3b067 : hyOk yJ1_charAt_3b067 2 := by decide +kernel
theorem hy_J3_checkIndex_8e157 : hyOk yJ3_checkIndex_8e157 3 := by decide +kernel
theorem hy_J4_append_15ec4 : hyOk yJ4_append_15ec4 1 := by decide +kernel
theorem hy_J4_append_bf812 : hyOk yJ4_append_bf812 1 := by decide +kernel
theorem hy_J4_append_cf468 : hyOk yJ4_append_cf468 1 := by decide +kernel
theorem hy_J4_charAt_5068e : hyOk yJ4_charAt_5068e 1 := by decide +kernel
theorem hy_J4_init_da8c8 : hyOk yJ4_init_da8c8 0 := by decide +kernel
theorem hy_J4_length_8abf5 : hyOk yJ4_length_8abf5 0 := by decide +kernel
theorem hy_J4_setLength_d00df : hyOk yJ4_setLength_d00df 1 := by decide +kernel
theorem hy_J5_append_3fe6f : hyOk yJ5_append_3fe6f 1 := by decide +kernel
theorem hy_J5_append_c97b9 : hyOk yJ5_append_c97b9 1 := by decide +kernel
theorem hy_J5_append_cf1ce : hyOk yJ5_append_cf1ce 1 := by decide +kernel
theorem hy_J5_charAt_5068e : hyOk yJ5_charAt_5068e 1 := by decide +kernel
theorem hy_J5_ensureCapacityInternal_d00df : hyOk yJ5_ensureCapacityInternal_d00df 1 := by decide +kernel
theorem hy_J5_inflateIfNeededFor_a7421 : hyOk yJ5_inflateIfNeededFor_a7421 1 := by decide +kernel
theorem hy_J5_init_d00df : hyOk yJ5_init_d00df 1 := by decide +kernel
theorem hy_J5_isLatin1_aae02 : hyOk yJ5_isLatin1_aae02 0 := by decide +kernel
theorem hy_J5_length_8abf5 : hyOk yJ5_length_8abf5 0 := by decide +kernel
theorem hy_J5_newCapacity_0f7a4 : hyOk yJ5_newCapacity_0f7a4 1 := by decide +kernel
theorem hy_J5_putStringAt_47b60 : hyOk yJ5_putStringAt_47b60 2 := by decide +kernel
theorem hy_J5_setLength_d00df : hyOk yJ5_setLength_d00df 1 := by decide +kernel
theorem hy_J6_getChars_ba4f3 : hyOk yJ6_getChars_ba4f3 3 := by decide +kernel
theorem hy_J6_stringSize_0f7a4 : hyOk yJ6_stringSize_0f7a4 1 := by decide +kernel
theorem hy_J7_copyOf_9075b : hyOk yJ7_copyOf_9075b 2 := by decide +kernel
theorem hy_J8_newLength_cabcc : hyOk yJ8_newLength_cabcc 3 := by decide +kernel
theorem hy_L_line : hyOk yL_line 2 := by decide +kernel
theorem hy_X0_init : hyOk yX0_init 0 := by decide +kernel
theorem hy_X1_init : hyOk yX1_init 0 := by decide +kernel
theorem hy_X2_init : hyOk yX2_init 0 := by decide +kernel
theorem hy_X3_init : hyOk yX3_init 0 := by decide +kernel
theorem hy_X3_word : hyOk yX3_word 0 := by decide +kernel
theorem hy_X4_init : hyOk yX4_init 0 := by decide +kernel
theorem hy_X5_init : hyOk yX5_init 0 := by decide +kernel
theorem hy_X5_lineAt : hyOk yX5_lineAt 1 := by decide +kernel
theorem hy_X5_writeTrip : hyOk yX5_writeTrip 0 := by decide +kernel
theorem nw_J4 : ∀ j, j < 4 → defaultValue (tyJ4 j) = vp_V [.null, .int (0), .int (0), .int (0)] j := fun j hj => match j, hj with
  | 0, _ => rfl
  | 1, _ => rfl
  | 2, _ => rfl
  | 3, _ => rfl
  | n + 4, h => absurd h (by omega)
theorem nw_X0 : ∀ j, j < 11 → defaultValue (tyX0 j) = vp_V [.int (0), .int (0), .int (0), .int (0), .int (0), .int (0), .int (0), .int (0), .int (0), .int (0), .int (0)] j := fun j hj => match j, hj with
  | 0, _ => rfl
  | 1, _ => rfl
  | 2, _ => rfl
  | 3, _ => rfl
  | 4, _ => rfl
  | 5, _ => rfl
  | 6, _ => rfl
  | 7, _ => rfl
  | 8, _ => rfl
  | 9, _ => rfl
  | 10, _ => rfl
  | n + 11, h => absurd h (by omega)
theorem nw_X1 : ∀ j, j < 16 → defaultValue (tyX1 j) = vp_V [.null, .null, .null, .null, .int (0), .int (0), .int (0), .int (0), .int (0), .int (0), .int (0), .int (0), .int (0), .int (0), .int (0), .int (0)] j := fun j hj => match j, hj with
  | 0, _ => rfl
  | 1, _ => rfl
  | 2, _ => rfl
  | 3, _ => rfl
  | 4, _ => rfl
  | 5, _ => rfl
  | 6, _ => rfl
  | 7, _ => rfl
  | 8, _ => rfl
  | 9, _ => rfl
  | 10, _ => rfl
  | 11, _ => rfl
  | 12, _ => rfl
  | 13, _ => rfl
  | 14, _ => rfl
  | 15, _ => rfl
  | n + 16, h => absurd h (by omega)
theorem nw_X2 : ∀ j, j < 4 → defaultValue (tyX2 j) = vp_V [.int (0), .int (0), .int (0), .int (0)] j := fun j hj => match j, hj with
  | 0, _ => rfl
  | 1, _ => rfl
  | 2, _ => rfl
  | 3, _ => rfl
  | n + 4, h => absurd h (by omega)
theorem nw_X3 : ∀ j, j < 5 → defaultValue (tyX3 j) = vp_V [.int (0), .int (0), .int (0), .int (0), .int (0)] j := fun j hj => match j, hj with
  | 0, _ => rfl
  | 1, _ => rfl
  | 2, _ => rfl
  | 3, _ => rfl
  | 4, _ => rfl
  | n + 5, h => absurd h (by omega)
theorem nw_X4 : ∀ j, j < 2 → defaultValue (tyX4 j) = vp_V [.null, .int (0)] j := fun j hj => match j, hj with
  | 0, _ => rfl
  | 1, _ => rfl
  | n + 2, h => absurd h (by omega)
theorem nw_X5 : ∀ j, j < 3 → defaultValue (tyX5 j) = vp_V [.null, .null, .null] j := fun j hj => match j, hj with
  | 0, _ => rfl
  | 1, _ => rfl
  | 2, _ => rfl
  | n + 3, h => absurd h (by omega)
