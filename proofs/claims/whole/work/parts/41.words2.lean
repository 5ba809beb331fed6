/-! TEXT: words -/
def wsV9_0 : List Cond := [.fieldLink RJ5 18 "java/lang/String" "COMPACT_STRINGS" "Z", .fieldLink RJ5 22 "java/lang/AbstractStringBuilder" "coder" "B", .fieldLink RJ5 79 "java/lang/AbstractStringBuilder" "count" "I", .fieldLink RJ5 15 "java/lang/AbstractStringBuilder" "value" "[B", .methodLink RJ4 343 yJ5_length_8abf5, .sameMethod RJ5 RJ5 "length" "()I", .superclass RJ4 RJ5, .instanceMethod yJ5_length_8abf5, .initialized RJ5, .code yJ5_length_8abf5 cJ5_length_8abf5 1 (some .int), .fieldLink RJ6 83 "java/lang/Integer" "DigitOnes" "[B", .fieldLink RJ6 87 "java/lang/Integer" "DigitTens" "[B", .methodLink RJ8 194 Lib.Math.max.name, .static Lib.Math.max.name, .initialized "java/lang/Math", .code Lib.Math.max.name Lib.Math.max.code 2 (some .int), .constant RJ8 200 (2147483639), .methodLink RJ5 114 yJ8_newLength_cabcc, .static yJ8_newLength_cabcc, .initialized RJ8, .code yJ8_newLength_cabcc cJ8_newLength_cabcc 4 (some .int), .constant RJ5 39 (2147483647), .arrayClass .byte, .methodLink RJ7 304 Lib.Math.min.name, .static Lib.Math.min.name, .code Lib.Math.min.name Lib.Math.min.code 2 (some .int), .methodLink RJ7 150 arraycopyName, .native arraycopyName, .static arraycopyName, .initialized "java/lang/System", .methodLink RJ5 104 yJ5_newCapacity_0f7a4, .sameMethod RJ5 RJ5 "newCapacity" "(I)I", .selects RJ4 yJ5_newCapacity_0f7a4 yJ5_newCapacity_0f7a4, .instanceMethod yJ5_newCapacity_0f7a4, .code yJ5_newCapacity_0f7a4 cJ5_newCapacity_0f7a4 6 (some .int), .methodLink RJ5 108 yJ7_copyOf_9075b, .static yJ7_copyOf_9075b, .initialized RJ7, .code yJ7_copyOf_9075b cJ7_copyOf_9075b 3 (some (.array .byte)), .methodLink RJ5 100 yJ5_ensureCapacityInternal_d00df, .sameMethod RJ5 RJ5 "ensureCapacityInternal" "(I)V", .selects RJ4 yJ5_ensureCapacityInternal_d00df yJ5_ensureCapacityInternal_d00df, .instanceMethod yJ5_ensureCapacityInternal_d00df, .code yJ5_ensureCapacityInternal_d00df cJ5_ensureCapacityInternal_d00df 3 none, .methodLink RJ5 83 yJ5_isLatin1_aae02, .sameMethod RJ5 RJ5 "isLatin1" "()Z", .selects RJ4 yJ5_isLatin1_aae02 yJ5_isLatin1_aae02, .instanceMethod yJ5_isLatin1_aae02]
def wsV9_1 : List Cond := [.code yJ5_isLatin1_aae02 cJ5_isLatin1_aae02 1 (some .boolean), .methodLink RJ5 191 yJ1_canEncode_fc78d, .static yJ1_canEncode_fc78d, .initialized RJ1, .code yJ1_canEncode_fc78d cJ1_canEncode_fc78d 1 (some .boolean), .fieldLink RJ0 38 "java/lang/String" "COMPACT_STRINGS" "Z", .fieldLink RJ0 15 "java/lang/String" "coder" "B", .fieldLink RJ0 9 "java/lang/String" "value" "[B", .methodLink RJ0 335 yJ0_coder_7d493, .instanceMethod yJ0_coder_7d493, .selects RJ0 yJ0_coder_7d493 yJ0_coder_7d493, .initialized RJ0, .code yJ0_coder_7d493 cJ0_coder_7d493 1 (some .byte), .methodLink RJ0 212 arraycopyName, .methodLink RJ5 40 yJ0_coder_7d493, .methodLink RJ5 397 yJ5_inflateIfNeededFor_a7421, .sameMethod RJ5 RJ5 "inflateIfNeededFor" "(Ljava/lang/String;)V", .selects RJ4 yJ5_inflateIfNeededFor_a7421 yJ5_inflateIfNeededFor_a7421, .instanceMethod yJ5_inflateIfNeededFor_a7421, .code yJ5_inflateIfNeededFor_a7421 cJ5_inflateIfNeededFor_a7421 2 none, .methodLink RJ5 399 yJ0_getBytes_840e7, .instanceMethod yJ0_getBytes_840e7, .selects RJ0 yJ0_getBytes_840e7 yJ0_getBytes_840e7, .code yJ0_getBytes_840e7 cJ0_getBytes_840e7 4 none, .methodLink RJ5 32 yJ0_length_8abf5, .instanceMethod yJ0_length_8abf5, .selects RJ0 yJ0_length_8abf5 yJ0_length_8abf5, .code yJ0_length_8abf5 cJ0_length_8abf5 1 (some .int), .methodLink RJ5 208 yJ5_putStringAt_47b60, .sameMethod RJ5 RJ5 "putStringAt" "(ILjava/lang/String;)V", .selects RJ4 yJ5_putStringAt_47b60 yJ5_putStringAt_47b60, .instanceMethod yJ5_putStringAt_47b60, .code yJ5_putStringAt_47b60 cJ5_putStringAt_47b60 3 none, .methodLink RJ5 245 yJ6_stringSize_0f7a4, .static yJ6_stringSize_0f7a4, .initialized RJ6, .code yJ6_stringSize_0f7a4 cJ6_stringSize_0f7a4 4 (some .int), .methodLink RJ5 248 yJ6_getChars_ba4f3, .static yJ6_getChars_ba4f3, .code yJ6_getChars_ba4f3 cJ6_getChars_ba4f3 7 (some .int), .methodLink RJ4 50 yJ5_append_3fe6f, .sameMethod RJ5 RJ5 "append" "(C)Ljava/lang/AbstractStringBuilder;", .instanceMethod yJ5_append_3fe6f, .code yJ5_append_3fe6f cJ5_append_3fe6f 2 (some (.object "java/lang/AbstractStringBuilder")), .methodLink RJ4 29 yJ5_append_cf1ce, .sameMethod RJ5 RJ5 "append" "(Ljava/lang/String;)Ljava/lang/AbstractStringBuilder;", .instanceMethod yJ5_append_cf1ce, .code yJ5_append_cf1ce cJ5_append_cf1ce 3 (some (.object "java/lang/AbstractStringBuilder"))]
def wsV9_2 : List Cond := [.methodLink RJ4 53 yJ5_append_c97b9, .sameMethod RJ5 RJ5 "append" "(I)Ljava/lang/AbstractStringBuilder;", .instanceMethod yJ5_append_c97b9, .code yJ5_append_c97b9 cJ5_append_c97b9 4 (some (.object "java/lang/AbstractStringBuilder")), .fieldLink RJ5 73 "java/lang/AbstractStringBuilder" "maybeLatin1" "Z", .methodLink RJ4 333 yJ5_setLength_d00df, .sameMethod RJ5 RJ5 "setLength" "(I)V", .instanceMethod yJ5_setLength_d00df, .code yJ5_setLength_d00df cJ5_setLength_d00df 2 none, .fieldLink RJ0 1053 "jdk/internal/util/Preconditions" "SIOOBE_FORMATTER" "Ljava/util/function/BiFunction;", .methodLink RJ0 1059 yJ3_checkIndex_8e157, .static yJ3_checkIndex_8e157, .initialized RJ3, .code yJ3_checkIndex_8e157 cJ3_checkIndex_8e157 3 (some .int), .methodLink RJ5 138 Lib.Math.min.name, .methodLink RJ5 144 yJ0_checkIndex_df160, .static yJ0_checkIndex_df160, .code yJ0_checkIndex_df160 cJ0_checkIndex_df160 2 none, .methodLink RJ4 329 yJ5_charAt_5068e, .sameMethod RJ5 RJ5 "charAt" "(I)C", .instanceMethod yJ5_charAt_5068e, .code yJ5_charAt_5068e cJ5_charAt_5068e 5 (some .char), .methodLink RJ5 3 objectInit, .instanceMethod objectInit, .code objectInit ⟨#[0xb1]⟩ 1 none, .code yJ5_init_d00df cJ5_init_d00df 2 none, .methodLink RJ4 1 yJ5_init_d00df, .instanceMethod yJ5_init_d00df, .methodLink RJ7 343 yJ7_checkLength_df160, .static yJ7_checkLength_df160, .code yJ7_checkLength_df160 cJ7_checkLength_df160 2 none, .methodLink RJ7 310 ⟨"[B", "clone", "()Ljava/lang/Object;"⟩, .sameMethod "[B" "java/lang/Object" "clone" "()Ljava/lang/Object;", .native ⟨"java/lang/Object", "clone", "()Ljava/lang/Object;"⟩, .instanceMethod ⟨"java/lang/Object", "clone", "()Ljava/lang/Object;"⟩, .selects "[B" ⟨"[B", "clone", "()Ljava/lang/Object;"⟩ ⟨"java/lang/Object", "clone", "()Ljava/lang/Object;"⟩, .classLink RJ7 311 "[B", .methodLink RJ7 339 yJ7_copyOfRangeByte_39247, .static yJ7_copyOfRangeByte_39247, .code yJ7_copyOfRangeByte_39247 cJ7_copyOfRangeByte_39247 5 (some (.array .byte)), .methodLink RJ0 1 objectInit, .methodLink RJ0 552 yJ5_getValue_6d5f1, .sameMethod RJ5 RJ5 "getValue" "()[B", .selects RJ4 yJ5_getValue_6d5f1 yJ5_getValue_6d5f1, .instanceMethod yJ5_getValue_6d5f1, .code yJ5_getValue_6d5f1 cJ5_getValue_6d5f1 1 (some (.array .byte)), .methodLink RJ0 549 yJ5_length_8abf5, .selects RJ4 yJ5_length_8abf5 yJ4_length_8abf5]
def wsV9_3 : List Cond := [.instanceMethod yJ4_length_8abf5, .initialized RJ4, .code yJ4_length_8abf5 cJ4_length_8abf5 1 (some .int), .methodLink RJ0 1047 yJ5_isLatin1_aae02, .methodLink RJ0 54 yJ7_copyOfRange_39247, .static yJ7_copyOfRange_39247, .code yJ7_copyOfRange_39247 cJ7_copyOfRange_39247 3 (some (.array .byte)), .code yJ0_init_db425 cJ0_init_db425 5 none, .methodLink RJ0 489 yJ0_init_db425, .instanceMethod yJ0_init_db425, .classLink RJ4 18 RJ0, .instantiable RJ0 4, .code yJ0_init_81219 cJ0_init_81219 2 none, .methodLink RJ4 137 yJ0_init_81219, .instanceMethod yJ0_init_81219, .methodLink RJ1 9 yJ0_checkIndex_df160, .methodLink RJ0 492 yJ0_isLatin1_aae02, .instanceMethod yJ0_isLatin1_aae02, .selects RJ0 yJ0_isLatin1_aae02 yJ0_isLatin1_aae02, .code yJ0_isLatin1_aae02 cJ0_isLatin1_aae02 1 (some .boolean), .methodLink RJ0 495 yJ1_charAt_3b067, .static yJ1_charAt_3b067, .code yJ1_charAt_3b067 cJ1_charAt_3b067 2 (some .char), .fieldLink RX3 9 "MineHoist$Trip" "kind" "C", .fieldLink RX5 10 "MineHoist" "mine" "LMineHoist$Mine;", .fieldLink RX5 146 "MineHoist$Mine" "trip" "LMineHoist$Trip;", .fieldLink RX5 22 "MineHoist" "line" "Ljava/lang/StringBuilder;", .methodLink RX5 243 yJ4_setLength_d00df, .instanceMethod yJ4_setLength_d00df, .selects RJ4 yJ4_setLength_d00df yJ4_setLength_d00df, .code yJ4_setLength_d00df cJ4_setLength_d00df 2 none, .methodLink RX5 246 yX3_word, .instanceMethod yX3_word, .selects RX3 yX3_word yX3_word, .initialized RX3, .code yX3_word cX3_word 1 (some (.object "java/lang/String")), .methodLink RX5 250 yJ4_append_15ec4, .instanceMethod yJ4_append_15ec4, .selects RJ4 yJ4_append_15ec4 yJ4_append_15ec4, .code yJ4_append_15ec4 cJ4_append_15ec4 2 (some (.object "java/lang/StringBuilder")), .methodLink RX5 254 yX3_isOn, .instanceMethod yX3_isOn, .selects RX3 yX3_isOn yX3_isOn, .code yX3_isOn cX3_isOn 1 (some .boolean), .methodLink RX5 268 yJ4_length_8abf5, .selects RJ4 yJ4_length_8abf5 yJ4_length_8abf5, .methodLink RX5 258 yJ4_append_cf468, .instanceMethod yJ4_append_cf468]
def wsV9_4 : List Cond := [.selects RJ4 yJ4_append_cf468 yJ4_append_cf468, .code yJ4_append_cf468 cJ4_append_cf468 2 (some (.object "java/lang/StringBuilder")), .fieldLink RX5 218 "MineHoist$Trip" "load" "I", .methodLink RX5 261 yJ4_append_bf812, .instanceMethod yJ4_append_bf812, .selects RJ4 yJ4_append_bf812 yJ4_append_bf812, .code yJ4_append_bf812 cJ4_append_bf812 2 (some (.object "java/lang/StringBuilder")), .fieldLink RX5 215 "MineHoist$Trip" "level" "I", .fieldLink RX5 221 "MineHoist$Trip" "rest" "I", .fieldLink RX6 48 "MineHoistModel" "thrown" "I", .classLink RX6 153 RJ4, .instantiable RJ4 4, .code yJ4_init_da8c8 cJ4_init_da8c8 1 none, .methodLink RX6 155 yJ4_init_da8c8, .instanceMethod yJ4_init_da8c8, .fieldLink RX6 36 "MineHoistModel" "s" "[I", .methodLink RX6 158 yJ4_append_15ec4, .methodLink RX6 170 yJ4_append_cf468, .methodLink RX6 173 yJ4_append_bf812, .methodLink RX6 179 yJ4_toString_0e30d, .instanceMethod yJ4_toString_0e30d, .selects RJ4 yJ4_toString_0e30d yJ4_toString_0e30d, .code yJ4_toString_0e30d cJ4_toString_0e30d 1 (some (.object "java/lang/String")), .fieldLink RX6 44 "MineHoistModel" "line" "Ljava/lang/String;", .methodLink RX6 183 yJ0_length_8abf5, .methodLink RX6 54 yX6_in, .static yX6_in, .initialized RX6, .code yX6_in cX6_in 3 (some .boolean), .methodLink RX6 189 yJ0_charAt_5068e, .instanceMethod yJ0_charAt_5068e, .selects RJ0 yJ0_charAt_5068e yJ0_charAt_5068e, .code yJ0_charAt_5068e cJ0_charAt_5068e 2 (some .char), .methodLink RX5 273 yJ4_charAt_5068e, .instanceMethod yJ4_charAt_5068e, .selects RJ4 yJ4_charAt_5068e yJ4_charAt_5068e, .code yJ4_charAt_5068e cJ4_charAt_5068e 2 (some .char), .classLink RX5 194 "java/lang/IndexOutOfBoundsException", .initialized "java/lang/IndexOutOfBoundsException", .methodLink RL 112 yX5_lineAt, .instanceMethod yX5_lineAt, .selects RX5 yX5_lineAt yX5_lineAt, .initialized RX5, .code yX5_lineAt cX5_lineAt 2 (some .char), .classLink RL 21 "java/lang/IndexOutOfBoundsException", .methodLink RX0 1 objectInit, .methodLink RX2 1 objectInit, .methodLink RX3 3 objectInit]
def wsV9_5 : List Cond := [.fieldLink RX3 15 "MineHoist$Trip" "request" "I", .methodLink RX4 3 objectInit, .classLink RX4 9 RX2, .fieldLink RX4 11 "MineHoist$Waiting" "rows" "[LMineHoist$Request;", .instantiable RX2 4, .initialized RX2, .code yX2_init cX2_init 1 none, .instanceMethod yX2_init, .methodLink RX1 3 objectInit, .classLink RX1 9 RX0, .instantiable RX0 11, .initialized RX0, .code yX0_init cX0_init 1 none, .instanceMethod yX0_init, .fieldLink RX1 12 "MineHoist$Mine" "surface" "LMineHoist$Level;", .fieldLink RX1 18 "MineHoist$Mine" "places" "[LMineHoist$Level;", .classLink RX1 22 RX4, .instantiable RX4 2, .initialized RX4, .code yX4_init cX4_init 2 none, .methodLink RX1 24 yX4_init, .instanceMethod yX4_init, .fieldLink RX1 25 "MineHoist$Mine" "waiting" "LMineHoist$Waiting;", .classLink RX1 29 RX3, .instantiable RX3 5, .code yX3_init cX3_init 1 none, .instanceMethod yX3_init, .fieldLink RX1 32 "MineHoist$Mine" "trip" "LMineHoist$Trip;", .fieldLink RX1 36 "MineHoist$Mine" "fan" "I", .fieldLink RX1 40 "MineHoist$Mine" "limit" "I", .fieldLink RX1 43 "MineHoist$Mine" "speed" "I", .fieldLink RX1 46 "MineHoist$Mine" "cage" "I", .fieldLink RX1 49 "MineHoist$Mine" "requestDone" "I", .methodLink RX5 1 objectInit, .classLink RX5 7 RX1, .instantiable RX1 16, .initialized RX1, .code yX1_init cX1_init 2 none, .methodLink RX5 9 yX1_init, .instanceMethod yX1_init, .fieldLink RX5 16 "MineHoist" "trial" "LMineHoist$Mine;", .classLink RX5 19 RJ4, .methodLink RX5 21 yJ4_init_da8c8, .methodLink RX6 1 objectInit, .arrayClass .int, .fieldLink RX6 9 "MineHoistModel" "depths" "[I", .fieldLink RX6 13 "MineHoistModel" "sizes" "[I", .fieldLink RX6 16 "MineHoistModel" "widths" "[I"]
def wsV9_6 : List Cond := [.fieldLink RX6 19 "MineHoistModel" "inflows" "[I", .arrayClass .boolean, .fieldLink RX6 22 "MineHoistModel" "isOpen" "[Z", .fieldLink RX6 26 "MineHoistModel" "fan" "I", .fieldLink RX6 30 "MineHoistModel" "limit" "I", .fieldLink RX6 33 "MineHoistModel" "speed" "I", .fieldLink RX6 39 "MineHoistModel" "kept" "[I", .methodLink RL 120 yL_addLevel, .static yL_addLevel, .initialized RL, .codeWith yL_addLevel cL_addLevel 7 (some .int) [(0, 14, 17, 13), (0, 14, 21, 15)], .methodLink RL 125 yX6_addLevel, .instanceMethod yX6_addLevel, .selects RX6 yX6_addLevel yX6_addLevel, .code yX6_addLevel cX6_addLevel 6 (some .int), .methodLink RL 126 yX6_thrown, .instanceMethod yX6_thrown, .selects RX6 yX6_thrown yX6_thrown, .code yX6_thrown cX6_thrown 1 (some .int), .methodLink RL 129 yX5_levelCount, .instanceMethod yX5_levelCount, .selects RX5 yX5_levelCount yX5_levelCount, .code yX5_levelCount cX5_levelCount 1 (some .int), .methodLink RL 132 yX6_levelCount, .instanceMethod yX6_levelCount, .selects RX6 yX6_levelCount yX6_levelCount, .code yX6_levelCount cX6_levelCount 1 (some .int), .methodLink RL 133 yL_depthOf, .static yL_depthOf, .codeWith yL_depthOf cL_depthOf 4 (some .int) [(0, 9, 12, 21)], .methodLink RL 136 yX6_depthOf, .instanceMethod yX6_depthOf, .selects RX6 yX6_depthOf yX6_depthOf, .code yX6_depthOf cX6_depthOf 2 (some .int), .methodLink RL 137 yL_setFan, .static yL_setFan, .codeWith yL_setFan cL_setFan 4 (some .int) [(0, 9, 12, 13)], .methodLink RL 139 yX6_setFan, .instanceMethod yX6_setFan, .selects RX6 yX6_setFan yX6_setFan, .code yX6_setFan cX6_setFan 3 (some .int), .methodLink RL 140 yL_setDoor, .static yL_setDoor, .codeWith yL_setDoor cL_setDoor 5 (some .int) [(0, 17, 20, 21)], .methodLink RL 143 yX6_setDoor, .instanceMethod yX6_setDoor, .selects RX6 yX6_setDoor yX6_setDoor, .code yX6_setDoor cX6_setDoor 4 (some .boolean)]
def wsV9_7 : List Cond := [.methodLink RL 144 yL_airOf, .static yL_airOf, .codeWith yL_airOf cL_airOf 4 (some .int) [(0, 9, 12, 21)], .methodLink RL 146 yX6_airOf, .instanceMethod yX6_airOf, .selects RX6 yX6_airOf yX6_airOf, .code yX6_airOf cX6_airOf 2 (some .int), .methodLink RL 147 yL_airByPaths, .static yL_airByPaths, .codeWith yL_airByPaths cL_airByPaths 4 (some .int) [(0, 9, 12, 21)], .methodLink RL 149 yX6_airByPaths, .instanceMethod yX6_airByPaths, .selects RX6 yX6_airByPaths yX6_airByPaths, .code yX6_airByPaths cX6_airByPaths 2 (some .int), .methodLink RL 150 yL_setLimit, .static yL_setLimit, .codeWith yL_setLimit cL_setLimit 4 (some .int) [(0, 9, 12, 13)], .methodLink RL 152 yX6_setLimit, .instanceMethod yX6_setLimit, .selects RX6 yX6_setLimit yX6_setLimit, .code yX6_setLimit cX6_setLimit 3 (some .int), .methodLink RL 153 yL_gasOf, .static yL_gasOf, .codeWith yL_gasOf cL_gasOf 4 (some .int) [(0, 9, 12, 21)], .methodLink RL 155 yX6_gasOf, .instanceMethod yX6_gasOf, .selects RX6 yX6_gasOf yX6_gasOf, .code yX6_gasOf cX6_gasOf 2 (some .int), .methodLink RL 156 yL_gasShare, .static yL_gasShare, .codeWith yL_gasShare cL_gasShare 4 (some .int) [(0, 9, 12, 21)], .methodLink RL 158 yX6_gasShare, .instanceMethod yX6_gasShare, .selects RX6 yX6_gasShare yX6_gasShare, .code yX6_gasShare cX6_gasShare 2 (some .int), .methodLink RL 159 yL_isAlarm, .static yL_isAlarm, .codeWith yL_isAlarm cL_isAlarm 4 (some .int) [(0, 16, 19, 21)], .methodLink RL 161 yX6_isAlarm, .instanceMethod yX6_isAlarm, .selects RX6 yX6_isAlarm yX6_isAlarm, .code yX6_isAlarm cX6_isAlarm 2 (some .boolean), .methodLink RL 162 yX5_gasTotal, .instanceMethod yX5_gasTotal, .selects RX5 yX5_gasTotal yX5_gasTotal, .code yX5_gasTotal cX5_gasTotal 1 (some .int), .methodLink RL 165 yX6_gasTotal, .instanceMethod yX6_gasTotal]
def wsV9_8 : List Cond := [.selects RX6 yX6_gasTotal yX6_gasTotal, .code yX6_gasTotal cX6_gasTotal 1 (some .int), .methodLink RL 166 yX5_ventedTotal, .instanceMethod yX5_ventedTotal, .selects RX5 yX5_ventedTotal yX5_ventedTotal, .code yX5_ventedTotal cX5_ventedTotal 1 (some .int), .methodLink RL 169 yX6_ventedTotal, .instanceMethod yX6_ventedTotal, .selects RX6 yX6_ventedTotal yX6_ventedTotal, .code yX6_ventedTotal cX6_ventedTotal 1 (some .int), .methodLink RL 170 yL_meanShare, .static yL_meanShare, .codeWith yL_meanShare cL_meanShare 3 (some .int) [(0, 7, 10, 53)], .methodLink RL 173 yX6_meanShare, .instanceMethod yX6_meanShare, .selects RX6 yX6_meanShare yX6_meanShare, .code yX6_meanShare cX6_meanShare 3 (some .double), .methodLink RL 174 yL_minutesToAlarm, .static yL_minutesToAlarm, .codeWith yL_minutesToAlarm cL_minutesToAlarm 4 (some .int) [(0, 9, 12, 21), (0, 9, 15, 58)], .methodLink RL 176 yX6_minutesToAlarm, .instanceMethod yX6_minutesToAlarm, .selects RX6 yX6_minutesToAlarm yX6_minutesToAlarm, .code yX6_minutesToAlarm cX6_minutesToAlarm 4 (some .int), .methodLink RL 177 yL_hire, .static yL_hire, .codeWith yL_hire cL_hire 4 (some .int) [(0, 9, 12, 13), (0, 9, 15, 15)], .methodLink RL 179 yX6_hire, .instanceMethod yX6_hire, .selects RX6 yX6_hire yX6_hire, .code yX6_hire cX6_hire 2 (some .int), .methodLink RL 180 yL_peopleAt, .static yL_peopleAt, .codeWith yL_peopleAt cL_peopleAt 4 (some .int) [(0, 9, 12, 21)], .methodLink RL 182 yX6_peopleAt, .instanceMethod yX6_peopleAt, .selects RX6 yX6_peopleAt yX6_peopleAt, .code yX6_peopleAt cX6_peopleAt 2 (some .int), .methodLink RL 183 yX5_peopleTotal, .instanceMethod yX5_peopleTotal, .selects RX5 yX5_peopleTotal yX5_peopleTotal, .code yX5_peopleTotal cX5_peopleTotal 1 (some .int), .methodLink RL 186 yX6_peopleTotal, .instanceMethod yX6_peopleTotal, .selects RX6 yX6_peopleTotal yX6_peopleTotal, .code yX6_peopleTotal cX6_peopleTotal 1 (some .int), .methodLink RL 187 yX5_endangered, .instanceMethod yX5_endangered]
def wsV9_9 : List Cond := [.selects RX5 yX5_endangered yX5_endangered, .code yX5_endangered cX5_endangered 4 (some .int), .methodLink RL 190 yX6_endangered, .instanceMethod yX6_endangered, .selects RX6 yX6_endangered yX6_endangered, .code yX6_endangered cX6_endangered 3 (some .int), .methodLink RL 191 yL_oreAt, .static yL_oreAt, .codeWith yL_oreAt cL_oreAt 4 (some .int) [(0, 9, 12, 21)], .methodLink RL 193 yX6_oreAt, .instanceMethod yX6_oreAt, .selects RX6 yX6_oreAt yX6_oreAt, .code yX6_oreAt cX6_oreAt 2 (some .int), .methodLink RL 194 yL_blast, .static yL_blast, .codeWith yL_blast cL_blast 5 (some .int) [(0, 10, 13, 21), (0, 10, 17, 13), (0, 10, 21, 15), (0, 10, 25, 73)], .methodLink RL 197 yX6_blast, .instanceMethod yX6_blast, .selects RX6 yX6_blast yX6_blast, .code yX6_blast cX6_blast 3 (some .int), .methodLink RL 198 yL_isClosed, .static yL_isClosed, .codeWith yL_isClosed cL_isClosed 4 (some .int) [(0, 16, 19, 21)], .methodLink RL 200 yX6_isClosed, .instanceMethod yX6_isClosed, .selects RX6 yX6_isClosed yX6_isClosed, .code yX6_isClosed cX6_isClosed 2 (some .boolean), .methodLink RL 201 yL_setSpeed, .static yL_setSpeed, .codeWith yL_setSpeed cL_setSpeed 4 (some .int) [(0, 9, 12, 13)], .methodLink RL 203 yX6_setSpeed, .instanceMethod yX6_setSpeed, .selects RX6 yX6_setSpeed yX6_setSpeed, .code yX6_setSpeed cX6_setSpeed 3 (some .int), .methodLink RL 204 yL_sendDown, .static yL_sendDown, .codeWith yL_sendDown cL_sendDown 5 (some .int) [(0, 10, 13, 21), (0, 10, 17, 13), (0, 10, 21, 73), (0, 10, 25, 15)], .methodLink RL 206 yX6_sendDown, .instanceMethod yX6_sendDown, .selects RX6 yX6_sendDown yX6_sendDown, .code yX6_sendDown cX6_sendDown 3 (some .int), .methodLink RL 207 yL_callUp, .static yL_callUp, .codeWith yL_callUp cL_callUp 5 (some .int) [(0, 10, 13, 21), (0, 10, 17, 13), (0, 10, 21, 15)], .methodLink RL 209 yX6_callUp, .instanceMethod yX6_callUp, .selects RX6 yX6_callUp yX6_callUp, .code yX6_callUp cX6_callUp 3 (some .int)]
def wsV9_10 : List Cond := [.methodLink RL 210 yL_hoistOre, .static yL_hoistOre, .codeWith yL_hoistOre cL_hoistOre 4 (some .int) [(0, 9, 12, 21), (0, 9, 15, 15)], .methodLink RL 212 yX6_hoistOre, .instanceMethod yX6_hoistOre, .selects RX6 yX6_hoistOre yX6_hoistOre, .code yX6_hoistOre cX6_hoistOre 2 (some .int), .methodLink RL 213 yL_cancel, .static yL_cancel, .codeWith yL_cancel cL_cancel 4 (some .int) [(0, 9, 12, 58)], .methodLink RL 215 yX6_cancel, .instanceMethod yX6_cancel, .selects RX6 yX6_cancel yX6_cancel, .code yX6_cancel cX6_cancel 3 (some .int), .methodLink RL 216 yX5_waitingCount, .instanceMethod yX5_waitingCount, .selects RX5 yX5_waitingCount yX5_waitingCount, .code yX5_waitingCount cX5_waitingCount 1 (some .int), .methodLink RL 219 yX6_waitingCount, .instanceMethod yX6_waitingCount, .selects RX6 yX6_waitingCount yX6_waitingCount, .code yX6_waitingCount cX6_waitingCount 1 (some .int), .methodLink RL 220 yL_waitingAt, .static yL_waitingAt, .codeWith yL_waitingAt cL_waitingAt 4 (some .int) [(0, 9, 12, 21)], .methodLink RL 222 yX6_waitingAt, .instanceMethod yX6_waitingAt, .selects RX6 yX6_waitingAt yX6_waitingAt, .code yX6_waitingAt cX6_waitingAt 2 (some .int), .methodLink RL 223 yL_pass, .static yL_pass, .codeWith yL_pass cL_pass 4 (some .int) [(0, 9, 12, 13), (0, 9, 15, 15)], .methodLink RL 225 yX6_pass, .instanceMethod yX6_pass, .selects RX6 yX6_pass yX6_pass, .code yX6_pass cX6_pass 3 (some .int), .methodLink RL 226 yX5_clock, .instanceMethod yX5_clock, .selects RX5 yX5_clock yX5_clock, .code yX5_clock cX5_clock 1 (some .int), .methodLink RL 229 yX6_clock, .instanceMethod yX6_clock, .selects RX6 yX6_clock yX6_clock, .code yX6_clock cX6_clock 1 (some .int), .methodLink RL 230 yX5_tripKind, .instanceMethod yX5_tripKind, .selects RX5 yX5_tripKind yX5_tripKind, .code yX5_tripKind cX5_tripKind 1 (some .char)]
def wsV9_11 : List Cond := [.methodLink RL 234 yX6_tripKind, .instanceMethod yX6_tripKind, .selects RX6 yX6_tripKind yX6_tripKind, .code yX6_tripKind cX6_tripKind 1 (some .char), .methodLink RL 235 yL_tripLevel, .static yL_tripLevel, .codeWith yL_tripLevel cL_tripLevel 3 (some .int) [(0, 8, 11, 58)], .methodLink RL 238 yX6_tripLevel, .instanceMethod yX6_tripLevel, .selects RX6 yX6_tripLevel yX6_tripLevel, .code yX6_tripLevel cX6_tripLevel 1 (some .int), .methodLink RL 239 yL_tripLoad, .static yL_tripLoad, .codeWith yL_tripLoad cL_tripLoad 3 (some .int) [(0, 8, 11, 58)], .methodLink RL 241 yX6_tripLoad, .instanceMethod yX6_tripLoad, .selects RX6 yX6_tripLoad yX6_tripLoad, .code yX6_tripLoad cX6_tripLoad 1 (some .int), .methodLink RL 242 yL_tripRest, .static yL_tripRest, .codeWith yL_tripRest cL_tripRest 3 (some .int) [(0, 8, 11, 58)], .methodLink RL 244 yX6_tripRest, .instanceMethod yX6_tripRest, .selects RX6 yX6_tripRest yX6_tripRest, .code yX6_tripRest cX6_tripRest 1 (some .int), .methodLink RL 245 yX5_cageLevel, .instanceMethod yX5_cageLevel, .selects RX5 yX5_cageLevel yX5_cageLevel, .code yX5_cageLevel cX5_cageLevel 1 (some .int), .methodLink RL 248 yX6_cageLevel, .instanceMethod yX6_cageLevel, .selects RX6 yX6_cageLevel yX6_cageLevel, .code yX6_cageLevel cX6_cageLevel 1 (some .int), .methodLink RL 249 yX5_doneCount, .instanceMethod yX5_doneCount, .selects RX5 yX5_doneCount yX5_doneCount, .code yX5_doneCount cX5_doneCount 1 (some .int), .methodLink RL 252 yX6_doneCount, .instanceMethod yX6_doneCount, .selects RX6 yX6_doneCount yX6_doneCount, .code yX6_doneCount cX6_doneCount 1 (some .int), .methodLink RL 253 yX5_droppedCount, .instanceMethod yX5_droppedCount, .selects RX5 yX5_droppedCount yX5_droppedCount, .code yX5_droppedCount cX5_droppedCount 1 (some .int), .methodLink RL 256 yX6_droppedCount, .instanceMethod yX6_droppedCount, .selects RX6 yX6_droppedCount yX6_droppedCount]
def wsV9_12 : List Cond := [.code yX6_droppedCount cX6_droppedCount 1 (some .int), .methodLink RL 257 yL_waitFor, .static yL_waitFor, .codeWith yL_waitFor cL_waitFor 4 (some .int) [(0, 9, 12, 58), (0, 9, 15, 73)], .methodLink RL 259 yX6_waitFor, .instanceMethod yX6_waitFor, .selects RX6 yX6_waitFor yX6_waitFor, .code yX6_waitFor cX6_waitFor 7 (some .int), .methodLink RL 260 yX5_isConsistent, .instanceMethod yX5_isConsistent, .selects RX5 yX5_isConsistent yX5_isConsistent, .code yX5_isConsistent cX5_isConsistent 4 (some .boolean), .methodLink RL 264 yX6_isConsistent, .instanceMethod yX6_isConsistent, .selects RX6 yX6_isConsistent yX6_isConsistent, .code yX6_isConsistent cX6_isConsistent 1 (some .boolean), .methodLink RL 265 yX5_writeTrip, .instanceMethod yX5_writeTrip, .selects RX5 yX5_writeTrip yX5_writeTrip, .code yX5_writeTrip cX5_writeTrip 2 (some .int), .methodLink RL 268 yX6_writeTrip, .instanceMethod yX6_writeTrip, .selects RX6 yX6_writeTrip yX6_writeTrip, .code yX6_writeTrip cX6_writeTrip 2 (some .int), .methodLink RL 269 yL_lineAt, .static yL_lineAt, .codeWith yL_lineAt cL_lineAt 4 (some .int) [(0, 9, 12, 21)], .methodLink RL 271 yX6_lineAt, .instanceMethod yX6_lineAt, .selects RX6 yX6_lineAt yX6_lineAt, .code yX6_lineAt cX6_lineAt 2 (some .char), .classLink RL 8 RX5, .instantiable RX5 3, .code yX5_init cX5_init 1 none, .methodLink RL 116 yX5_init, .instanceMethod yX5_init, .classLink RL 117 RX6, .instantiable RX6 15, .code yX6_init cX6_init 1 none, .methodLink RL 119 yX6_init, .instanceMethod yX6_init, .arrayClass .long, .arrayClass .double]
abbrev wsC9_J0 : List Cond := u_ws RJ0 TJ0 4
abbrev wsC9_J4 : List Cond := u_ws RJ4 TJ4 4
abbrev wsC9_X0 : List Cond := u_ws RX0 TX0 11
abbrev wsC9_X1 : List Cond := u_ws RX1 TX1 16
abbrev wsC9_X2 : List Cond := u_ws RX2 TX2 4
abbrev wsC9_X3 : List Cond := u_ws RX3 TX3 5
abbrev wsC9_X4 : List Cond := u_ws RX4 TX4 2
abbrev wsC9_X5 : List Cond := u_ws RX5 TX5 3
abbrev wsC9_X6 : List Cond := u_ws RX6 TX6 15
def wsV9 : List Cond := wsV9_0 ++ (wsV9_1 ++ (wsV9_2 ++ (wsV9_3 ++ (wsV9_4 ++ (wsV9_5 ++ (wsV9_6 ++ (wsV9_7 ++ (wsV9_8 ++ (wsV9_9 ++ (wsV9_10 ++ (wsV9_11 ++ (wsV9_12 ++ (wsC9_J0 ++ (wsC9_J4 ++ (wsC9_X0 ++ (wsC9_X1 ++ (wsC9_X2 ++ (wsC9_X3 ++ (wsC9_X4 ++ (wsC9_X5 ++ (wsC9_X6)))))))))))))))))))))
def wsT : List Cond := wsU ++ wsV9
theorem cV9_0 {w : Cond} (h : w ∈ wsV9_0) : w ∈ wsT := List.mem_append_right _ (List.mem_append_left _ (h))
theorem v_0 : (Cond.fieldLink RJ5 18 "java/lang/String" "COMPACT_STRINGS" "Z") ∈ wsT := cV9_0 (List.mem_of_getElem? (i := 0) rfl)
theorem v_1 : (Cond.fieldLink RJ5 22 "java/lang/AbstractStringBuilder" "coder" "B") ∈ wsT := cV9_0 (List.mem_of_getElem? (i := 1) rfl)
theorem v_2 : (Cond.fieldLink RJ5 79 "java/lang/AbstractStringBuilder" "count" "I") ∈ wsT := cV9_0 (List.mem_of_getElem? (i := 2) rfl)
theorem v_3 : (Cond.fieldLink RJ5 15 "java/lang/AbstractStringBuilder" "value" "[B") ∈ wsT := cV9_0 (List.mem_of_getElem? (i := 3) rfl)
theorem v_4 : (Cond.methodLink RJ4 343 yJ5_length_8abf5) ∈ wsT := cV9_0 (List.mem_of_getElem? (i := 4) rfl)
theorem v_5 : (Cond.sameMethod RJ5 RJ5 "length" "()I") ∈ wsT := cV9_0 (List.mem_of_getElem? (i := 5) rfl)
theorem v_6 : (Cond.superclass RJ4 RJ5) ∈ wsT := cV9_0 (List.mem_of_getElem? (i := 6) rfl)
theorem v_7 : (Cond.instanceMethod yJ5_length_8abf5) ∈ wsT := cV9_0 (List.mem_of_getElem? (i := 7) rfl)
theorem v_8 : (Cond.initialized RJ5) ∈ wsT := cV9_0 (List.mem_of_getElem? (i := 8) rfl)
theorem v_9 : (Cond.code yJ5_length_8abf5 cJ5_length_8abf5 1 (some .int)) ∈ wsT := cV9_0 (List.mem_of_getElem? (i := 9) rfl)
theorem v_10 : (Cond.fieldLink RJ6 83 "java/lang/Integer" "DigitOnes" "[B") ∈ wsT := cV9_0 (List.mem_of_getElem? (i := 10) rfl)
theorem v_11 : (Cond.fieldLink RJ6 87 "java/lang/Integer" "DigitTens" "[B") ∈ wsT := cV9_0 (List.mem_of_getElem? (i := 11) rfl)
theorem v_12 : (Cond.methodLink RJ8 194 Lib.Math.max.name) ∈ wsT := cV9_0 (List.mem_of_getElem? (i := 12) rfl)
theorem v_13 : (Cond.static Lib.Math.max.name) ∈ wsT := cV9_0 (List.mem_of_getElem? (i := 13) rfl)
theorem v_14 : (Cond.initialized "java/lang/Math") ∈ wsT := cV9_0 (List.mem_of_getElem? (i := 14) rfl)
theorem v_15 : (Cond.code Lib.Math.max.name Lib.Math.max.code 2 (some .int)) ∈ wsT := cV9_0 (List.mem_of_getElem? (i := 15) rfl)
theorem v_16 : (Cond.constant RJ8 200 (2147483639)) ∈ wsT := cV9_0 (List.mem_of_getElem? (i := 16) rfl)
theorem v_17 : (Cond.methodLink RJ5 114 yJ8_newLength_cabcc) ∈ wsT := cV9_0 (List.mem_of_getElem? (i := 17) rfl)
theorem v_18 : (Cond.static yJ8_newLength_cabcc) ∈ wsT := cV9_0 (List.mem_of_getElem? (i := 18) rfl)
theorem v_19 : (Cond.initialized RJ8) ∈ wsT := cV9_0 (List.mem_of_getElem? (i := 19) rfl)
theorem v_20 : (Cond.code yJ8_newLength_cabcc cJ8_newLength_cabcc 4 (some .int)) ∈ wsT := cV9_0 (List.mem_of_getElem? (i := 20) rfl)
theorem v_21 : (Cond.constant RJ5 39 (2147483647)) ∈ wsT := cV9_0 (List.mem_of_getElem? (i := 21) rfl)
theorem v_22 : (Cond.arrayClass .byte) ∈ wsT := cV9_0 (List.mem_of_getElem? (i := 22) rfl)
theorem v_23 : (Cond.methodLink RJ7 304 Lib.Math.min.name) ∈ wsT := cV9_0 (List.mem_of_getElem? (i := 23) rfl)
theorem v_24 : (Cond.static Lib.Math.min.name) ∈ wsT := cV9_0 (List.mem_of_getElem? (i := 24) rfl)
theorem v_25 : (Cond.code Lib.Math.min.name Lib.Math.min.code 2 (some .int)) ∈ wsT := cV9_0 (List.mem_of_getElem? (i := 25) rfl)
theorem v_26 : (Cond.methodLink RJ7 150 arraycopyName) ∈ wsT := cV9_0 (List.mem_of_getElem? (i := 26) rfl)
theorem v_27 : (Cond.native arraycopyName) ∈ wsT := cV9_0 (List.mem_of_getElem? (i := 27) rfl)
theorem v_28 : (Cond.static arraycopyName) ∈ wsT := cV9_0 (List.mem_of_getElem? (i := 28) rfl)
theorem v_29 : (Cond.initialized "java/lang/System") ∈ wsT := cV9_0 (List.mem_of_getElem? (i := 29) rfl)
theorem v_30 : (Cond.methodLink RJ5 104 yJ5_newCapacity_0f7a4) ∈ wsT := cV9_0 (List.mem_of_getElem? (i := 30) rfl)
theorem v_31 : (Cond.sameMethod RJ5 RJ5 "newCapacity" "(I)I") ∈ wsT := cV9_0 (List.mem_of_getElem? (i := 31) rfl)
theorem v_32 : (Cond.selects RJ4 yJ5_newCapacity_0f7a4 yJ5_newCapacity_0f7a4) ∈ wsT := cV9_0 (List.mem_of_getElem? (i := 32) rfl)
theorem v_33 : (Cond.instanceMethod yJ5_newCapacity_0f7a4) ∈ wsT := cV9_0 (List.mem_of_getElem? (i := 33) rfl)
theorem v_34 : (Cond.code yJ5_newCapacity_0f7a4 cJ5_newCapacity_0f7a4 6 (some .int)) ∈ wsT := cV9_0 (List.mem_of_getElem? (i := 34) rfl)
theorem v_35 : (Cond.methodLink RJ5 108 yJ7_copyOf_9075b) ∈ wsT := cV9_0 (List.mem_of_getElem? (i := 35) rfl)
theorem v_36 : (Cond.static yJ7_copyOf_9075b) ∈ wsT := cV9_0 (List.mem_of_getElem? (i := 36) rfl)
theorem v_37 : (Cond.initialized RJ7) ∈ wsT := cV9_0 (List.mem_of_getElem? (i := 37) rfl)
theorem v_38 : (Cond.code yJ7_copyOf_9075b cJ7_copyOf_9075b 3 (some (.array .byte))) ∈ wsT := cV9_0 (List.mem_of_getElem? (i := 38) rfl)
theorem v_39 : (Cond.methodLink RJ5 100 yJ5_ensureCapacityInternal_d00df) ∈ wsT := cV9_0 (List.mem_of_getElem? (i := 39) rfl)
theorem v_40 : (Cond.sameMethod RJ5 RJ5 "ensureCapacityInternal" "(I)V") ∈ wsT := cV9_0 (List.mem_of_getElem? (i := 40) rfl)
theorem v_41 : (Cond.selects RJ4 yJ5_ensureCapacityInternal_d00df yJ5_ensureCapacityInternal_d00df) ∈ wsT := cV9_0 (List.mem_of_getElem? (i := 41) rfl)
theorem v_42 : (Cond.instanceMethod yJ5_ensureCapacityInternal_d00df) ∈ wsT := cV9_0 (List.mem_of_getElem? (i := 42) rfl)
theorem v_43 : (Cond.code yJ5_ensureCapacityInternal_d00df cJ5_ensureCapacityInternal_d00df 3 none) ∈ wsT := cV9_0 (List.mem_of_getElem? (i := 43) rfl)
theorem v_44 : (Cond.methodLink RJ5 83 yJ5_isLatin1_aae02) ∈ wsT := cV9_0 (List.mem_of_getElem? (i := 44) rfl)
theorem v_45 : (Cond.sameMethod RJ5 RJ5 "isLatin1" "()Z") ∈ wsT := cV9_0 (List.mem_of_getElem? (i := 45) rfl)
theorem v_46 : (Cond.selects RJ4 yJ5_isLatin1_aae02 yJ5_isLatin1_aae02) ∈ wsT := cV9_0 (List.mem_of_getElem? (i := 46) rfl)
theorem v_47 : (Cond.instanceMethod yJ5_isLatin1_aae02) ∈ wsT := cV9_0 (List.mem_of_getElem? (i := 47) rfl)
theorem kV9_0 : wsV9_0.all goodWord = true := by decide +kernel
theorem cV9_1 {w : Cond} (h : w ∈ wsV9_1) : w ∈ wsT := List.mem_append_right _ (List.mem_append_right _ (List.mem_append_left _ (h)))
theorem v_48 : (Cond.code yJ5_isLatin1_aae02 cJ5_isLatin1_aae02 1 (some .boolean)) ∈ wsT := cV9_1 (List.mem_of_getElem? (i := 0) rfl)
theorem v_49 : (Cond.methodLink RJ5 191 yJ1_canEncode_fc78d) ∈ wsT := cV9_1 (List.mem_of_getElem? (i := 1) rfl)
theorem v_50 : (Cond.static yJ1_canEncode_fc78d) ∈ wsT := cV9_1 (List.mem_of_getElem? (i := 2) rfl)
theorem v_51 : (Cond.initialized RJ1) ∈ wsT := cV9_1 (List.mem_of_getElem? (i := 3) rfl)
theorem v_52 : (Cond.code yJ1_canEncode_fc78d cJ1_canEncode_fc78d 1 (some .boolean)) ∈ wsT := cV9_1 (List.mem_of_getElem? (i := 4) rfl)
theorem v_53 : (Cond.fieldLink RJ0 38 "java/lang/String" "COMPACT_STRINGS" "Z") ∈ wsT := cV9_1 (List.mem_of_getElem? (i := 5) rfl)
theorem v_54 : (Cond.fieldLink RJ0 15 "java/lang/String" "coder" "B") ∈ wsT := cV9_1 (List.mem_of_getElem? (i := 6) rfl)
theorem v_55 : (Cond.fieldLink RJ0 9 "java/lang/String" "value" "[B") ∈ wsT := cV9_1 (List.mem_of_getElem? (i := 7) rfl)
theorem v_56 : (Cond.methodLink RJ0 335 yJ0_coder_7d493) ∈ wsT := cV9_1 (List.mem_of_getElem? (i := 8) rfl)
theorem v_57 : (Cond.instanceMethod yJ0_coder_7d493) ∈ wsT := cV9_1 (List.mem_of_getElem? (i := 9) rfl)
theorem v_58 : (Cond.selects RJ0 yJ0_coder_7d493 yJ0_coder_7d493) ∈ wsT := cV9_1 (List.mem_of_getElem? (i := 10) rfl)
theorem v_59 : (Cond.initialized RJ0) ∈ wsT := cV9_1 (List.mem_of_getElem? (i := 11) rfl)
theorem v_60 : (Cond.code yJ0_coder_7d493 cJ0_coder_7d493 1 (some .byte)) ∈ wsT := cV9_1 (List.mem_of_getElem? (i := 12) rfl)
theorem v_61 : (Cond.methodLink RJ0 212 arraycopyName) ∈ wsT := cV9_1 (List.mem_of_getElem? (i := 13) rfl)
theorem v_62 : (Cond.methodLink RJ5 40 yJ0_coder_7d493) ∈ wsT := cV9_1 (List.mem_of_getElem? (i := 14) rfl)
theorem v_63 : (Cond.methodLink RJ5 397 yJ5_inflateIfNeededFor_a7421) ∈ wsT := cV9_1 (List.mem_of_getElem? (i := 15) rfl)
theorem v_64 : (Cond.sameMethod RJ5 RJ5 "inflateIfNeededFor" "(Ljava/lang/String;)V") ∈ wsT := cV9_1 (List.mem_of_getElem? (i := 16) rfl)
theorem v_65 : (Cond.selects RJ4 yJ5_inflateIfNeededFor_a7421 yJ5_inflateIfNeededFor_a7421) ∈ wsT := cV9_1 (List.mem_of_getElem? (i := 17) rfl)
theorem v_66 : (Cond.instanceMethod yJ5_inflateIfNeededFor_a7421) ∈ wsT := cV9_1 (List.mem_of_getElem? (i := 18) rfl)
theorem v_67 : (Cond.code yJ5_inflateIfNeededFor_a7421 cJ5_inflateIfNeededFor_a7421 2 none) ∈ wsT := cV9_1 (List.mem_of_getElem? (i := 19) rfl)
theorem v_68 : (Cond.methodLink RJ5 399 yJ0_getBytes_840e7) ∈ wsT := cV9_1 (List.mem_of_getElem? (i := 20) rfl)
theorem v_69 : (Cond.instanceMethod yJ0_getBytes_840e7) ∈ wsT := cV9_1 (List.mem_of_getElem? (i := 21) rfl)
theorem v_70 : (Cond.selects RJ0 yJ0_getBytes_840e7 yJ0_getBytes_840e7) ∈ wsT := cV9_1 (List.mem_of_getElem? (i := 22) rfl)
theorem v_71 : (Cond.code yJ0_getBytes_840e7 cJ0_getBytes_840e7 4 none) ∈ wsT := cV9_1 (List.mem_of_getElem? (i := 23) rfl)
theorem v_72 : (Cond.methodLink RJ5 32 yJ0_length_8abf5) ∈ wsT := cV9_1 (List.mem_of_getElem? (i := 24) rfl)
theorem v_73 : (Cond.instanceMethod yJ0_length_8abf5) ∈ wsT := cV9_1 (List.mem_of_getElem? (i := 25) rfl)
theorem v_74 : (Cond.selects RJ0 yJ0_length_8abf5 yJ0_length_8abf5) ∈ wsT := cV9_1 (List.mem_of_getElem? (i := 26) rfl)
theorem v_75 : (Cond.code yJ0_length_8abf5 cJ0_length_8abf5 1 (some .int)) ∈ wsT := cV9_1 (List.mem_of_getElem? (i := 27) rfl)
theorem v_76 : (Cond.methodLink RJ5 208 yJ5_putStringAt_47b60) ∈ wsT := cV9_1 (List.mem_of_getElem? (i := 28) rfl)
theorem v_77 : (Cond.sameMethod RJ5 RJ5 "putStringAt" "(ILjava/lang/String;)V") ∈ wsT := cV9_1 (List.mem_of_getElem? (i := 29) rfl)
theorem v_78 : (Cond.selects RJ4 yJ5_putStringAt_47b60 yJ5_putStringAt_47b60) ∈ wsT := cV9_1 (List.mem_of_getElem? (i := 30) rfl)
theorem v_79 : (Cond.instanceMethod yJ5_putStringAt_47b60) ∈ wsT := cV9_1 (List.mem_of_getElem? (i := 31) rfl)
theorem v_80 : (Cond.code yJ5_putStringAt_47b60 cJ5_putStringAt_47b60 3 none) ∈ wsT := cV9_1 (List.mem_of_getElem? (i := 32) rfl)
theorem v_81 : (Cond.methodLink RJ5 245 yJ6_stringSize_0f7a4) ∈ wsT := cV9_1 (List.mem_of_getElem? (i := 33) rfl)
theorem v_82 : (Cond.static yJ6_stringSize_0f7a4) ∈ wsT := cV9_1 (List.mem_of_getElem? (i := 34) rfl)
theorem v_83 : (Cond.initialized RJ6) ∈ wsT := cV9_1 (List.mem_of_getElem? (i := 35) rfl)
theorem v_84 : (Cond.code yJ6_stringSize_0f7a4 cJ6_stringSize_0f7a4 4 (some .int)) ∈ wsT := cV9_1 (List.mem_of_getElem? (i := 36) rfl)
theorem v_85 : (Cond.methodLink RJ5 248 yJ6_getChars_ba4f3) ∈ wsT := cV9_1 (List.mem_of_getElem? (i := 37) rfl)
theorem v_86 : (Cond.static yJ6_getChars_ba4f3) ∈ wsT := cV9_1 (List.mem_of_getElem? (i := 38) rfl)
theorem v_87 : (Cond.code yJ6_getChars_ba4f3 cJ6_getChars_ba4f3 7 (some .int)) ∈ wsT := cV9_1 (List.mem_of_getElem? (i := 39) rfl)
theorem v_88 : (Cond.methodLink RJ4 50 yJ5_append_3fe6f) ∈ wsT := cV9_1 (List.mem_of_getElem? (i := 40) rfl)
theorem v_89 : (Cond.sameMethod RJ5 RJ5 "append" "(C)Ljava/lang/AbstractStringBuilder;") ∈ wsT := cV9_1 (List.mem_of_getElem? (i := 41) rfl)
theorem v_90 : (Cond.instanceMethod yJ5_append_3fe6f) ∈ wsT := cV9_1 (List.mem_of_getElem? (i := 42) rfl)
theorem v_91 : (Cond.code yJ5_append_3fe6f cJ5_append_3fe6f 2 (some (.object "java/lang/AbstractStringBuilder"))) ∈ wsT := cV9_1 (List.mem_of_getElem? (i := 43) rfl)
theorem v_92 : (Cond.methodLink RJ4 29 yJ5_append_cf1ce) ∈ wsT := cV9_1 (List.mem_of_getElem? (i := 44) rfl)
theorem v_93 : (Cond.sameMethod RJ5 RJ5 "append" "(Ljava/lang/String;)Ljava/lang/AbstractStringBuilder;") ∈ wsT := cV9_1 (List.mem_of_getElem? (i := 45) rfl)
theorem v_94 : (Cond.instanceMethod yJ5_append_cf1ce) ∈ wsT := cV9_1 (List.mem_of_getElem? (i := 46) rfl)
theorem v_95 : (Cond.code yJ5_append_cf1ce cJ5_append_cf1ce 3 (some (.object "java/lang/AbstractStringBuilder"))) ∈ wsT := cV9_1 (List.mem_of_getElem? (i := 47) rfl)
theorem kV9_1 : wsV9_1.all goodWord = true := by decide +kernel
theorem cV9_2 {w : Cond} (h : w ∈ wsV9_2) : w ∈ wsT := List.mem_append_right _ (List.mem_append_right _ (List.mem_append_right _ (List.mem_append_left _ (h))))
theorem v_96 : (Cond.methodLink RJ4 53 yJ5_append_c97b9) ∈ wsT := cV9_2 (List.mem_of_getElem? (i := 0) rfl)
theorem v_97 : (Cond.sameMethod RJ5 RJ5 "append" "(I)Ljava/lang/AbstractStringBuilder;") ∈ wsT := cV9_2 (List.mem_of_getElem? (i := 1) rfl)
theorem v_98 : (Cond.instanceMethod yJ5_append_c97b9) ∈ wsT := cV9_2 (List.mem_of_getElem? (i := 2) rfl)
theorem v_99 : (Cond.code yJ5_append_c97b9 cJ5_append_c97b9 4 (some (.object "java/lang/AbstractStringBuilder"))) ∈ wsT := cV9_2 (List.mem_of_getElem? (i := 3) rfl)
theorem v_100 : (Cond.fieldLink RJ5 73 "java/lang/AbstractStringBuilder" "maybeLatin1" "Z") ∈ wsT := cV9_2 (List.mem_of_getElem? (i := 4) rfl)
theorem v_101 : (Cond.methodLink RJ4 333 yJ5_setLength_d00df) ∈ wsT := cV9_2 (List.mem_of_getElem? (i := 5) rfl)
theorem v_102 : (Cond.sameMethod RJ5 RJ5 "setLength" "(I)V") ∈ wsT := cV9_2 (List.mem_of_getElem? (i := 6) rfl)
theorem v_103 : (Cond.instanceMethod yJ5_setLength_d00df) ∈ wsT := cV9_2 (List.mem_of_getElem? (i := 7) rfl)
theorem v_104 : (Cond.code yJ5_setLength_d00df cJ5_setLength_d00df 2 none) ∈ wsT := cV9_2 (List.mem_of_getElem? (i := 8) rfl)
theorem v_105 : (Cond.fieldLink RJ0 1053 "jdk/internal/util/Preconditions" "SIOOBE_FORMATTER" "Ljava/util/function/BiFunction;") ∈ wsT := cV9_2 (List.mem_of_getElem? (i := 9) rfl)
theorem v_106 : (Cond.methodLink RJ0 1059 yJ3_checkIndex_8e157) ∈ wsT := cV9_2 (List.mem_of_getElem? (i := 10) rfl)
theorem v_107 : (Cond.static yJ3_checkIndex_8e157) ∈ wsT := cV9_2 (List.mem_of_getElem? (i := 11) rfl)
theorem v_108 : (Cond.initialized RJ3) ∈ wsT := cV9_2 (List.mem_of_getElem? (i := 12) rfl)
theorem v_109 : (Cond.code yJ3_checkIndex_8e157 cJ3_checkIndex_8e157 3 (some .int)) ∈ wsT := cV9_2 (List.mem_of_getElem? (i := 13) rfl)
theorem v_110 : (Cond.methodLink RJ5 138 Lib.Math.min.name) ∈ wsT := cV9_2 (List.mem_of_getElem? (i := 14) rfl)
theorem v_111 : (Cond.methodLink RJ5 144 yJ0_checkIndex_df160) ∈ wsT := cV9_2 (List.mem_of_getElem? (i := 15) rfl)
theorem v_112 : (Cond.static yJ0_checkIndex_df160) ∈ wsT := cV9_2 (List.mem_of_getElem? (i := 16) rfl)
theorem v_113 : (Cond.code yJ0_checkIndex_df160 cJ0_checkIndex_df160 2 none) ∈ wsT := cV9_2 (List.mem_of_getElem? (i := 17) rfl)
theorem v_114 : (Cond.methodLink RJ4 329 yJ5_charAt_5068e) ∈ wsT := cV9_2 (List.mem_of_getElem? (i := 18) rfl)
theorem v_115 : (Cond.sameMethod RJ5 RJ5 "charAt" "(I)C") ∈ wsT := cV9_2 (List.mem_of_getElem? (i := 19) rfl)
theorem v_116 : (Cond.instanceMethod yJ5_charAt_5068e) ∈ wsT := cV9_2 (List.mem_of_getElem? (i := 20) rfl)
theorem v_117 : (Cond.code yJ5_charAt_5068e cJ5_charAt_5068e 5 (some .char)) ∈ wsT := cV9_2 (List.mem_of_getElem? (i := 21) rfl)
theorem v_118 : (Cond.methodLink RJ5 3 objectInit) ∈ wsT := cV9_2 (List.mem_of_getElem? (i := 22) rfl)
theorem v_119 : (Cond.instanceMethod objectInit) ∈ wsT := cV9_2 (List.mem_of_getElem? (i := 23) rfl)
theorem v_120 : (Cond.code objectInit ⟨#[0xb1]⟩ 1 none) ∈ wsT := cV9_2 (List.mem_of_getElem? (i := 24) rfl)
theorem v_121 : (Cond.code yJ5_init_d00df cJ5_init_d00df 2 none) ∈ wsT := cV9_2 (List.mem_of_getElem? (i := 25) rfl)
theorem v_122 : (Cond.methodLink RJ4 1 yJ5_init_d00df) ∈ wsT := cV9_2 (List.mem_of_getElem? (i := 26) rfl)
theorem v_123 : (Cond.instanceMethod yJ5_init_d00df) ∈ wsT := cV9_2 (List.mem_of_getElem? (i := 27) rfl)
theorem v_124 : (Cond.methodLink RJ7 343 yJ7_checkLength_df160) ∈ wsT := cV9_2 (List.mem_of_getElem? (i := 28) rfl)
theorem v_125 : (Cond.static yJ7_checkLength_df160) ∈ wsT := cV9_2 (List.mem_of_getElem? (i := 29) rfl)
theorem v_126 : (Cond.code yJ7_checkLength_df160 cJ7_checkLength_df160 2 none) ∈ wsT := cV9_2 (List.mem_of_getElem? (i := 30) rfl)
theorem v_127 : (Cond.methodLink RJ7 310 ⟨"[B", "clone", "()Ljava/lang/Object;"⟩) ∈ wsT := cV9_2 (List.mem_of_getElem? (i := 31) rfl)
theorem v_128 : (Cond.sameMethod "[B" "java/lang/Object" "clone" "()Ljava/lang/Object;") ∈ wsT := cV9_2 (List.mem_of_getElem? (i := 32) rfl)
theorem v_129 : (Cond.native ⟨"java/lang/Object", "clone", "()Ljava/lang/Object;"⟩) ∈ wsT := cV9_2 (List.mem_of_getElem? (i := 33) rfl)
theorem v_130 : (Cond.instanceMethod ⟨"java/lang/Object", "clone", "()Ljava/lang/Object;"⟩) ∈ wsT := cV9_2 (List.mem_of_getElem? (i := 34) rfl)
theorem v_131 : (Cond.selects "[B" ⟨"[B", "clone", "()Ljava/lang/Object;"⟩ ⟨"java/lang/Object", "clone", "()Ljava/lang/Object;"⟩) ∈ wsT := cV9_2 (List.mem_of_getElem? (i := 35) rfl)
theorem v_132 : (Cond.classLink RJ7 311 "[B") ∈ wsT := cV9_2 (List.mem_of_getElem? (i := 36) rfl)
theorem v_133 : (Cond.methodLink RJ7 339 yJ7_copyOfRangeByte_39247) ∈ wsT := cV9_2 (List.mem_of_getElem? (i := 37) rfl)
theorem v_134 : (Cond.static yJ7_copyOfRangeByte_39247) ∈ wsT := cV9_2 (List.mem_of_getElem? (i := 38) rfl)
theorem v_135 : (Cond.code yJ7_copyOfRangeByte_39247 cJ7_copyOfRangeByte_39247 5 (some (.array .byte))) ∈ wsT := cV9_2 (List.mem_of_getElem? (i := 39) rfl)
theorem v_136 : (Cond.methodLink RJ0 1 objectInit) ∈ wsT := cV9_2 (List.mem_of_getElem? (i := 40) rfl)
theorem v_137 : (Cond.methodLink RJ0 552 yJ5_getValue_6d5f1) ∈ wsT := cV9_2 (List.mem_of_getElem? (i := 41) rfl)
theorem v_138 : (Cond.sameMethod RJ5 RJ5 "getValue" "()[B") ∈ wsT := cV9_2 (List.mem_of_getElem? (i := 42) rfl)
theorem v_139 : (Cond.selects RJ4 yJ5_getValue_6d5f1 yJ5_getValue_6d5f1) ∈ wsT := cV9_2 (List.mem_of_getElem? (i := 43) rfl)
theorem v_140 : (Cond.instanceMethod yJ5_getValue_6d5f1) ∈ wsT := cV9_2 (List.mem_of_getElem? (i := 44) rfl)
theorem v_141 : (Cond.code yJ5_getValue_6d5f1 cJ5_getValue_6d5f1 1 (some (.array .byte))) ∈ wsT := cV9_2 (List.mem_of_getElem? (i := 45) rfl)
theorem v_142 : (Cond.methodLink RJ0 549 yJ5_length_8abf5) ∈ wsT := cV9_2 (List.mem_of_getElem? (i := 46) rfl)
theorem v_143 : (Cond.selects RJ4 yJ5_length_8abf5 yJ4_length_8abf5) ∈ wsT := cV9_2 (List.mem_of_getElem? (i := 47) rfl)
theorem kV9_2 : wsV9_2.all goodWord = true := by decide +kernel
theorem cV9_3 {w : Cond} (h : w ∈ wsV9_3) : w ∈ wsT := List.mem_append_right _ (List.mem_append_right _ (List.mem_append_right _ (List.mem_append_right _ (List.mem_append_left _ (h)))))
theorem v_144 : (Cond.instanceMethod yJ4_length_8abf5) ∈ wsT := cV9_3 (List.mem_of_getElem? (i := 0) rfl)
theorem v_145 : (Cond.initialized RJ4) ∈ wsT := cV9_3 (List.mem_of_getElem? (i := 1) rfl)
theorem v_146 : (Cond.code yJ4_length_8abf5 cJ4_length_8abf5 1 (some .int)) ∈ wsT := cV9_3 (List.mem_of_getElem? (i := 2) rfl)
theorem v_147 : (Cond.methodLink RJ0 1047 yJ5_isLatin1_aae02) ∈ wsT := cV9_3 (List.mem_of_getElem? (i := 3) rfl)
theorem v_148 : (Cond.methodLink RJ0 54 yJ7_copyOfRange_39247) ∈ wsT := cV9_3 (List.mem_of_getElem? (i := 4) rfl)
theorem v_149 : (Cond.static yJ7_copyOfRange_39247) ∈ wsT := cV9_3 (List.mem_of_getElem? (i := 5) rfl)
theorem v_150 : (Cond.code yJ7_copyOfRange_39247 cJ7_copyOfRange_39247 3 (some (.array .byte))) ∈ wsT := cV9_3 (List.mem_of_getElem? (i := 6) rfl)
theorem v_151 : (Cond.code yJ0_init_db425 cJ0_init_db425 5 none) ∈ wsT := cV9_3 (List.mem_of_getElem? (i := 7) rfl)
theorem v_152 : (Cond.methodLink RJ0 489 yJ0_init_db425) ∈ wsT := cV9_3 (List.mem_of_getElem? (i := 8) rfl)
theorem v_153 : (Cond.instanceMethod yJ0_init_db425) ∈ wsT := cV9_3 (List.mem_of_getElem? (i := 9) rfl)
theorem v_154 : (Cond.classLink RJ4 18 RJ0) ∈ wsT := cV9_3 (List.mem_of_getElem? (i := 10) rfl)
theorem v_155 : (Cond.instantiable RJ0 4) ∈ wsT := cV9_3 (List.mem_of_getElem? (i := 11) rfl)
theorem v_156 : (Cond.code yJ0_init_81219 cJ0_init_81219 2 none) ∈ wsT := cV9_3 (List.mem_of_getElem? (i := 12) rfl)
theorem v_157 : (Cond.methodLink RJ4 137 yJ0_init_81219) ∈ wsT := cV9_3 (List.mem_of_getElem? (i := 13) rfl)
theorem v_158 : (Cond.instanceMethod yJ0_init_81219) ∈ wsT := cV9_3 (List.mem_of_getElem? (i := 14) rfl)
theorem v_159 : (Cond.methodLink RJ1 9 yJ0_checkIndex_df160) ∈ wsT := cV9_3 (List.mem_of_getElem? (i := 15) rfl)
theorem v_160 : (Cond.methodLink RJ0 492 yJ0_isLatin1_aae02) ∈ wsT := cV9_3 (List.mem_of_getElem? (i := 16) rfl)
theorem v_161 : (Cond.instanceMethod yJ0_isLatin1_aae02) ∈ wsT := cV9_3 (List.mem_of_getElem? (i := 17) rfl)
theorem v_162 : (Cond.selects RJ0 yJ0_isLatin1_aae02 yJ0_isLatin1_aae02) ∈ wsT := cV9_3 (List.mem_of_getElem? (i := 18) rfl)
theorem v_163 : (Cond.code yJ0_isLatin1_aae02 cJ0_isLatin1_aae02 1 (some .boolean)) ∈ wsT := cV9_3 (List.mem_of_getElem? (i := 19) rfl)
theorem v_164 : (Cond.methodLink RJ0 495 yJ1_charAt_3b067) ∈ wsT := cV9_3 (List.mem_of_getElem? (i := 20) rfl)
theorem v_165 : (Cond.static yJ1_charAt_3b067) ∈ wsT := cV9_3 (List.mem_of_getElem? (i := 21) rfl)
theorem v_166 : (Cond.code yJ1_charAt_3b067 cJ1_charAt_3b067 2 (some .char)) ∈ wsT := cV9_3 (List.mem_of_getElem? (i := 22) rfl)
theorem v_167 : (Cond.fieldLink RX3 9 "MineHoist$Trip" "kind" "C") ∈ wsT := cV9_3 (List.mem_of_getElem? (i := 23) rfl)
theorem v_168 : (Cond.fieldLink RX5 10 "MineHoist" "mine" "LMineHoist$Mine;") ∈ wsT := cV9_3 (List.mem_of_getElem? (i := 24) rfl)
theorem v_169 : (Cond.fieldLink RX5 146 "MineHoist$Mine" "trip" "LMineHoist$Trip;") ∈ wsT := cV9_3 (List.mem_of_getElem? (i := 25) rfl)
theorem v_170 : (Cond.fieldLink RX5 22 "MineHoist" "line" "Ljava/lang/StringBuilder;") ∈ wsT := cV9_3 (List.mem_of_getElem? (i := 26) rfl)
theorem v_171 : (Cond.methodLink RX5 243 yJ4_setLength_d00df) ∈ wsT := cV9_3 (List.mem_of_getElem? (i := 27) rfl)
theorem v_172 : (Cond.instanceMethod yJ4_setLength_d00df) ∈ wsT := cV9_3 (List.mem_of_getElem? (i := 28) rfl)
theorem v_173 : (Cond.selects RJ4 yJ4_setLength_d00df yJ4_setLength_d00df) ∈ wsT := cV9_3 (List.mem_of_getElem? (i := 29) rfl)
theorem v_174 : (Cond.code yJ4_setLength_d00df cJ4_setLength_d00df 2 none) ∈ wsT := cV9_3 (List.mem_of_getElem? (i := 30) rfl)
theorem v_175 : (Cond.methodLink RX5 246 yX3_word) ∈ wsT := cV9_3 (List.mem_of_getElem? (i := 31) rfl)
theorem v_176 : (Cond.instanceMethod yX3_word) ∈ wsT := cV9_3 (List.mem_of_getElem? (i := 32) rfl)
theorem v_177 : (Cond.selects RX3 yX3_word yX3_word) ∈ wsT := cV9_3 (List.mem_of_getElem? (i := 33) rfl)
theorem v_178 : (Cond.initialized RX3) ∈ wsT := cV9_3 (List.mem_of_getElem? (i := 34) rfl)
theorem v_179 : (Cond.code yX3_word cX3_word 1 (some (.object "java/lang/String"))) ∈ wsT := cV9_3 (List.mem_of_getElem? (i := 35) rfl)
theorem v_180 : (Cond.methodLink RX5 250 yJ4_append_15ec4) ∈ wsT := cV9_3 (List.mem_of_getElem? (i := 36) rfl)
theorem v_181 : (Cond.instanceMethod yJ4_append_15ec4) ∈ wsT := cV9_3 (List.mem_of_getElem? (i := 37) rfl)
theorem v_182 : (Cond.selects RJ4 yJ4_append_15ec4 yJ4_append_15ec4) ∈ wsT := cV9_3 (List.mem_of_getElem? (i := 38) rfl)
theorem v_183 : (Cond.code yJ4_append_15ec4 cJ4_append_15ec4 2 (some (.object "java/lang/StringBuilder"))) ∈ wsT := cV9_3 (List.mem_of_getElem? (i := 39) rfl)
theorem v_184 : (Cond.methodLink RX5 254 yX3_isOn) ∈ wsT := cV9_3 (List.mem_of_getElem? (i := 40) rfl)
theorem v_185 : (Cond.instanceMethod yX3_isOn) ∈ wsT := cV9_3 (List.mem_of_getElem? (i := 41) rfl)
theorem v_186 : (Cond.selects RX3 yX3_isOn yX3_isOn) ∈ wsT := cV9_3 (List.mem_of_getElem? (i := 42) rfl)
theorem v_187 : (Cond.code yX3_isOn cX3_isOn 1 (some .boolean)) ∈ wsT := cV9_3 (List.mem_of_getElem? (i := 43) rfl)
theorem v_188 : (Cond.methodLink RX5 268 yJ4_length_8abf5) ∈ wsT := cV9_3 (List.mem_of_getElem? (i := 44) rfl)
theorem v_189 : (Cond.selects RJ4 yJ4_length_8abf5 yJ4_length_8abf5) ∈ wsT := cV9_3 (List.mem_of_getElem? (i := 45) rfl)
theorem v_190 : (Cond.methodLink RX5 258 yJ4_append_cf468) ∈ wsT := cV9_3 (List.mem_of_getElem? (i := 46) rfl)
theorem v_191 : (Cond.instanceMethod yJ4_append_cf468) ∈ wsT := cV9_3 (List.mem_of_getElem? (i := 47) rfl)
theorem kV9_3 : wsV9_3.all goodWord = true := by decide +kernel
theorem cV9_4 {w : Cond} (h : w ∈ wsV9_4) : w ∈ wsT := List.mem_append_right _ (List.mem_append_right _ (List.mem_append_right _ (List.mem_append_right _ (List.mem_append_right _ (List.mem_append_left _ (h))))))
theorem v_192 : (Cond.selects RJ4 yJ4_append_cf468 yJ4_append_cf468) ∈ wsT := cV9_4 (List.mem_of_getElem? (i := 0) rfl)
theorem v_193 : (Cond.code yJ4_append_cf468 cJ4_append_cf468 2 (some (.object "java/lang/StringBuilder"))) ∈ wsT := cV9_4 (List.mem_of_getElem? (i := 1) rfl)
theorem v_194 : (Cond.fieldLink RX5 218 "MineHoist$Trip" "load" "I") ∈ wsT := cV9_4 (List.mem_of_getElem? (i := 2) rfl)
theorem v_195 : (Cond.methodLink RX5 261 yJ4_append_bf812) ∈ wsT := cV9_4 (List.mem_of_getElem? (i := 3) rfl)
theorem v_196 : (Cond.instanceMethod yJ4_append_bf812) ∈ wsT := cV9_4 (List.mem_of_getElem? (i := 4) rfl)
theorem v_197 : (Cond.selects RJ4 yJ4_append_bf812 yJ4_append_bf812) ∈ wsT := cV9_4 (List.mem_of_getElem? (i := 5) rfl)
theorem v_198 : (Cond.code yJ4_append_bf812 cJ4_append_bf812 2 (some (.object "java/lang/StringBuilder"))) ∈ wsT := cV9_4 (List.mem_of_getElem? (i := 6) rfl)
theorem v_199 : (Cond.fieldLink RX5 215 "MineHoist$Trip" "level" "I") ∈ wsT := cV9_4 (List.mem_of_getElem? (i := 7) rfl)
theorem v_200 : (Cond.fieldLink RX5 221 "MineHoist$Trip" "rest" "I") ∈ wsT := cV9_4 (List.mem_of_getElem? (i := 8) rfl)
theorem v_201 : (Cond.fieldLink RX6 48 "MineHoistModel" "thrown" "I") ∈ wsT := cV9_4 (List.mem_of_getElem? (i := 9) rfl)
theorem v_202 : (Cond.classLink RX6 153 RJ4) ∈ wsT := cV9_4 (List.mem_of_getElem? (i := 10) rfl)
theorem v_203 : (Cond.instantiable RJ4 4) ∈ wsT := cV9_4 (List.mem_of_getElem? (i := 11) rfl)
theorem v_204 : (Cond.code yJ4_init_da8c8 cJ4_init_da8c8 1 none) ∈ wsT := cV9_4 (List.mem_of_getElem? (i := 12) rfl)
theorem v_205 : (Cond.methodLink RX6 155 yJ4_init_da8c8) ∈ wsT := cV9_4 (List.mem_of_getElem? (i := 13) rfl)
theorem v_206 : (Cond.instanceMethod yJ4_init_da8c8) ∈ wsT := cV9_4 (List.mem_of_getElem? (i := 14) rfl)
theorem v_207 : (Cond.fieldLink RX6 36 "MineHoistModel" "s" "[I") ∈ wsT := cV9_4 (List.mem_of_getElem? (i := 15) rfl)
theorem v_208 : (Cond.methodLink RX6 158 yJ4_append_15ec4) ∈ wsT := cV9_4 (List.mem_of_getElem? (i := 16) rfl)
theorem v_209 : (Cond.methodLink RX6 170 yJ4_append_cf468) ∈ wsT := cV9_4 (List.mem_of_getElem? (i := 17) rfl)
theorem v_210 : (Cond.methodLink RX6 173 yJ4_append_bf812) ∈ wsT := cV9_4 (List.mem_of_getElem? (i := 18) rfl)
theorem v_211 : (Cond.methodLink RX6 179 yJ4_toString_0e30d) ∈ wsT := cV9_4 (List.mem_of_getElem? (i := 19) rfl)
theorem v_212 : (Cond.instanceMethod yJ4_toString_0e30d) ∈ wsT := cV9_4 (List.mem_of_getElem? (i := 20) rfl)
theorem v_213 : (Cond.selects RJ4 yJ4_toString_0e30d yJ4_toString_0e30d) ∈ wsT := cV9_4 (List.mem_of_getElem? (i := 21) rfl)
theorem v_214 : (Cond.code yJ4_toString_0e30d cJ4_toString_0e30d 1 (some (.object "java/lang/String"))) ∈ wsT := cV9_4 (List.mem_of_getElem? (i := 22) rfl)
theorem v_215 : (Cond.fieldLink RX6 44 "MineHoistModel" "line" "Ljava/lang/String;") ∈ wsT := cV9_4 (List.mem_of_getElem? (i := 23) rfl)
theorem v_216 : (Cond.methodLink RX6 183 yJ0_length_8abf5) ∈ wsT := cV9_4 (List.mem_of_getElem? (i := 24) rfl)
theorem v_217 : (Cond.methodLink RX6 54 yX6_in) ∈ wsT := cV9_4 (List.mem_of_getElem? (i := 25) rfl)
theorem v_218 : (Cond.static yX6_in) ∈ wsT := cV9_4 (List.mem_of_getElem? (i := 26) rfl)
theorem v_219 : (Cond.initialized RX6) ∈ wsT := cV9_4 (List.mem_of_getElem? (i := 27) rfl)
theorem v_220 : (Cond.code yX6_in cX6_in 3 (some .boolean)) ∈ wsT := cV9_4 (List.mem_of_getElem? (i := 28) rfl)
theorem v_221 : (Cond.methodLink RX6 189 yJ0_charAt_5068e) ∈ wsT := cV9_4 (List.mem_of_getElem? (i := 29) rfl)
theorem v_222 : (Cond.instanceMethod yJ0_charAt_5068e) ∈ wsT := cV9_4 (List.mem_of_getElem? (i := 30) rfl)
theorem v_223 : (Cond.selects RJ0 yJ0_charAt_5068e yJ0_charAt_5068e) ∈ wsT := cV9_4 (List.mem_of_getElem? (i := 31) rfl)
theorem v_224 : (Cond.code yJ0_charAt_5068e cJ0_charAt_5068e 2 (some .char)) ∈ wsT := cV9_4 (List.mem_of_getElem? (i := 32) rfl)
theorem v_225 : (Cond.methodLink RX5 273 yJ4_charAt_5068e) ∈ wsT := cV9_4 (List.mem_of_getElem? (i := 33) rfl)
theorem v_226 : (Cond.instanceMethod yJ4_charAt_5068e) ∈ wsT := cV9_4 (List.mem_of_getElem? (i := 34) rfl)
theorem v_227 : (Cond.selects RJ4 yJ4_charAt_5068e yJ4_charAt_5068e) ∈ wsT := cV9_4 (List.mem_of_getElem? (i := 35) rfl)
theorem v_228 : (Cond.code yJ4_charAt_5068e cJ4_charAt_5068e 2 (some .char)) ∈ wsT := cV9_4 (List.mem_of_getElem? (i := 36) rfl)
theorem v_229 : (Cond.classLink RX5 194 "java/lang/IndexOutOfBoundsException") ∈ wsT := cV9_4 (List.mem_of_getElem? (i := 37) rfl)
theorem v_230 : (Cond.initialized "java/lang/IndexOutOfBoundsException") ∈ wsT := cV9_4 (List.mem_of_getElem? (i := 38) rfl)
theorem v_231 : (Cond.methodLink RL 112 yX5_lineAt) ∈ wsT := cV9_4 (List.mem_of_getElem? (i := 39) rfl)
theorem v_232 : (Cond.instanceMethod yX5_lineAt) ∈ wsT := cV9_4 (List.mem_of_getElem? (i := 40) rfl)
theorem v_233 : (Cond.selects RX5 yX5_lineAt yX5_lineAt) ∈ wsT := cV9_4 (List.mem_of_getElem? (i := 41) rfl)
theorem v_234 : (Cond.initialized RX5) ∈ wsT := cV9_4 (List.mem_of_getElem? (i := 42) rfl)
theorem v_235 : (Cond.code yX5_lineAt cX5_lineAt 2 (some .char)) ∈ wsT := cV9_4 (List.mem_of_getElem? (i := 43) rfl)
theorem v_236 : (Cond.classLink RL 21 "java/lang/IndexOutOfBoundsException") ∈ wsT := cV9_4 (List.mem_of_getElem? (i := 44) rfl)
theorem v_237 : (Cond.methodLink RX0 1 objectInit) ∈ wsT := cV9_4 (List.mem_of_getElem? (i := 45) rfl)
theorem v_238 : (Cond.methodLink RX2 1 objectInit) ∈ wsT := cV9_4 (List.mem_of_getElem? (i := 46) rfl)
theorem v_239 : (Cond.methodLink RX3 3 objectInit) ∈ wsT := cV9_4 (List.mem_of_getElem? (i := 47) rfl)
theorem kV9_4 : wsV9_4.all goodWord = true := by decide +kernel
theorem cV9_5 {w : Cond} (h : w ∈ wsV9_5) : w ∈ wsT := List.mem_append_right _ (List.mem_append_right _ (List.mem_append_right _ (List.mem_append_right _ (List.mem_append_right _ (List.mem_append_right _ (List.mem_append_left _ (h)))))))
theorem v_240 : (Cond.fieldLink RX3 15 "MineHoist$Trip" "request" "I") ∈ wsT := cV9_5 (List.mem_of_getElem? (i := 0) rfl)
theorem v_241 : (Cond.methodLink RX4 3 objectInit) ∈ wsT := cV9_5 (List.mem_of_getElem? (i := 1) rfl)
theorem v_242 : (Cond.classLink RX4 9 RX2) ∈ wsT := cV9_5 (List.mem_of_getElem? (i := 2) rfl)
theorem v_243 : (Cond.fieldLink RX4 11 "MineHoist$Waiting" "rows" "[LMineHoist$Request;") ∈ wsT := cV9_5 (List.mem_of_getElem? (i := 3) rfl)
theorem v_244 : (Cond.instantiable RX2 4) ∈ wsT := cV9_5 (List.mem_of_getElem? (i := 4) rfl)
theorem v_245 : (Cond.initialized RX2) ∈ wsT := cV9_5 (List.mem_of_getElem? (i := 5) rfl)
theorem v_246 : (Cond.code yX2_init cX2_init 1 none) ∈ wsT := cV9_5 (List.mem_of_getElem? (i := 6) rfl)
theorem v_247 : (Cond.instanceMethod yX2_init) ∈ wsT := cV9_5 (List.mem_of_getElem? (i := 7) rfl)
theorem v_248 : (Cond.methodLink RX1 3 objectInit) ∈ wsT := cV9_5 (List.mem_of_getElem? (i := 8) rfl)
theorem v_249 : (Cond.classLink RX1 9 RX0) ∈ wsT := cV9_5 (List.mem_of_getElem? (i := 9) rfl)
theorem v_250 : (Cond.instantiable RX0 11) ∈ wsT := cV9_5 (List.mem_of_getElem? (i := 10) rfl)
theorem v_251 : (Cond.initialized RX0) ∈ wsT := cV9_5 (List.mem_of_getElem? (i := 11) rfl)
theorem v_252 : (Cond.code yX0_init cX0_init 1 none) ∈ wsT := cV9_5 (List.mem_of_getElem? (i := 12) rfl)
theorem v_253 : (Cond.instanceMethod yX0_init) ∈ wsT := cV9_5 (List.mem_of_getElem? (i := 13) rfl)
theorem v_254 : (Cond.fieldLink RX1 12 "MineHoist$Mine" "surface" "LMineHoist$Level;") ∈ wsT := cV9_5 (List.mem_of_getElem? (i := 14) rfl)
theorem v_255 : (Cond.fieldLink RX1 18 "MineHoist$Mine" "places" "[LMineHoist$Level;") ∈ wsT := cV9_5 (List.mem_of_getElem? (i := 15) rfl)
theorem v_256 : (Cond.classLink RX1 22 RX4) ∈ wsT := cV9_5 (List.mem_of_getElem? (i := 16) rfl)
theorem v_257 : (Cond.instantiable RX4 2) ∈ wsT := cV9_5 (List.mem_of_getElem? (i := 17) rfl)
theorem v_258 : (Cond.initialized RX4) ∈ wsT := cV9_5 (List.mem_of_getElem? (i := 18) rfl)
theorem v_259 : (Cond.code yX4_init cX4_init 2 none) ∈ wsT := cV9_5 (List.mem_of_getElem? (i := 19) rfl)
theorem v_260 : (Cond.methodLink RX1 24 yX4_init) ∈ wsT := cV9_5 (List.mem_of_getElem? (i := 20) rfl)
theorem v_261 : (Cond.instanceMethod yX4_init) ∈ wsT := cV9_5 (List.mem_of_getElem? (i := 21) rfl)
theorem v_262 : (Cond.fieldLink RX1 25 "MineHoist$Mine" "waiting" "LMineHoist$Waiting;") ∈ wsT := cV9_5 (List.mem_of_getElem? (i := 22) rfl)
theorem v_263 : (Cond.classLink RX1 29 RX3) ∈ wsT := cV9_5 (List.mem_of_getElem? (i := 23) rfl)
theorem v_264 : (Cond.instantiable RX3 5) ∈ wsT := cV9_5 (List.mem_of_getElem? (i := 24) rfl)
theorem v_265 : (Cond.code yX3_init cX3_init 1 none) ∈ wsT := cV9_5 (List.mem_of_getElem? (i := 25) rfl)
theorem v_266 : (Cond.instanceMethod yX3_init) ∈ wsT := cV9_5 (List.mem_of_getElem? (i := 26) rfl)
theorem v_267 : (Cond.fieldLink RX1 32 "MineHoist$Mine" "trip" "LMineHoist$Trip;") ∈ wsT := cV9_5 (List.mem_of_getElem? (i := 27) rfl)
theorem v_268 : (Cond.fieldLink RX1 36 "MineHoist$Mine" "fan" "I") ∈ wsT := cV9_5 (List.mem_of_getElem? (i := 28) rfl)
theorem v_269 : (Cond.fieldLink RX1 40 "MineHoist$Mine" "limit" "I") ∈ wsT := cV9_5 (List.mem_of_getElem? (i := 29) rfl)
theorem v_270 : (Cond.fieldLink RX1 43 "MineHoist$Mine" "speed" "I") ∈ wsT := cV9_5 (List.mem_of_getElem? (i := 30) rfl)
theorem v_271 : (Cond.fieldLink RX1 46 "MineHoist$Mine" "cage" "I") ∈ wsT := cV9_5 (List.mem_of_getElem? (i := 31) rfl)
theorem v_272 : (Cond.fieldLink RX1 49 "MineHoist$Mine" "requestDone" "I") ∈ wsT := cV9_5 (List.mem_of_getElem? (i := 32) rfl)
theorem v_273 : (Cond.methodLink RX5 1 objectInit) ∈ wsT := cV9_5 (List.mem_of_getElem? (i := 33) rfl)
theorem v_274 : (Cond.classLink RX5 7 RX1) ∈ wsT := cV9_5 (List.mem_of_getElem? (i := 34) rfl)
theorem v_275 : (Cond.instantiable RX1 16) ∈ wsT := cV9_5 (List.mem_of_getElem? (i := 35) rfl)
theorem v_276 : (Cond.initialized RX1) ∈ wsT := cV9_5 (List.mem_of_getElem? (i := 36) rfl)
theorem v_277 : (Cond.code yX1_init cX1_init 2 none) ∈ wsT := cV9_5 (List.mem_of_getElem? (i := 37) rfl)
theorem v_278 : (Cond.methodLink RX5 9 yX1_init) ∈ wsT := cV9_5 (List.mem_of_getElem? (i := 38) rfl)
theorem v_279 : (Cond.instanceMethod yX1_init) ∈ wsT := cV9_5 (List.mem_of_getElem? (i := 39) rfl)
theorem v_280 : (Cond.fieldLink RX5 16 "MineHoist" "trial" "LMineHoist$Mine;") ∈ wsT := cV9_5 (List.mem_of_getElem? (i := 40) rfl)
theorem v_281 : (Cond.classLink RX5 19 RJ4) ∈ wsT := cV9_5 (List.mem_of_getElem? (i := 41) rfl)
theorem v_282 : (Cond.methodLink RX5 21 yJ4_init_da8c8) ∈ wsT := cV9_5 (List.mem_of_getElem? (i := 42) rfl)
theorem v_283 : (Cond.methodLink RX6 1 objectInit) ∈ wsT := cV9_5 (List.mem_of_getElem? (i := 43) rfl)
theorem v_284 : (Cond.arrayClass .int) ∈ wsT := cV9_5 (List.mem_of_getElem? (i := 44) rfl)
theorem v_285 : (Cond.fieldLink RX6 9 "MineHoistModel" "depths" "[I") ∈ wsT := cV9_5 (List.mem_of_getElem? (i := 45) rfl)
theorem v_286 : (Cond.fieldLink RX6 13 "MineHoistModel" "sizes" "[I") ∈ wsT := cV9_5 (List.mem_of_getElem? (i := 46) rfl)
theorem v_287 : (Cond.fieldLink RX6 16 "MineHoistModel" "widths" "[I") ∈ wsT := cV9_5 (List.mem_of_getElem? (i := 47) rfl)
theorem kV9_5 : wsV9_5.all goodWord = true := by decide +kernel
theorem cV9_6 {w : Cond} (h : w ∈ wsV9_6) : w ∈ wsT := List.mem_append_right _ (List.mem_append_right _ (List.mem_append_right _ (List.mem_append_right _ (List.mem_append_right _ (List.mem_append_right _ (List.mem_append_right _ (List.mem_append_left _ (h))))))))
theorem v_288 : (Cond.fieldLink RX6 19 "MineHoistModel" "inflows" "[I") ∈ wsT := cV9_6 (List.mem_of_getElem? (i := 0) rfl)
theorem v_289 : (Cond.arrayClass .boolean) ∈ wsT := cV9_6 (List.mem_of_getElem? (i := 1) rfl)
theorem v_290 : (Cond.fieldLink RX6 22 "MineHoistModel" "isOpen" "[Z") ∈ wsT := cV9_6 (List.mem_of_getElem? (i := 2) rfl)
theorem v_291 : (Cond.fieldLink RX6 26 "MineHoistModel" "fan" "I") ∈ wsT := cV9_6 (List.mem_of_getElem? (i := 3) rfl)
theorem v_292 : (Cond.fieldLink RX6 30 "MineHoistModel" "limit" "I") ∈ wsT := cV9_6 (List.mem_of_getElem? (i := 4) rfl)
theorem v_293 : (Cond.fieldLink RX6 33 "MineHoistModel" "speed" "I") ∈ wsT := cV9_6 (List.mem_of_getElem? (i := 5) rfl)
theorem v_294 : (Cond.fieldLink RX6 39 "MineHoistModel" "kept" "[I") ∈ wsT := cV9_6 (List.mem_of_getElem? (i := 6) rfl)
theorem v_295 : (Cond.methodLink RL 120 yL_addLevel) ∈ wsT := cV9_6 (List.mem_of_getElem? (i := 7) rfl)
theorem v_296 : (Cond.static yL_addLevel) ∈ wsT := cV9_6 (List.mem_of_getElem? (i := 8) rfl)
theorem v_297 : (Cond.initialized RL) ∈ wsT := cV9_6 (List.mem_of_getElem? (i := 9) rfl)
theorem v_298 : (Cond.codeWith yL_addLevel cL_addLevel 7 (some .int) [(0, 14, 17, 13), (0, 14, 21, 15)]) ∈ wsT := cV9_6 (List.mem_of_getElem? (i := 10) rfl)
theorem v_299 : (Cond.methodLink RL 125 yX6_addLevel) ∈ wsT := cV9_6 (List.mem_of_getElem? (i := 11) rfl)
theorem v_300 : (Cond.instanceMethod yX6_addLevel) ∈ wsT := cV9_6 (List.mem_of_getElem? (i := 12) rfl)
theorem v_301 : (Cond.selects RX6 yX6_addLevel yX6_addLevel) ∈ wsT := cV9_6 (List.mem_of_getElem? (i := 13) rfl)
theorem v_302 : (Cond.code yX6_addLevel cX6_addLevel 6 (some .int)) ∈ wsT := cV9_6 (List.mem_of_getElem? (i := 14) rfl)
theorem v_303 : (Cond.methodLink RL 126 yX6_thrown) ∈ wsT := cV9_6 (List.mem_of_getElem? (i := 15) rfl)
theorem v_304 : (Cond.instanceMethod yX6_thrown) ∈ wsT := cV9_6 (List.mem_of_getElem? (i := 16) rfl)
theorem v_305 : (Cond.selects RX6 yX6_thrown yX6_thrown) ∈ wsT := cV9_6 (List.mem_of_getElem? (i := 17) rfl)
theorem v_306 : (Cond.code yX6_thrown cX6_thrown 1 (some .int)) ∈ wsT := cV9_6 (List.mem_of_getElem? (i := 18) rfl)
theorem v_307 : (Cond.methodLink RL 129 yX5_levelCount) ∈ wsT := cV9_6 (List.mem_of_getElem? (i := 19) rfl)
theorem v_308 : (Cond.instanceMethod yX5_levelCount) ∈ wsT := cV9_6 (List.mem_of_getElem? (i := 20) rfl)
theorem v_309 : (Cond.selects RX5 yX5_levelCount yX5_levelCount) ∈ wsT := cV9_6 (List.mem_of_getElem? (i := 21) rfl)
theorem v_310 : (Cond.code yX5_levelCount cX5_levelCount 1 (some .int)) ∈ wsT := cV9_6 (List.mem_of_getElem? (i := 22) rfl)
theorem v_311 : (Cond.methodLink RL 132 yX6_levelCount) ∈ wsT := cV9_6 (List.mem_of_getElem? (i := 23) rfl)
theorem v_312 : (Cond.instanceMethod yX6_levelCount) ∈ wsT := cV9_6 (List.mem_of_getElem? (i := 24) rfl)
theorem v_313 : (Cond.selects RX6 yX6_levelCount yX6_levelCount) ∈ wsT := cV9_6 (List.mem_of_getElem? (i := 25) rfl)
theorem v_314 : (Cond.code yX6_levelCount cX6_levelCount 1 (some .int)) ∈ wsT := cV9_6 (List.mem_of_getElem? (i := 26) rfl)
theorem v_315 : (Cond.methodLink RL 133 yL_depthOf) ∈ wsT := cV9_6 (List.mem_of_getElem? (i := 27) rfl)
theorem v_316 : (Cond.static yL_depthOf) ∈ wsT := cV9_6 (List.mem_of_getElem? (i := 28) rfl)
theorem v_317 : (Cond.codeWith yL_depthOf cL_depthOf 4 (some .int) [(0, 9, 12, 21)]) ∈ wsT := cV9_6 (List.mem_of_getElem? (i := 29) rfl)
theorem v_318 : (Cond.methodLink RL 136 yX6_depthOf) ∈ wsT := cV9_6 (List.mem_of_getElem? (i := 30) rfl)
theorem v_319 : (Cond.instanceMethod yX6_depthOf) ∈ wsT := cV9_6 (List.mem_of_getElem? (i := 31) rfl)
theorem v_320 : (Cond.selects RX6 yX6_depthOf yX6_depthOf) ∈ wsT := cV9_6 (List.mem_of_getElem? (i := 32) rfl)
theorem v_321 : (Cond.code yX6_depthOf cX6_depthOf 2 (some .int)) ∈ wsT := cV9_6 (List.mem_of_getElem? (i := 33) rfl)
theorem v_322 : (Cond.methodLink RL 137 yL_setFan) ∈ wsT := cV9_6 (List.mem_of_getElem? (i := 34) rfl)
theorem v_323 : (Cond.static yL_setFan) ∈ wsT := cV9_6 (List.mem_of_getElem? (i := 35) rfl)
theorem v_324 : (Cond.codeWith yL_setFan cL_setFan 4 (some .int) [(0, 9, 12, 13)]) ∈ wsT := cV9_6 (List.mem_of_getElem? (i := 36) rfl)
theorem v_325 : (Cond.methodLink RL 139 yX6_setFan) ∈ wsT := cV9_6 (List.mem_of_getElem? (i := 37) rfl)
theorem v_326 : (Cond.instanceMethod yX6_setFan) ∈ wsT := cV9_6 (List.mem_of_getElem? (i := 38) rfl)
theorem v_327 : (Cond.selects RX6 yX6_setFan yX6_setFan) ∈ wsT := cV9_6 (List.mem_of_getElem? (i := 39) rfl)
theorem v_328 : (Cond.code yX6_setFan cX6_setFan 3 (some .int)) ∈ wsT := cV9_6 (List.mem_of_getElem? (i := 40) rfl)
theorem v_329 : (Cond.methodLink RL 140 yL_setDoor) ∈ wsT := cV9_6 (List.mem_of_getElem? (i := 41) rfl)
theorem v_330 : (Cond.static yL_setDoor) ∈ wsT := cV9_6 (List.mem_of_getElem? (i := 42) rfl)
theorem v_331 : (Cond.codeWith yL_setDoor cL_setDoor 5 (some .int) [(0, 17, 20, 21)]) ∈ wsT := cV9_6 (List.mem_of_getElem? (i := 43) rfl)
theorem v_332 : (Cond.methodLink RL 143 yX6_setDoor) ∈ wsT := cV9_6 (List.mem_of_getElem? (i := 44) rfl)
theorem v_333 : (Cond.instanceMethod yX6_setDoor) ∈ wsT := cV9_6 (List.mem_of_getElem? (i := 45) rfl)
theorem v_334 : (Cond.selects RX6 yX6_setDoor yX6_setDoor) ∈ wsT := cV9_6 (List.mem_of_getElem? (i := 46) rfl)
theorem v_335 : (Cond.code yX6_setDoor cX6_setDoor 4 (some .boolean)) ∈ wsT := cV9_6 (List.mem_of_getElem? (i := 47) rfl)
theorem kV9_6 : wsV9_6.all goodWord = true := by decide +kernel
theorem cV9_7 {w : Cond} (h : w ∈ wsV9_7) : w ∈ wsT := List.mem_append_right _ (List.mem_append_right _ (List.mem_append_right _ (List.mem_append_right _ (List.mem_append_right _ (List.mem_append_right _ (List.mem_append_right _ (List.mem_append_right _ (List.mem_append_left _ (h)))))))))
theorem v_336 : (Cond.methodLink RL 144 yL_airOf) ∈ wsT := cV9_7 (List.mem_of_getElem? (i := 0) rfl)
theorem v_337 : (Cond.static yL_airOf) ∈ wsT := cV9_7 (List.mem_of_getElem? (i := 1) rfl)
theorem v_338 : (Cond.codeWith yL_airOf cL_airOf 4 (some .int) [(0, 9, 12, 21)]) ∈ wsT := cV9_7 (List.mem_of_getElem? (i := 2) rfl)
theorem v_339 : (Cond.methodLink RL 146 yX6_airOf) ∈ wsT := cV9_7 (List.mem_of_getElem? (i := 3) rfl)
theorem v_340 : (Cond.instanceMethod yX6_airOf) ∈ wsT := cV9_7 (List.mem_of_getElem? (i := 4) rfl)
theorem v_341 : (Cond.selects RX6 yX6_airOf yX6_airOf) ∈ wsT := cV9_7 (List.mem_of_getElem? (i := 5) rfl)
theorem v_342 : (Cond.code yX6_airOf cX6_airOf 2 (some .int)) ∈ wsT := cV9_7 (List.mem_of_getElem? (i := 6) rfl)
theorem v_343 : (Cond.methodLink RL 147 yL_airByPaths) ∈ wsT := cV9_7 (List.mem_of_getElem? (i := 7) rfl)
theorem v_344 : (Cond.static yL_airByPaths) ∈ wsT := cV9_7 (List.mem_of_getElem? (i := 8) rfl)
theorem v_345 : (Cond.codeWith yL_airByPaths cL_airByPaths 4 (some .int) [(0, 9, 12, 21)]) ∈ wsT := cV9_7 (List.mem_of_getElem? (i := 9) rfl)
theorem v_346 : (Cond.methodLink RL 149 yX6_airByPaths) ∈ wsT := cV9_7 (List.mem_of_getElem? (i := 10) rfl)
theorem v_347 : (Cond.instanceMethod yX6_airByPaths) ∈ wsT := cV9_7 (List.mem_of_getElem? (i := 11) rfl)
theorem v_348 : (Cond.selects RX6 yX6_airByPaths yX6_airByPaths) ∈ wsT := cV9_7 (List.mem_of_getElem? (i := 12) rfl)
theorem v_349 : (Cond.code yX6_airByPaths cX6_airByPaths 2 (some .int)) ∈ wsT := cV9_7 (List.mem_of_getElem? (i := 13) rfl)
theorem v_350 : (Cond.methodLink RL 150 yL_setLimit) ∈ wsT := cV9_7 (List.mem_of_getElem? (i := 14) rfl)
theorem v_351 : (Cond.static yL_setLimit) ∈ wsT := cV9_7 (List.mem_of_getElem? (i := 15) rfl)
theorem v_352 : (Cond.codeWith yL_setLimit cL_setLimit 4 (some .int) [(0, 9, 12, 13)]) ∈ wsT := cV9_7 (List.mem_of_getElem? (i := 16) rfl)
theorem v_353 : (Cond.methodLink RL 152 yX6_setLimit) ∈ wsT := cV9_7 (List.mem_of_getElem? (i := 17) rfl)
theorem v_354 : (Cond.instanceMethod yX6_setLimit) ∈ wsT := cV9_7 (List.mem_of_getElem? (i := 18) rfl)
theorem v_355 : (Cond.selects RX6 yX6_setLimit yX6_setLimit) ∈ wsT := cV9_7 (List.mem_of_getElem? (i := 19) rfl)
theorem v_356 : (Cond.code yX6_setLimit cX6_setLimit 3 (some .int)) ∈ wsT := cV9_7 (List.mem_of_getElem? (i := 20) rfl)
theorem v_357 : (Cond.methodLink RL 153 yL_gasOf) ∈ wsT := cV9_7 (List.mem_of_getElem? (i := 21) rfl)
theorem v_358 : (Cond.static yL_gasOf) ∈ wsT := cV9_7 (List.mem_of_getElem? (i := 22) rfl)
theorem v_359 : (Cond.codeWith yL_gasOf cL_gasOf 4 (some .int) [(0, 9, 12, 21)]) ∈ wsT := cV9_7 (List.mem_of_getElem? (i := 23) rfl)
theorem v_360 : (Cond.methodLink RL 155 yX6_gasOf) ∈ wsT := cV9_7 (List.mem_of_getElem? (i := 24) rfl)
theorem v_361 : (Cond.instanceMethod yX6_gasOf) ∈ wsT := cV9_7 (List.mem_of_getElem? (i := 25) rfl)
theorem v_362 : (Cond.selects RX6 yX6_gasOf yX6_gasOf) ∈ wsT := cV9_7 (List.mem_of_getElem? (i := 26) rfl)
theorem v_363 : (Cond.code yX6_gasOf cX6_gasOf 2 (some .int)) ∈ wsT := cV9_7 (List.mem_of_getElem? (i := 27) rfl)
theorem v_364 : (Cond.methodLink RL 156 yL_gasShare) ∈ wsT := cV9_7 (List.mem_of_getElem? (i := 28) rfl)
theorem v_365 : (Cond.static yL_gasShare) ∈ wsT := cV9_7 (List.mem_of_getElem? (i := 29) rfl)
theorem v_366 : (Cond.codeWith yL_gasShare cL_gasShare 4 (some .int) [(0, 9, 12, 21)]) ∈ wsT := cV9_7 (List.mem_of_getElem? (i := 30) rfl)
theorem v_367 : (Cond.methodLink RL 158 yX6_gasShare) ∈ wsT := cV9_7 (List.mem_of_getElem? (i := 31) rfl)
theorem v_368 : (Cond.instanceMethod yX6_gasShare) ∈ wsT := cV9_7 (List.mem_of_getElem? (i := 32) rfl)
theorem v_369 : (Cond.selects RX6 yX6_gasShare yX6_gasShare) ∈ wsT := cV9_7 (List.mem_of_getElem? (i := 33) rfl)
theorem v_370 : (Cond.code yX6_gasShare cX6_gasShare 2 (some .int)) ∈ wsT := cV9_7 (List.mem_of_getElem? (i := 34) rfl)
theorem v_371 : (Cond.methodLink RL 159 yL_isAlarm) ∈ wsT := cV9_7 (List.mem_of_getElem? (i := 35) rfl)
theorem v_372 : (Cond.static yL_isAlarm) ∈ wsT := cV9_7 (List.mem_of_getElem? (i := 36) rfl)
theorem v_373 : (Cond.codeWith yL_isAlarm cL_isAlarm 4 (some .int) [(0, 16, 19, 21)]) ∈ wsT := cV9_7 (List.mem_of_getElem? (i := 37) rfl)
theorem v_374 : (Cond.methodLink RL 161 yX6_isAlarm) ∈ wsT := cV9_7 (List.mem_of_getElem? (i := 38) rfl)
theorem v_375 : (Cond.instanceMethod yX6_isAlarm) ∈ wsT := cV9_7 (List.mem_of_getElem? (i := 39) rfl)
theorem v_376 : (Cond.selects RX6 yX6_isAlarm yX6_isAlarm) ∈ wsT := cV9_7 (List.mem_of_getElem? (i := 40) rfl)
theorem v_377 : (Cond.code yX6_isAlarm cX6_isAlarm 2 (some .boolean)) ∈ wsT := cV9_7 (List.mem_of_getElem? (i := 41) rfl)
theorem v_378 : (Cond.methodLink RL 162 yX5_gasTotal) ∈ wsT := cV9_7 (List.mem_of_getElem? (i := 42) rfl)
theorem v_379 : (Cond.instanceMethod yX5_gasTotal) ∈ wsT := cV9_7 (List.mem_of_getElem? (i := 43) rfl)
theorem v_380 : (Cond.selects RX5 yX5_gasTotal yX5_gasTotal) ∈ wsT := cV9_7 (List.mem_of_getElem? (i := 44) rfl)
theorem v_381 : (Cond.code yX5_gasTotal cX5_gasTotal 1 (some .int)) ∈ wsT := cV9_7 (List.mem_of_getElem? (i := 45) rfl)
theorem v_382 : (Cond.methodLink RL 165 yX6_gasTotal) ∈ wsT := cV9_7 (List.mem_of_getElem? (i := 46) rfl)
theorem v_383 : (Cond.instanceMethod yX6_gasTotal) ∈ wsT := cV9_7 (List.mem_of_getElem? (i := 47) rfl)
theorem kV9_7 : wsV9_7.all goodWord = true := by decide +kernel
theorem cV9_8 {w : Cond} (h : w ∈ wsV9_8) : w ∈ wsT := List.mem_append_right _ (List.mem_append_right _ (List.mem_append_right _ (List.mem_append_right _ (List.mem_append_right _ (List.mem_append_right _ (List.mem_append_right _ (List.mem_append_right _ (List.mem_append_right _ (List.mem_append_left _ (h))))))))))
theorem v_384 : (Cond.selects RX6 yX6_gasTotal yX6_gasTotal) ∈ wsT := cV9_8 (List.mem_of_getElem? (i := 0) rfl)
theorem v_385 : (Cond.code yX6_gasTotal cX6_gasTotal 1 (some .int)) ∈ wsT := cV9_8 (List.mem_of_getElem? (i := 1) rfl)
theorem v_386 : (Cond.methodLink RL 166 yX5_ventedTotal) ∈ wsT := cV9_8 (List.mem_of_getElem? (i := 2) rfl)
theorem v_387 : (Cond.instanceMethod yX5_ventedTotal) ∈ wsT := cV9_8 (List.mem_of_getElem? (i := 3) rfl)
theorem v_388 : (Cond.selects RX5 yX5_ventedTotal yX5_ventedTotal) ∈ wsT := cV9_8 (List.mem_of_getElem? (i := 4) rfl)
theorem v_389 : (Cond.code yX5_ventedTotal cX5_ventedTotal 1 (some .int)) ∈ wsT := cV9_8 (List.mem_of_getElem? (i := 5) rfl)
theorem v_390 : (Cond.methodLink RL 169 yX6_ventedTotal) ∈ wsT := cV9_8 (List.mem_of_getElem? (i := 6) rfl)
theorem v_391 : (Cond.instanceMethod yX6_ventedTotal) ∈ wsT := cV9_8 (List.mem_of_getElem? (i := 7) rfl)
theorem v_392 : (Cond.selects RX6 yX6_ventedTotal yX6_ventedTotal) ∈ wsT := cV9_8 (List.mem_of_getElem? (i := 8) rfl)
theorem v_393 : (Cond.code yX6_ventedTotal cX6_ventedTotal 1 (some .int)) ∈ wsT := cV9_8 (List.mem_of_getElem? (i := 9) rfl)
theorem v_394 : (Cond.methodLink RL 170 yL_meanShare) ∈ wsT := cV9_8 (List.mem_of_getElem? (i := 10) rfl)
theorem v_395 : (Cond.static yL_meanShare) ∈ wsT := cV9_8 (List.mem_of_getElem? (i := 11) rfl)
theorem v_396 : (Cond.codeWith yL_meanShare cL_meanShare 3 (some .int) [(0, 7, 10, 53)]) ∈ wsT := cV9_8 (List.mem_of_getElem? (i := 12) rfl)
theorem v_397 : (Cond.methodLink RL 173 yX6_meanShare) ∈ wsT := cV9_8 (List.mem_of_getElem? (i := 13) rfl)
theorem v_398 : (Cond.instanceMethod yX6_meanShare) ∈ wsT := cV9_8 (List.mem_of_getElem? (i := 14) rfl)
theorem v_399 : (Cond.selects RX6 yX6_meanShare yX6_meanShare) ∈ wsT := cV9_8 (List.mem_of_getElem? (i := 15) rfl)
theorem v_400 : (Cond.code yX6_meanShare cX6_meanShare 3 (some .double)) ∈ wsT := cV9_8 (List.mem_of_getElem? (i := 16) rfl)
theorem v_401 : (Cond.methodLink RL 174 yL_minutesToAlarm) ∈ wsT := cV9_8 (List.mem_of_getElem? (i := 17) rfl)
theorem v_402 : (Cond.static yL_minutesToAlarm) ∈ wsT := cV9_8 (List.mem_of_getElem? (i := 18) rfl)
theorem v_403 : (Cond.codeWith yL_minutesToAlarm cL_minutesToAlarm 4 (some .int) [(0, 9, 12, 21), (0, 9, 15, 58)]) ∈ wsT := cV9_8 (List.mem_of_getElem? (i := 19) rfl)
theorem v_404 : (Cond.methodLink RL 176 yX6_minutesToAlarm) ∈ wsT := cV9_8 (List.mem_of_getElem? (i := 20) rfl)
theorem v_405 : (Cond.instanceMethod yX6_minutesToAlarm) ∈ wsT := cV9_8 (List.mem_of_getElem? (i := 21) rfl)
theorem v_406 : (Cond.selects RX6 yX6_minutesToAlarm yX6_minutesToAlarm) ∈ wsT := cV9_8 (List.mem_of_getElem? (i := 22) rfl)
theorem v_407 : (Cond.code yX6_minutesToAlarm cX6_minutesToAlarm 4 (some .int)) ∈ wsT := cV9_8 (List.mem_of_getElem? (i := 23) rfl)
theorem v_408 : (Cond.methodLink RL 177 yL_hire) ∈ wsT := cV9_8 (List.mem_of_getElem? (i := 24) rfl)
theorem v_409 : (Cond.static yL_hire) ∈ wsT := cV9_8 (List.mem_of_getElem? (i := 25) rfl)
theorem v_410 : (Cond.codeWith yL_hire cL_hire 4 (some .int) [(0, 9, 12, 13), (0, 9, 15, 15)]) ∈ wsT := cV9_8 (List.mem_of_getElem? (i := 26) rfl)
theorem v_411 : (Cond.methodLink RL 179 yX6_hire) ∈ wsT := cV9_8 (List.mem_of_getElem? (i := 27) rfl)
theorem v_412 : (Cond.instanceMethod yX6_hire) ∈ wsT := cV9_8 (List.mem_of_getElem? (i := 28) rfl)
theorem v_413 : (Cond.selects RX6 yX6_hire yX6_hire) ∈ wsT := cV9_8 (List.mem_of_getElem? (i := 29) rfl)
theorem v_414 : (Cond.code yX6_hire cX6_hire 2 (some .int)) ∈ wsT := cV9_8 (List.mem_of_getElem? (i := 30) rfl)
theorem v_415 : (Cond.methodLink RL 180 yL_peopleAt) ∈ wsT := cV9_8 (List.mem_of_getElem? (i := 31) rfl)
theorem v_416 : (Cond.static yL_peopleAt) ∈ wsT := cV9_8 (List.mem_of_getElem? (i := 32) rfl)
theorem v_417 : (Cond.codeWith yL_peopleAt cL_peopleAt 4 (some .int) [(0, 9, 12, 21)]) ∈ wsT := cV9_8 (List.mem_of_getElem? (i := 33) rfl)
theorem v_418 : (Cond.methodLink RL 182 yX6_peopleAt) ∈ wsT := cV9_8 (List.mem_of_getElem? (i := 34) rfl)
theorem v_419 : (Cond.instanceMethod yX6_peopleAt) ∈ wsT := cV9_8 (List.mem_of_getElem? (i := 35) rfl)
theorem v_420 : (Cond.selects RX6 yX6_peopleAt yX6_peopleAt) ∈ wsT := cV9_8 (List.mem_of_getElem? (i := 36) rfl)
theorem v_421 : (Cond.code yX6_peopleAt cX6_peopleAt 2 (some .int)) ∈ wsT := cV9_8 (List.mem_of_getElem? (i := 37) rfl)
theorem v_422 : (Cond.methodLink RL 183 yX5_peopleTotal) ∈ wsT := cV9_8 (List.mem_of_getElem? (i := 38) rfl)
theorem v_423 : (Cond.instanceMethod yX5_peopleTotal) ∈ wsT := cV9_8 (List.mem_of_getElem? (i := 39) rfl)
theorem v_424 : (Cond.selects RX5 yX5_peopleTotal yX5_peopleTotal) ∈ wsT := cV9_8 (List.mem_of_getElem? (i := 40) rfl)
theorem v_425 : (Cond.code yX5_peopleTotal cX5_peopleTotal 1 (some .int)) ∈ wsT := cV9_8 (List.mem_of_getElem? (i := 41) rfl)
theorem v_426 : (Cond.methodLink RL 186 yX6_peopleTotal) ∈ wsT := cV9_8 (List.mem_of_getElem? (i := 42) rfl)
theorem v_427 : (Cond.instanceMethod yX6_peopleTotal) ∈ wsT := cV9_8 (List.mem_of_getElem? (i := 43) rfl)
theorem v_428 : (Cond.selects RX6 yX6_peopleTotal yX6_peopleTotal) ∈ wsT := cV9_8 (List.mem_of_getElem? (i := 44) rfl)
theorem v_429 : (Cond.code yX6_peopleTotal cX6_peopleTotal 1 (some .int)) ∈ wsT := cV9_8 (List.mem_of_getElem? (i := 45) rfl)
theorem v_430 : (Cond.methodLink RL 187 yX5_endangered) ∈ wsT := cV9_8 (List.mem_of_getElem? (i := 46) rfl)
theorem v_431 : (Cond.instanceMethod yX5_endangered) ∈ wsT := cV9_8 (List.mem_of_getElem? (i := 47) rfl)
theorem kV9_8 : wsV9_8.all goodWord = true := by decide +kernel
theorem cV9_9 {w : Cond} (h : w ∈ wsV9_9) : w ∈ wsT := List.mem_append_right _ (List.mem_append_right _ (List.mem_append_right _ (List.mem_append_right _ (List.mem_append_right _ (List.mem_append_right _ (List.mem_append_right _ (List.mem_append_right _ (List.mem_append_right _ (List.mem_append_right _ (List.mem_append_left _ (h)))))))))))
theorem v_432 : (Cond.selects RX5 yX5_endangered yX5_endangered) ∈ wsT := cV9_9 (List.mem_of_getElem? (i := 0) rfl)
theorem v_433 : (Cond.code yX5_endangered cX5_endangered 4 (some .int)) ∈ wsT := cV9_9 (List.mem_of_getElem? (i := 1) rfl)
theorem v_434 : (Cond.methodLink RL 190 yX6_endangered) ∈ wsT := cV9_9 (List.mem_of_getElem? (i := 2) rfl)
theorem v_435 : (Cond.instanceMethod yX6_endangered) ∈ wsT := cV9_9 (List.mem_of_getElem? (i := 3) rfl)
theorem v_436 : (Cond.selects RX6 yX6_endangered yX6_endangered) ∈ wsT := cV9_9 (List.mem_of_getElem? (i := 4) rfl)
theorem v_437 : (Cond.code yX6_endangered cX6_endangered 3 (some .int)) ∈ wsT := cV9_9 (List.mem_of_getElem? (i := 5) rfl)
theorem v_438 : (Cond.methodLink RL 191 yL_oreAt) ∈ wsT := cV9_9 (List.mem_of_getElem? (i := 6) rfl)
theorem v_439 : (Cond.static yL_oreAt) ∈ wsT := cV9_9 (List.mem_of_getElem? (i := 7) rfl)
theorem v_440 : (Cond.codeWith yL_oreAt cL_oreAt 4 (some .int) [(0, 9, 12, 21)]) ∈ wsT := cV9_9 (List.mem_of_getElem? (i := 8) rfl)
theorem v_441 : (Cond.methodLink RL 193 yX6_oreAt) ∈ wsT := cV9_9 (List.mem_of_getElem? (i := 9) rfl)
theorem v_442 : (Cond.instanceMethod yX6_oreAt) ∈ wsT := cV9_9 (List.mem_of_getElem? (i := 10) rfl)
theorem v_443 : (Cond.selects RX6 yX6_oreAt yX6_oreAt) ∈ wsT := cV9_9 (List.mem_of_getElem? (i := 11) rfl)
theorem v_444 : (Cond.code yX6_oreAt cX6_oreAt 2 (some .int)) ∈ wsT := cV9_9 (List.mem_of_getElem? (i := 12) rfl)
theorem v_445 : (Cond.methodLink RL 194 yL_blast) ∈ wsT := cV9_9 (List.mem_of_getElem? (i := 13) rfl)
theorem v_446 : (Cond.static yL_blast) ∈ wsT := cV9_9 (List.mem_of_getElem? (i := 14) rfl)
theorem v_447 : (Cond.codeWith yL_blast cL_blast 5 (some .int) [(0, 10, 13, 21), (0, 10, 17, 13), (0, 10, 21, 15), (0, 10, 25, 73)]) ∈ wsT := cV9_9 (List.mem_of_getElem? (i := 15) rfl)
theorem v_448 : (Cond.methodLink RL 197 yX6_blast) ∈ wsT := cV9_9 (List.mem_of_getElem? (i := 16) rfl)
theorem v_449 : (Cond.instanceMethod yX6_blast) ∈ wsT := cV9_9 (List.mem_of_getElem? (i := 17) rfl)
theorem v_450 : (Cond.selects RX6 yX6_blast yX6_blast) ∈ wsT := cV9_9 (List.mem_of_getElem? (i := 18) rfl)
theorem v_451 : (Cond.code yX6_blast cX6_blast 3 (some .int)) ∈ wsT := cV9_9 (List.mem_of_getElem? (i := 19) rfl)
theorem v_452 : (Cond.methodLink RL 198 yL_isClosed) ∈ wsT := cV9_9 (List.mem_of_getElem? (i := 20) rfl)
theorem v_453 : (Cond.static yL_isClosed) ∈ wsT := cV9_9 (List.mem_of_getElem? (i := 21) rfl)
theorem v_454 : (Cond.codeWith yL_isClosed cL_isClosed 4 (some .int) [(0, 16, 19, 21)]) ∈ wsT := cV9_9 (List.mem_of_getElem? (i := 22) rfl)
theorem v_455 : (Cond.methodLink RL 200 yX6_isClosed) ∈ wsT := cV9_9 (List.mem_of_getElem? (i := 23) rfl)
theorem v_456 : (Cond.instanceMethod yX6_isClosed) ∈ wsT := cV9_9 (List.mem_of_getElem? (i := 24) rfl)
theorem v_457 : (Cond.selects RX6 yX6_isClosed yX6_isClosed) ∈ wsT := cV9_9 (List.mem_of_getElem? (i := 25) rfl)
theorem v_458 : (Cond.code yX6_isClosed cX6_isClosed 2 (some .boolean)) ∈ wsT := cV9_9 (List.mem_of_getElem? (i := 26) rfl)
theorem v_459 : (Cond.methodLink RL 201 yL_setSpeed) ∈ wsT := cV9_9 (List.mem_of_getElem? (i := 27) rfl)
theorem v_460 : (Cond.static yL_setSpeed) ∈ wsT := cV9_9 (List.mem_of_getElem? (i := 28) rfl)
theorem v_461 : (Cond.codeWith yL_setSpeed cL_setSpeed 4 (some .int) [(0, 9, 12, 13)]) ∈ wsT := cV9_9 (List.mem_of_getElem? (i := 29) rfl)
theorem v_462 : (Cond.methodLink RL 203 yX6_setSpeed) ∈ wsT := cV9_9 (List.mem_of_getElem? (i := 30) rfl)
theorem v_463 : (Cond.instanceMethod yX6_setSpeed) ∈ wsT := cV9_9 (List.mem_of_getElem? (i := 31) rfl)
theorem v_464 : (Cond.selects RX6 yX6_setSpeed yX6_setSpeed) ∈ wsT := cV9_9 (List.mem_of_getElem? (i := 32) rfl)
theorem v_465 : (Cond.code yX6_setSpeed cX6_setSpeed 3 (some .int)) ∈ wsT := cV9_9 (List.mem_of_getElem? (i := 33) rfl)
theorem v_466 : (Cond.methodLink RL 204 yL_sendDown) ∈ wsT := cV9_9 (List.mem_of_getElem? (i := 34) rfl)
theorem v_467 : (Cond.static yL_sendDown) ∈ wsT := cV9_9 (List.mem_of_getElem? (i := 35) rfl)
theorem v_468 : (Cond.codeWith yL_sendDown cL_sendDown 5 (some .int) [(0, 10, 13, 21), (0, 10, 17, 13), (0, 10, 21, 73), (0, 10, 25, 15)]) ∈ wsT := cV9_9 (List.mem_of_getElem? (i := 36) rfl)
theorem v_469 : (Cond.methodLink RL 206 yX6_sendDown) ∈ wsT := cV9_9 (List.mem_of_getElem? (i := 37) rfl)
theorem v_470 : (Cond.instanceMethod yX6_sendDown) ∈ wsT := cV9_9 (List.mem_of_getElem? (i := 38) rfl)
theorem v_471 : (Cond.selects RX6 yX6_sendDown yX6_sendDown) ∈ wsT := cV9_9 (List.mem_of_getElem? (i := 39) rfl)
theorem v_472 : (Cond.code yX6_sendDown cX6_sendDown 3 (some .int)) ∈ wsT := cV9_9 (List.mem_of_getElem? (i := 40) rfl)
theorem v_473 : (Cond.methodLink RL 207 yL_callUp) ∈ wsT := cV9_9 (List.mem_of_getElem? (i := 41) rfl)
theorem v_474 : (Cond.static yL_callUp) ∈ wsT := cV9_9 (List.mem_of_getElem? (i := 42) rfl)
theorem v_475 : (Cond.codeWith yL_callUp cL_callUp 5 (some .int) [(0, 10, 13, 21), (0, 10, 17, 13), (0, 10, 21, 15)]) ∈ wsT := cV9_9 (List.mem_of_getElem? (i := 43) rfl)
theorem v_476 : (Cond.methodLink RL 209 yX6_callUp) ∈ wsT := cV9_9 (List.mem_of_getElem? (i := 44) rfl)
theorem v_477 : (Cond.instanceMethod yX6_callUp) ∈ wsT := cV9_9 (List.mem_of_getElem? (i := 45) rfl)
theorem v_478 : (Cond.selects RX6 yX6_callUp yX6_callUp) ∈ wsT := cV9_9 (List.mem_of_getElem? (i := 46) rfl)
theorem v_479 : (Cond.code yX6_callUp cX6_callUp 3 (some .int)) ∈ wsT := cV9_9 (List.mem_of_getElem? (i := 47) rfl)
theorem kV9_9 : wsV9_9.all goodWord = true := by decide +kernel
theorem cV9_10 {w : Cond} (h : w ∈ wsV9_10) : w ∈ wsT := List.mem_append_right _ (List.mem_append_right _ (List.mem_append_right _ (List.mem_append_right _ (List.mem_append_right _ (List.mem_append_right _ (List.mem_append_right _ (List.mem_append_right _ (List.mem_append_right _ (List.mem_append_right _ (List.mem_append_right _ (List.mem_append_left _ (h))))))))))))
theorem v_480 : (Cond.methodLink RL 210 yL_hoistOre) ∈ wsT := cV9_10 (List.mem_of_getElem? (i := 0) rfl)
theorem v_481 : (Cond.static yL_hoistOre) ∈ wsT := cV9_10 (List.mem_of_getElem? (i := 1) rfl)
theorem v_482 : (Cond.codeWith yL_hoistOre cL_hoistOre 4 (some .int) [(0, 9, 12, 21), (0, 9, 15, 15)]) ∈ wsT := cV9_10 (List.mem_of_getElem? (i := 2) rfl)
theorem v_483 : (Cond.methodLink RL 212 yX6_hoistOre) ∈ wsT := cV9_10 (List.mem_of_getElem? (i := 3) rfl)
theorem v_484 : (Cond.instanceMethod yX6_hoistOre) ∈ wsT := cV9_10 (List.mem_of_getElem? (i := 4) rfl)
theorem v_485 : (Cond.selects RX6 yX6_hoistOre yX6_hoistOre) ∈ wsT := cV9_10 (List.mem_of_getElem? (i := 5) rfl)
theorem v_486 : (Cond.code yX6_hoistOre cX6_hoistOre 2 (some .int)) ∈ wsT := cV9_10 (List.mem_of_getElem? (i := 6) rfl)
theorem v_487 : (Cond.methodLink RL 213 yL_cancel) ∈ wsT := cV9_10 (List.mem_of_getElem? (i := 7) rfl)
theorem v_488 : (Cond.static yL_cancel) ∈ wsT := cV9_10 (List.mem_of_getElem? (i := 8) rfl)
theorem v_489 : (Cond.codeWith yL_cancel cL_cancel 4 (some .int) [(0, 9, 12, 58)]) ∈ wsT := cV9_10 (List.mem_of_getElem? (i := 9) rfl)
theorem v_490 : (Cond.methodLink RL 215 yX6_cancel) ∈ wsT := cV9_10 (List.mem_of_getElem? (i := 10) rfl)
theorem v_491 : (Cond.instanceMethod yX6_cancel) ∈ wsT := cV9_10 (List.mem_of_getElem? (i := 11) rfl)
theorem v_492 : (Cond.selects RX6 yX6_cancel yX6_cancel) ∈ wsT := cV9_10 (List.mem_of_getElem? (i := 12) rfl)
theorem v_493 : (Cond.code yX6_cancel cX6_cancel 3 (some .int)) ∈ wsT := cV9_10 (List.mem_of_getElem? (i := 13) rfl)
theorem v_494 : (Cond.methodLink RL 216 yX5_waitingCount) ∈ wsT := cV9_10 (List.mem_of_getElem? (i := 14) rfl)
theorem v_495 : (Cond.instanceMethod yX5_waitingCount) ∈ wsT := cV9_10 (List.mem_of_getElem? (i := 15) rfl)
theorem v_496 : (Cond.selects RX5 yX5_waitingCount yX5_waitingCount) ∈ wsT := cV9_10 (List.mem_of_getElem? (i := 16) rfl)
theorem v_497 : (Cond.code yX5_waitingCount cX5_waitingCount 1 (some .int)) ∈ wsT := cV9_10 (List.mem_of_getElem? (i := 17) rfl)
theorem v_498 : (Cond.methodLink RL 219 yX6_waitingCount) ∈ wsT := cV9_10 (List.mem_of_getElem? (i := 18) rfl)
theorem v_499 : (Cond.instanceMethod yX6_waitingCount) ∈ wsT := cV9_10 (List.mem_of_getElem? (i := 19) rfl)
theorem v_500 : (Cond.selects RX6 yX6_waitingCount yX6_waitingCount) ∈ wsT := cV9_10 (List.mem_of_getElem? (i := 20) rfl)
theorem v_501 : (Cond.code yX6_waitingCount cX6_waitingCount 1 (some .int)) ∈ wsT := cV9_10 (List.mem_of_getElem? (i := 21) rfl)
theorem v_502 : (Cond.methodLink RL 220 yL_waitingAt) ∈ wsT := cV9_10 (List.mem_of_getElem? (i := 22) rfl)
theorem v_503 : (Cond.static yL_waitingAt) ∈ wsT := cV9_10 (List.mem_of_getElem? (i := 23) rfl)
theorem v_504 : (Cond.codeWith yL_waitingAt cL_waitingAt 4 (some .int) [(0, 9, 12, 21)]) ∈ wsT := cV9_10 (List.mem_of_getElem? (i := 24) rfl)
theorem v_505 : (Cond.methodLink RL 222 yX6_waitingAt) ∈ wsT := cV9_10 (List.mem_of_getElem? (i := 25) rfl)
theorem v_506 : (Cond.instanceMethod yX6_waitingAt) ∈ wsT := cV9_10 (List.mem_of_getElem? (i := 26) rfl)
theorem v_507 : (Cond.selects RX6 yX6_waitingAt yX6_waitingAt) ∈ wsT := cV9_10 (List.mem_of_getElem? (i := 27) rfl)
theorem v_508 : (Cond.code yX6_waitingAt cX6_waitingAt 2 (some .int)) ∈ wsT := cV9_10 (List.mem_of_getElem? (i := 28) rfl)
theorem v_509 : (Cond.methodLink RL 223 yL_pass) ∈ wsT := cV9_10 (List.mem_of_getElem? (i := 29) rfl)
theorem v_510 : (Cond.static yL_pass) ∈ wsT := cV9_10 (List.mem_of_getElem? (i := 30) rfl)
theorem v_511 : (Cond.codeWith yL_pass cL_pass 4 (some .int) [(0, 9, 12, 13), (0, 9, 15, 15)]) ∈ wsT := cV9_10 (List.mem_of_getElem? (i := 31) rfl)
theorem v_512 : (Cond.methodLink RL 225 yX6_pass) ∈ wsT := cV9_10 (List.mem_of_getElem? (i := 32) rfl)
theorem v_513 : (Cond.instanceMethod yX6_pass) ∈ wsT := cV9_10 (List.mem_of_getElem? (i := 33) rfl)
theorem v_514 : (Cond.selects RX6 yX6_pass yX6_pass) ∈ wsT := cV9_10 (List.mem_of_getElem? (i := 34) rfl)
theorem v_515 : (Cond.code yX6_pass cX6_pass 3 (some .int)) ∈ wsT := cV9_10 (List.mem_of_getElem? (i := 35) rfl)
theorem v_516 : (Cond.methodLink RL 226 yX5_clock) ∈ wsT := cV9_10 (List.mem_of_getElem? (i := 36) rfl)
theorem v_517 : (Cond.instanceMethod yX5_clock) ∈ wsT := cV9_10 (List.mem_of_getElem? (i := 37) rfl)
theorem v_518 : (Cond.selects RX5 yX5_clock yX5_clock) ∈ wsT := cV9_10 (List.mem_of_getElem? (i := 38) rfl)
theorem v_519 : (Cond.code yX5_clock cX5_clock 1 (some .int)) ∈ wsT := cV9_10 (List.mem_of_getElem? (i := 39) rfl)
theorem v_520 : (Cond.methodLink RL 229 yX6_clock) ∈ wsT := cV9_10 (List.mem_of_getElem? (i := 40) rfl)
theorem v_521 : (Cond.instanceMethod yX6_clock) ∈ wsT := cV9_10 (List.mem_of_getElem? (i := 41) rfl)
theorem v_522 : (Cond.selects RX6 yX6_clock yX6_clock) ∈ wsT := cV9_10 (List.mem_of_getElem? (i := 42) rfl)
theorem v_523 : (Cond.code yX6_clock cX6_clock 1 (some .int)) ∈ wsT := cV9_10 (List.mem_of_getElem? (i := 43) rfl)
theorem v_524 : (Cond.methodLink RL 230 yX5_tripKind) ∈ wsT := cV9_10 (List.mem_of_getElem? (i := 44) rfl)
theorem v_525 : (Cond.instanceMethod yX5_tripKind) ∈ wsT := cV9_10 (List.mem_of_getElem? (i := 45) rfl)
theorem v_526 : (Cond.selects RX5 yX5_tripKind yX5_tripKind) ∈ wsT := cV9_10 (List.mem_of_getElem? (i := 46) rfl)
theorem v_527 : (Cond.code yX5_tripKind cX5_tripKind 1 (some .char)) ∈ wsT := cV9_10 (List.mem_of_getElem? (i := 47) rfl)
theorem kV9_10 : wsV9_10.all goodWord = true := by decide +kernel
theorem cV9_11 {w : Cond} (h : w ∈ wsV9_11) : w ∈ wsT := List.mem_append_right _ (List.mem_append_right _ (List.mem_append_right _ (List.mem_append_right _ (List.mem_append_right _ (List.mem_append_right _ (List.mem_append_right _ (List.mem_append_right _ (List.mem_append_right _ (List.mem_append_right _ (List.mem_append_right _ (List.mem_append_right _ (List.mem_append_left _ (h)))))))))))))
theorem v_528 : (Cond.methodLink RL 234 yX6_tripKind) ∈ wsT := cV9_11 (List.mem_of_getElem? (i := 0) rfl)
theorem v_529 : (Cond.instanceMethod yX6_tripKind) ∈ wsT := cV9_11 (List.mem_of_getElem? (i := 1) rfl)
theorem v_530 : (Cond.selects RX6 yX6_tripKind yX6_tripKind) ∈ wsT := cV9_11 (List.mem_of_getElem? (i := 2) rfl)
theorem v_531 : (Cond.code yX6_tripKind cX6_tripKind 1 (some .char)) ∈ wsT := cV9_11 (List.mem_of_getElem? (i := 3) rfl)
theorem v_532 : (Cond.methodLink RL 235 yL_tripLevel) ∈ wsT := cV9_11 (List.mem_of_getElem? (i := 4) rfl)
theorem v_533 : (Cond.static yL_tripLevel) ∈ wsT := cV9_11 (List.mem_of_getElem? (i := 5) rfl)
theorem v_534 : (Cond.codeWith yL_tripLevel cL_tripLevel 3 (some .int) [(0, 8, 11, 58)]) ∈ wsT := cV9_11 (List.mem_of_getElem? (i := 6) rfl)
theorem v_535 : (Cond.methodLink RL 238 yX6_tripLevel) ∈ wsT := cV9_11 (List.mem_of_getElem? (i := 7) rfl)
theorem v_536 : (Cond.instanceMethod yX6_tripLevel) ∈ wsT := cV9_11 (List.mem_of_getElem? (i := 8) rfl)
theorem v_537 : (Cond.selects RX6 yX6_tripLevel yX6_tripLevel) ∈ wsT := cV9_11 (List.mem_of_getElem? (i := 9) rfl)
theorem v_538 : (Cond.code yX6_tripLevel cX6_tripLevel 1 (some .int)) ∈ wsT := cV9_11 (List.mem_of_getElem? (i := 10) rfl)
theorem v_539 : (Cond.methodLink RL 239 yL_tripLoad) ∈ wsT := cV9_11 (List.mem_of_getElem? (i := 11) rfl)
theorem v_540 : (Cond.static yL_tripLoad) ∈ wsT := cV9_11 (List.mem_of_getElem? (i := 12) rfl)
theorem v_541 : (Cond.codeWith yL_tripLoad cL_tripLoad 3 (some .int) [(0, 8, 11, 58)]) ∈ wsT := cV9_11 (List.mem_of_getElem? (i := 13) rfl)
theorem v_542 : (Cond.methodLink RL 241 yX6_tripLoad) ∈ wsT := cV9_11 (List.mem_of_getElem? (i := 14) rfl)
theorem v_543 : (Cond.instanceMethod yX6_tripLoad) ∈ wsT := cV9_11 (List.mem_of_getElem? (i := 15) rfl)
theorem v_544 : (Cond.selects RX6 yX6_tripLoad yX6_tripLoad) ∈ wsT := cV9_11 (List.mem_of_getElem? (i := 16) rfl)
theorem v_545 : (Cond.code yX6_tripLoad cX6_tripLoad 1 (some .int)) ∈ wsT := cV9_11 (List.mem_of_getElem? (i := 17) rfl)
theorem v_546 : (Cond.methodLink RL 242 yL_tripRest) ∈ wsT := cV9_11 (List.mem_of_getElem? (i := 18) rfl)
theorem v_547 : (Cond.static yL_tripRest) ∈ wsT := cV9_11 (List.mem_of_getElem? (i := 19) rfl)
theorem v_548 : (Cond.codeWith yL_tripRest cL_tripRest 3 (some .int) [(0, 8, 11, 58)]) ∈ wsT := cV9_11 (List.mem_of_getElem? (i := 20) rfl)
theorem v_549 : (Cond.methodLink RL 244 yX6_tripRest) ∈ wsT := cV9_11 (List.mem_of_getElem? (i := 21) rfl)
theorem v_550 : (Cond.instanceMethod yX6_tripRest) ∈ wsT := cV9_11 (List.mem_of_getElem? (i := 22) rfl)
theorem v_551 : (Cond.selects RX6 yX6_tripRest yX6_tripRest) ∈ wsT := cV9_11 (List.mem_of_getElem? (i := 23) rfl)
theorem v_552 : (Cond.code yX6_tripRest cX6_tripRest 1 (some .int)) ∈ wsT := cV9_11 (List.mem_of_getElem? (i := 24) rfl)
theorem v_553 : (Cond.methodLink RL 245 yX5_cageLevel) ∈ wsT := cV9_11 (List.mem_of_getElem? (i := 25) rfl)
theorem v_554 : (Cond.instanceMethod yX5_cageLevel) ∈ wsT := cV9_11 (List.mem_of_getElem? (i := 26) rfl)
theorem v_555 : (Cond.selects RX5 yX5_cageLevel yX5_cageLevel) ∈ wsT := cV9_11 (List.mem_of_getElem? (i := 27) rfl)
theorem v_556 : (Cond.code yX5_cageLevel cX5_cageLevel 1 (some .int)) ∈ wsT := cV9_11 (List.mem_of_getElem? (i := 28) rfl)
theorem v_557 : (Cond.methodLink RL 248 yX6_cageLevel) ∈ wsT := cV9_11 (List.mem_of_getElem? (i := 29) rfl)
theorem v_558 : (Cond.instanceMethod yX6_cageLevel) ∈ wsT := cV9_11 (List.mem_of_getElem? (i := 30) rfl)
theorem v_559 : (Cond.selects RX6 yX6_cageLevel yX6_cageLevel) ∈ wsT := cV9_11 (List.mem_of_getElem? (i := 31) rfl)
theorem v_560 : (Cond.code yX6_cageLevel cX6_cageLevel 1 (some .int)) ∈ wsT := cV9_11 (List.mem_of_getElem? (i := 32) rfl)
theorem v_561 : (Cond.methodLink RL 249 yX5_doneCount) ∈ wsT := cV9_11 (List.mem_of_getElem? (i := 33) rfl)
theorem v_562 : (Cond.instanceMethod yX5_doneCount) ∈ wsT := cV9_11 (List.mem_of_getElem? (i := 34) rfl)
theorem v_563 : (Cond.selects RX5 yX5_doneCount yX5_doneCount) ∈ wsT := cV9_11 (List.mem_of_getElem? (i := 35) rfl)
theorem v_564 : (Cond.code yX5_doneCount cX5_doneCount 1 (some .int)) ∈ wsT := cV9_11 (List.mem_of_getElem? (i := 36) rfl)
theorem v_565 : (Cond.methodLink RL 252 yX6_doneCount) ∈ wsT := cV9_11 (List.mem_of_getElem? (i := 37) rfl)
theorem v_566 : (Cond.instanceMethod yX6_doneCount) ∈ wsT := cV9_11 (List.mem_of_getElem? (i := 38) rfl)
theorem v_567 : (Cond.selects RX6 yX6_doneCount yX6_doneCount) ∈ wsT := cV9_11 (List.mem_of_getElem? (i := 39) rfl)
theorem v_568 : (Cond.code yX6_doneCount cX6_doneCount 1 (some .int)) ∈ wsT := cV9_11 (List.mem_of_getElem? (i := 40) rfl)
theorem v_569 : (Cond.methodLink RL 253 yX5_droppedCount) ∈ wsT := cV9_11 (List.mem_of_getElem? (i := 41) rfl)
theorem v_570 : (Cond.instanceMethod yX5_droppedCount) ∈ wsT := cV9_11 (List.mem_of_getElem? (i := 42) rfl)
theorem v_571 : (Cond.selects RX5 yX5_droppedCount yX5_droppedCount) ∈ wsT := cV9_11 (List.mem_of_getElem? (i := 43) rfl)
theorem v_572 : (Cond.code yX5_droppedCount cX5_droppedCount 1 (some .int)) ∈ wsT := cV9_11 (List.mem_of_getElem? (i := 44) rfl)
theorem v_573 : (Cond.methodLink RL 256 yX6_droppedCount) ∈ wsT := cV9_11 (List.mem_of_getElem? (i := 45) rfl)
theorem v_574 : (Cond.instanceMethod yX6_droppedCount) ∈ wsT := cV9_11 (List.mem_of_getElem? (i := 46) rfl)
theorem v_575 : (Cond.selects RX6 yX6_droppedCount yX6_droppedCount) ∈ wsT := cV9_11 (List.mem_of_getElem? (i := 47) rfl)
theorem kV9_11 : wsV9_11.all goodWord = true := by decide +kernel
theorem cV9_12 {w : Cond} (h : w ∈ wsV9_12) : w ∈ wsT := List.mem_append_right _ (List.mem_append_right _ (List.mem_append_right _ (List.mem_append_right _ (List.mem_append_right _ (List.mem_append_right _ (List.mem_append_right _ (List.mem_append_right _ (List.mem_append_right _ (List.mem_append_right _ (List.mem_append_right _ (List.mem_append_right _ (List.mem_append_right _ (List.mem_append_left _ (h))))))))))))))
theorem v_576 : (Cond.code yX6_droppedCount cX6_droppedCount 1 (some .int)) ∈ wsT := cV9_12 (List.mem_of_getElem? (i := 0) rfl)
theorem v_577 : (Cond.methodLink RL 257 yL_waitFor) ∈ wsT := cV9_12 (List.mem_of_getElem? (i := 1) rfl)
theorem v_578 : (Cond.static yL_waitFor) ∈ wsT := cV9_12 (List.mem_of_getElem? (i := 2) rfl)
theorem v_579 : (Cond.codeWith yL_waitFor cL_waitFor 4 (some .int) [(0, 9, 12, 58), (0, 9, 15, 73)]) ∈ wsT := cV9_12 (List.mem_of_getElem? (i := 3) rfl)
theorem v_580 : (Cond.methodLink RL 259 yX6_waitFor) ∈ wsT := cV9_12 (List.mem_of_getElem? (i := 4) rfl)
theorem v_581 : (Cond.instanceMethod yX6_waitFor) ∈ wsT := cV9_12 (List.mem_of_getElem? (i := 5) rfl)
theorem v_582 : (Cond.selects RX6 yX6_waitFor yX6_waitFor) ∈ wsT := cV9_12 (List.mem_of_getElem? (i := 6) rfl)
theorem v_583 : (Cond.code yX6_waitFor cX6_waitFor 7 (some .int)) ∈ wsT := cV9_12 (List.mem_of_getElem? (i := 7) rfl)
theorem v_584 : (Cond.methodLink RL 260 yX5_isConsistent) ∈ wsT := cV9_12 (List.mem_of_getElem? (i := 8) rfl)
theorem v_585 : (Cond.instanceMethod yX5_isConsistent) ∈ wsT := cV9_12 (List.mem_of_getElem? (i := 9) rfl)
theorem v_586 : (Cond.selects RX5 yX5_isConsistent yX5_isConsistent) ∈ wsT := cV9_12 (List.mem_of_getElem? (i := 10) rfl)
theorem v_587 : (Cond.code yX5_isConsistent cX5_isConsistent 4 (some .boolean)) ∈ wsT := cV9_12 (List.mem_of_getElem? (i := 11) rfl)
theorem v_588 : (Cond.methodLink RL 264 yX6_isConsistent) ∈ wsT := cV9_12 (List.mem_of_getElem? (i := 12) rfl)
theorem v_589 : (Cond.instanceMethod yX6_isConsistent) ∈ wsT := cV9_12 (List.mem_of_getElem? (i := 13) rfl)
theorem v_590 : (Cond.selects RX6 yX6_isConsistent yX6_isConsistent) ∈ wsT := cV9_12 (List.mem_of_getElem? (i := 14) rfl)
theorem v_591 : (Cond.code yX6_isConsistent cX6_isConsistent 1 (some .boolean)) ∈ wsT := cV9_12 (List.mem_of_getElem? (i := 15) rfl)
theorem v_592 : (Cond.methodLink RL 265 yX5_writeTrip) ∈ wsT := cV9_12 (List.mem_of_getElem? (i := 16) rfl)
theorem v_593 : (Cond.instanceMethod yX5_writeTrip) ∈ wsT := cV9_12 (List.mem_of_getElem? (i := 17) rfl)
theorem v_594 : (Cond.selects RX5 yX5_writeTrip yX5_writeTrip) ∈ wsT := cV9_12 (List.mem_of_getElem? (i := 18) rfl)
theorem v_595 : (Cond.code yX5_writeTrip cX5_writeTrip 2 (some .int)) ∈ wsT := cV9_12 (List.mem_of_getElem? (i := 19) rfl)
theorem v_596 : (Cond.methodLink RL 268 yX6_writeTrip) ∈ wsT := cV9_12 (List.mem_of_getElem? (i := 20) rfl)
theorem v_597 : (Cond.instanceMethod yX6_writeTrip) ∈ wsT := cV9_12 (List.mem_of_getElem? (i := 21) rfl)
theorem v_598 : (Cond.selects RX6 yX6_writeTrip yX6_writeTrip) ∈ wsT := cV9_12 (List.mem_of_getElem? (i := 22) rfl)
theorem v_599 : (Cond.code yX6_writeTrip cX6_writeTrip 2 (some .int)) ∈ wsT := cV9_12 (List.mem_of_getElem? (i := 23) rfl)
theorem v_600 : (Cond.methodLink RL 269 yL_lineAt) ∈ wsT := cV9_12 (List.mem_of_getElem? (i := 24) rfl)
theorem v_601 : (Cond.static yL_lineAt) ∈ wsT := cV9_12 (List.mem_of_getElem? (i := 25) rfl)
theorem v_602 : (Cond.codeWith yL_lineAt cL_lineAt 4 (some .int) [(0, 9, 12, 21)]) ∈ wsT := cV9_12 (List.mem_of_getElem? (i := 26) rfl)
theorem v_603 : (Cond.methodLink RL 271 yX6_lineAt) ∈ wsT := cV9_12 (List.mem_of_getElem? (i := 27) rfl)
theorem v_604 : (Cond.instanceMethod yX6_lineAt) ∈ wsT := cV9_12 (List.mem_of_getElem? (i := 28) rfl)
theorem v_605 : (Cond.selects RX6 yX6_lineAt yX6_lineAt) ∈ wsT := cV9_12 (List.mem_of_getElem? (i := 29) rfl)
theorem v_606 : (Cond.code yX6_lineAt cX6_lineAt 2 (some .char)) ∈ wsT := cV9_12 (List.mem_of_getElem? (i := 30) rfl)
theorem v_607 : (Cond.classLink RL 8 RX5) ∈ wsT := cV9_12 (List.mem_of_getElem? (i := 31) rfl)
theorem v_608 : (Cond.instantiable RX5 3) ∈ wsT := cV9_12 (List.mem_of_getElem? (i := 32) rfl)
theorem v_609 : (Cond.code yX5_init cX5_init 1 none) ∈ wsT := cV9_12 (List.mem_of_getElem? (i := 33) rfl)
theorem v_610 : (Cond.methodLink RL 116 yX5_init) ∈ wsT := cV9_12 (List.mem_of_getElem? (i := 34) rfl)
theorem v_611 : (Cond.instanceMethod yX5_init) ∈ wsT := cV9_12 (List.mem_of_getElem? (i := 35) rfl)
theorem v_612 : (Cond.classLink RL 117 RX6) ∈ wsT := cV9_12 (List.mem_of_getElem? (i := 36) rfl)
theorem v_613 : (Cond.instantiable RX6 15) ∈ wsT := cV9_12 (List.mem_of_getElem? (i := 37) rfl)
theorem v_614 : (Cond.code yX6_init cX6_init 1 none) ∈ wsT := cV9_12 (List.mem_of_getElem? (i := 38) rfl)
theorem v_615 : (Cond.methodLink RL 119 yX6_init) ∈ wsT := cV9_12 (List.mem_of_getElem? (i := 39) rfl)
theorem v_616 : (Cond.instanceMethod yX6_init) ∈ wsT := cV9_12 (List.mem_of_getElem? (i := 40) rfl)
theorem v_617 : (Cond.arrayClass .long) ∈ wsT := cV9_12 (List.mem_of_getElem? (i := 41) rfl)
theorem v_618 : (Cond.arrayClass .double) ∈ wsT := cV9_12 (List.mem_of_getElem? (i := 42) rfl)
theorem kV9_12 : wsV9_12.all goodWord = true := by decide +kernel
theorem inT_J0 {c0 : Cond} : ∀ w ∈ u_ws RJ0 TJ0 4, w ∈ c0 :: wsT := fun w h => List.mem_cons_of_mem _ (List.mem_append_right _ (List.mem_append_right _ (List.mem_append_right _ (List.mem_append_right _ (List.mem_append_right _ (List.mem_append_right _ (List.mem_append_right _ (List.mem_append_right _ (List.mem_append_right _ (List.mem_append_right _ (List.mem_append_right _ (List.mem_append_right _ (List.mem_append_right _ (List.mem_append_right _ (List.mem_append_left _ (h))))))))))))))))
theorem kV9_J0 : (wsC9_J0).all goodWord = true := by decide +kernel
theorem inT_J4 {c0 : Cond} : ∀ w ∈ u_ws RJ4 TJ4 4, w ∈ c0 :: wsT := fun w h => List.mem_cons_of_mem _ (List.mem_append_right _ (List.mem_append_right _ (List.mem_append_right _ (List.mem_append_right _ (List.mem_append_right _ (List.mem_append_right _ (List.mem_append_right _ (List.mem_append_right _ (List.mem_append_right _ (List.mem_append_right _ (List.mem_append_right _ (List.mem_append_right _ (List.mem_append_right _ (List.mem_append_right _ (List.mem_append_right _ (List.mem_append_left _ (h)))))))))))))))))
theorem kV9_J4 : (wsC9_J4).all goodWord = true := by decide +kernel
theorem inT_X0 {c0 : Cond} : ∀ w ∈ u_ws RX0 TX0 11, w ∈ c0 :: wsT := fun w h => List.mem_cons_of_mem _ (List.mem_append_right _ (List.mem_append_right _ (List.mem_append_right _ (List.mem_append_right _ (List.mem_append_right _ (List.mem_append_right _ (List.mem_append_right _ (List.mem_append_right _ (List.mem_append_right _ (List.mem_append_right _ (List.mem_append_right _ (List.mem_append_right _ (List.mem_append_right _ (List.mem_append_right _ (List.mem_append_right _ (List.mem_append_right _ (List.mem_append_left _ (h))))))))))))))))))
theorem kV9_X0 : (wsC9_X0).all goodWord = true := by decide +kernel
theorem inT_X1 {c0 : Cond} : ∀ w ∈ u_ws RX1 TX1 16, w ∈ c0 :: wsT := fun w h => List.mem_cons_of_mem _ (List.mem_append_right _ (List.mem_append_right _ (List.mem_append_right _ (List.mem_append_right _ (List.mem_append_right _ (List.mem_append_right _ (List.mem_append_right _ (List.mem_append_right _ (List.mem_append_right _ (List.mem_append_right _ (List.mem_append_right _ (List.mem_append_right _ (List.mem_append_right _ (List.mem_append_right _ (List.mem_append_right _ (List.mem_append_right _ (List.mem_append_right _ (List.mem_append_left _ (h)))))))))))))))))))
theorem kV9_X1 : (wsC9_X1).all goodWord = true := by decide +kernel
theorem inT_X2 {c0 : Cond} : ∀ w ∈ u_ws RX2 TX2 4, w ∈ c0 :: wsT := fun w h => List.mem_cons_of_mem _ (List.mem_append_right _ (List.mem_append_right _ (List.mem_append_right _ (List.mem_append_right _ (List.mem_append_right _ (List.mem_append_right _ (List.mem_append_right _ (List.mem_append_right _ (List.mem_append_right _ (List.mem_append_right _ (List.mem_append_right _ (List.mem_append_right _ (List.mem_append_right _ (List.mem_append_right _ (List.mem_append_right _ (List.mem_append_right _ (List.mem_append_right _ (List.mem_append_right _ (List.mem_append_left _ (h))))))))))))))))))))
theorem kV9_X2 : (wsC9_X2).all goodWord = true := by decide +kernel
theorem inT_X3 {c0 : Cond} : ∀ w ∈ u_ws RX3 TX3 5, w ∈ c0 :: wsT := fun w h => List.mem_cons_of_mem _ (List.mem_append_right _ (List.mem_append_right _ (List.mem_append_right _ (List.mem_append_right _ (List.mem_append_right _ (List.mem_append_right _ (List.mem_append_right _ (List.mem_append_right _ (List.mem_append_right _ (List.mem_append_right _ (List.mem_append_right _ (List.mem_append_right _ (List.mem_append_right _ (List.mem_append_right _ (List.mem_append_right _ (List.mem_append_right _ (List.mem_append_right _ (List.mem_append_right _ (List.mem_append_right _ (List.mem_append_left _ (h)))))))))))))))))))))
theorem kV9_X3 : (wsC9_X3).all goodWord = true := by decide +kernel
theorem inT_X4 {c0 : Cond} : ∀ w ∈ u_ws RX4 TX4 2, w ∈ c0 :: wsT := fun w h => List.mem_cons_of_mem _ (List.mem_append_right _ (List.mem_append_right _ (List.mem_append_right _ (List.mem_append_right _ (List.mem_append_right _ (List.mem_append_right _ (List.mem_append_right _ (List.mem_append_right _ (List.mem_append_right _ (List.mem_append_right _ (List.mem_append_right _ (List.mem_append_right _ (List.mem_append_right _ (List.mem_append_right _ (List.mem_append_right _ (List.mem_append_right _ (List.mem_append_right _ (List.mem_append_right _ (List.mem_append_right _ (List.mem_append_right _ (List.mem_append_left _ (h))))))))))))))))))))))
theorem kV9_X4 : (wsC9_X4).all goodWord = true := by decide +kernel
theorem inT_X5 {c0 : Cond} : ∀ w ∈ u_ws RX5 TX5 3, w ∈ c0 :: wsT := fun w h => List.mem_cons_of_mem _ (List.mem_append_right _ (List.mem_append_right _ (List.mem_append_right _ (List.mem_append_right _ (List.mem_append_right _ (List.mem_append_right _ (List.mem_append_right _ (List.mem_append_right _ (List.mem_append_right _ (List.mem_append_right _ (List.mem_append_right _ (List.mem_append_right _ (List.mem_append_right _ (List.mem_append_right _ (List.mem_append_right _ (List.mem_append_right _ (List.mem_append_right _ (List.mem_append_right _ (List.mem_append_right _ (List.mem_append_right _ (List.mem_append_right _ (List.mem_append_left _ (h)))))))))))))))))))))))
theorem kV9_X5 : (wsC9_X5).all goodWord = true := by decide +kernel
theorem inT_X6 {c0 : Cond} : ∀ w ∈ u_ws RX6 TX6 15, w ∈ c0 :: wsT := fun w h => List.mem_cons_of_mem _ (List.mem_append_right _ (List.mem_append_right _ (List.mem_append_right _ (List.mem_append_right _ (List.mem_append_right _ (List.mem_append_right _ (List.mem_append_right _ (List.mem_append_right _ (List.mem_append_right _ (List.mem_append_right _ (List.mem_append_right _ (List.mem_append_right _ (List.mem_append_right _ (List.mem_append_right _ (List.mem_append_right _ (List.mem_append_right _ (List.mem_append_right _ (List.mem_append_right _ (List.mem_append_right _ (List.mem_append_right _ (List.mem_append_right _ (List.mem_append_right _ (h)))))))))))))))))))))))
theorem kV9_X6 : (wsC9_X6).all goodWord = true := by decide +kernel
theorem wsT_good : wsT.all goodWord = true := all_app wsU_good (all_app kV9_0 (all_app kV9_1 (all_app kV9_2 (all_app kV9_3 (all_app kV9_4 (all_app kV9_5 (all_app kV9_6 (all_app kV9_7 (all_app kV9_8 (all_app kV9_9 (all_app kV9_10 (all_app kV9_11 (all_app kV9_12 (all_app kV9_J0 (all_app kV9_J4 (all_app kV9_X0 (all_app kV9_X1 (all_app kV9_X2 (all_app kV9_X3 (all_app kV9_X4 (all_app kV9_X5 (kV9_X6))))))))))))))))))))))
theorem mT {c0 w : Cond} (h : w ∈ wsT) : w ∈ c0 :: wsT := List.mem_cons_of_mem _ h
theorem mUT {w : Cond} (h : w ∈ wsU) : w ∈ wsT := List.mem_append_left _ h
theorem gT9 {c0 : Cond} {L : List Cond} (hL : ∀ w ∈ L, w ∈ wsT) : GoodIn (c0 :: wsT) L := fun w hw => ⟨List.mem_cons_of_mem _ (hL w hw), good_of_word (List.all_eq_true.mp wsT_good w (hL w hw))⟩
theorem gC9 {c1 : Cond} {L : List Cond} (hL : ∀ w ∈ L, w ∈ wsT) (h1 : c1 ∈ wsT) : ∀ w ∈ L ++ (c1 :: wsT), w ∈ wsT := fun w hw => (List.mem_append.mp hw).elim (hL w) (fun h => (List.mem_cons.mp h).elim (fun e => e ▸ h1) id)
theorem m4_ {P : Cond → Prop} {a b c d : Cond} (h1 : P a) (h2 : P b) (h3 : P c) (h4 : P d) : ∀ w ∈ [a, b, c, d], P w := fun w hw => by
  rcases List.mem_cons.mp hw with e | hw
  · exact e ▸ h1
  rcases List.mem_cons.mp hw with e | hw
  · exact e ▸ h2
  rcases List.mem_cons.mp hw with e | hw
  · exact e ▸ h3
  rcases List.mem_cons.mp hw with e | hw
  · exact e ▸ h4
  cases hw
theorem m3_ {P : Cond → Prop} {a b c : Cond} (h1 : P a) (h2 : P b) (h3 : P c) : ∀ w ∈ [a, b, c], P w := fun w hw => by
  rcases List.mem_cons.mp hw with e | hw
  · exact e ▸ h1
  rcases List.mem_cons.mp hw with e | hw
  · exact e ▸ h2
  rcases List.mem_cons.mp hw with e | hw
  · exact e ▸ h3
  cases hw
theorem m5_ {P : Cond → Prop} {a b c d e9 : Cond} (h1 : P a) (h2 : P b) (h3 : P c) (h4 : P d) (h5 : P e9) : ∀ w ∈ [a, b, c, d, e9], P w := fun w hw => (List.mem_cons.mp hw).elim (fun e => e ▸ h1) (fun h => m4_ h2 h3 h4 h5 w h)
theorem m6_ {P : Cond → Prop} {a b c d e9 f9 : Cond} (h1 : P a) (h2 : P b) (h3 : P c) (h4 : P d) (h5 : P e9) (h6 : P f9) : ∀ w ∈ [a, b, c, d, e9, f9], P w := fun w hw => (List.mem_cons.mp hw).elim (fun e => e ▸ h1) (fun h => m5_ h2 h3 h4 h5 h6 w h)
theorem gV9 {c0 : Cond} {own : String} {idx mL : Nat} {y : MethodName} {b : ByteArray} {ret : Option FieldType} (h1 : Cond.methodLink own idx y ∈ wsT) (h2 : Cond.instanceMethod y ∈ wsT) (h3 : Cond.selects y.cls y y ∈ wsT) (h4 : Cond.initialized y.cls ∈ wsT) (h5 : Cond.code y b mL ret ∈ wsT) : GoodIn (c0 :: wsT) (wsV own idx y.cls y (Cond.code y b mL ret :: wsT)) := gT9 (gC9 (L := [.methodLink own idx y, .instanceMethod y, .selects y.cls y y, .initialized y.cls]) (m4_ h1 h2 h3 h4) h5)
theorem gS9 {c0 : Cond} {own : String} {idx mL : Nat} {y : MethodName} {b : ByteArray} {ret : Option FieldType} (h1 : Cond.methodLink own idx y ∈ wsT) (h2 : Cond.static y ∈ wsT) (h4 : Cond.initialized y.cls ∈ wsT) (h5 : Cond.code y b mL ret ∈ wsT) : GoodIn (c0 :: wsT) (va_wsS own idx y (Cond.code y b mL ret :: wsT)) := gT9 (gC9 (L := [.methodLink own idx y, .static y, .initialized y.cls]) (m3_ h1 h2 h4) h5)
theorem gU9 {c0 : Cond} {own Cr : String} {idx mL : Nat} {y : MethodName} {b : ByteArray} {ret : Option FieldType} (h1 : Cond.methodLink own idx y ∈ wsT) (h2 : Cond.sameMethod y.cls y.cls y.name y.desc ∈ wsT) (h3 : Cond.selects Cr y y ∈ wsT) (h4 : Cond.instanceMethod y ∈ wsT) (h5 : Cond.initialized y.cls ∈ wsT) (h6 : Cond.code y b mL ret ∈ wsT) : GoodIn (c0 :: wsT) (va_wsU own idx Cr y.cls y y (Cond.code y b mL ret :: wsT)) := gT9 (gC9 (L := [.methodLink own idx y, .sameMethod y.cls y.cls y.name y.desc, .selects Cr y y, .instanceMethod y, .initialized y.cls]) (m5_ h1 h2 h3 h4 h5) h6)
theorem gO9 {c0 : Cond} {own Cr : String} {idx mL : Nat} {o y : MethodName} {b : ByteArray} {ret : Option FieldType} (h1 : Cond.methodLink own idx o ∈ wsT) (h2 : Cond.sameMethod o.cls o.cls o.name o.desc ∈ wsT) (h7 : Cond.instanceMethod o ∈ wsT) (h3 : Cond.selects Cr o y ∈ wsT) (h4 : Cond.instanceMethod y ∈ wsT) (h5 : Cond.initialized y.cls ∈ wsT) (h6 : Cond.code y b mL ret ∈ wsT) : GoodIn (c0 :: wsT) (va_wsO own idx Cr o.cls o y (Cond.code y b mL ret :: wsT)) := gT9 (gC9 (L := [.methodLink own idx o, .sameMethod o.cls o.cls o.name o.desc, .instanceMethod o, .selects Cr o y, .instanceMethod y, .initialized y.cls]) (m6_ h1 h2 h7 h3 h4 h5) h6)
theorem gSU9 {c0 : Cond} {own : String} {idx mL : Nat} {y : MethodName} {b : ByteArray} {ret : Option FieldType} (h1 : Cond.methodLink own idx y ∈ wsT) (h2 : Cond.sameMethod y.cls y.cls y.name y.desc ∈ wsT) (h3 : Cond.superclass own y.cls ∈ wsT) (h4 : Cond.instanceMethod y ∈ wsT) (h5 : Cond.initialized y.cls ∈ wsT) (h6 : Cond.code y b mL ret ∈ wsT) : GoodIn (c0 :: wsT) (va_wsSU own idx y (Cond.code y b mL ret :: wsT)) := gT9 (gC9 (L := [.methodLink own idx y, .sameMethod y.cls y.cls y.name y.desc, .superclass own y.cls, .instanceMethod y, .initialized y.cls]) (m5_ h1 h2 h3 h4 h5) h6)
theorem gI9 {c0 : Cond} {mL : Nat} {y : MethodName} {b : ByteArray} {ret : Option FieldType} (h6 : Cond.code y b mL ret ∈ wsT) : GoodIn (c0 :: wsT) (Cond.code y b mL ret :: wsT) := gT9 (fun w hw => (List.mem_cons.mp hw).elim (fun e => e ▸ h6) id)
theorem hy_J0_charAt_5068e : hyOk yJ0_charAt_5068e 1 := by decide +kernel
theorem hy_J0_checkIndex_df160 : hyOk yJ0_checkIndex_df160 2 := by decide +kernel
theorem hy_J0_coder_7d493 : hyOk yJ0_coder_7d493 0 := by decide +kernel
theorem hy_J0_getBytes_840e7 : hyOk yJ0_getBytes_840e7 3 := by decide +kernel
theorem hy_J0_init_81219 : hyOk yJ0_init_81219 1 := by decide +kernel
theorem hy_J0_init_db425 : hyOk yJ0_init_db425 2 := by decide +kernel
theorem hy_J0_isLatin1_aae02 : hyOk yJ0_isLatin1_aae02 0 := by decide +kernel
theorem hy_J0_length_8abf5 : hyOk yJ0_length_8abf5 0 := by decide +kernel
theorem hy_J1_canEncode_fc78d : hyOk yJ1_canEncode_fc78d 1 := by decide +kernel
theorem hy_J1_charAt_3b067 : hyOk yJ1_charAt_3b067 2 := by decide +kernel
theorem hy_J3_checkIndex_8e157 : hyOk yJ3_checkIndex_8e157 3 := by decide +kernel
theorem hy_J4_append_15ec4 : hyOk yJ4_append_15ec4 1 := by decide +kernel
theorem hy_J4_append_bf812 : hyOk yJ4_append_bf812 1 := by decide +kernel
theorem hy_J4_append_cf468 : hyOk yJ4_append_cf468 1 := by decide +kernel
theorem hy_J4_charAt_5068e : hyOk yJ4_charAt_5068e 1 := by decide +kernel
theorem hy_J4_init_da8c8 : hyOk yJ4_init_da8c8 0 := by decide +kernel
theorem hy_J4_length_8abf5 : hyOk yJ4_length_8abf5 0 := by decide +kernel
theorem hy_J4_setLength_d00df : hyOk yJ4_setLength_d00df 1 := by decide +kernel
theorem hy_J4_toString_0e30d : hyOk yJ4_toString_0e30d 0 := by decide +kernel
theorem hy_J5_append_3fe6f : hyOk yJ5_append_3fe6f 1 := by decide +kernel
theorem hy_J5_append_c97b9 : hyOk yJ5_append_c97b9 1 := by decide +kernel
theorem hy_J5_append_cf1ce : hyOk yJ5_append_cf1ce 1 := by decide +kernel
theorem hy_J5_charAt_5068e : hyOk yJ5_charAt_5068e 1 := by decide +kernel
theorem hy_J5_ensureCapacityInternal_d00df : hyOk yJ5_ensureCapacityInternal_d00df 1 := by decide +kernel
theorem hy_J5_getValue_6d5f1 : hyOk yJ5_getValue_6d5f1 0 := by decide +kernel
theorem hy_J5_inflateIfNeededFor_a7421 : hyOk yJ5_inflateIfNeededFor_a7421 1 := by decide +kernel
theorem hy_J5_init_d00df : hyOk yJ5_init_d00df 1 := by decide +kernel
theorem hy_J5_isLatin1_aae02 : hyOk yJ5_isLatin1_aae02 0 := by decide +kernel
theorem hy_J5_length_8abf5 : hyOk yJ5_length_8abf5 0 := by decide +kernel
theorem hy_J5_newCapacity_0f7a4 : hyOk yJ5_newCapacity_0f7a4 1 := by decide +kernel
theorem hy_J5_putStringAt_47b60 : hyOk yJ5_putStringAt_47b60 2 := by decide +kernel
theorem hy_J5_setLength_d00df : hyOk yJ5_setLength_d00df 1 := by decide +kernel
theorem hy_J6_getChars_ba4f3 : hyOk yJ6_getChars_ba4f3 3 := by decide +kernel
theorem hy_J6_stringSize_0f7a4 : hyOk yJ6_stringSize_0f7a4 1 := by decide +kernel
theorem hy_J7_checkLength_df160 : hyOk yJ7_checkLength_df160 2 := by decide +kernel
theorem hy_J7_copyOfRangeByte_39247 : hyOk yJ7_copyOfRangeByte_39247 3 := by decide +kernel
theorem hy_J7_copyOfRange_39247 : hyOk yJ7_copyOfRange_39247 3 := by decide +kernel
theorem hy_J7_copyOf_9075b : hyOk yJ7_copyOf_9075b 2 := by decide +kernel
theorem hy_J8_newLength_cabcc : hyOk yJ8_newLength_cabcc 3 := by decide +kernel
theorem hy_L_lineAt : hyOk yL_lineAt 3 := by decide +kernel
theorem hy_X0_init : hyOk yX0_init 0 := by decide +kernel
theorem hy_X1_init : hyOk yX1_init 0 := by decide +kernel
theorem hy_X2_init : hyOk yX2_init 0 := by decide +kernel
theorem hy_X3_init : hyOk yX3_init 0 := by decide +kernel
theorem hy_X3_word : hyOk yX3_word 0 := by decide +kernel
theorem hy_X4_init : hyOk yX4_init 0 := by decide +kernel
theorem hy_X5_init : hyOk yX5_init 0 := by decide +kernel
theorem hy_X5_lineAt : hyOk yX5_lineAt 1 := by decide +kernel
theorem hy_X5_writeTrip : hyOk yX5_writeTrip 0 := by decide +kernel
theorem hy_X6_init : hyOk yX6_init 0 := by decide +kernel
theorem hy_X6_lineAt : hyOk yX6_lineAt 1 := by decide +kernel
theorem hy_X6_writeTrip : hyOk yX6_writeTrip 0 := by decide +kernel
theorem nw_J0 : ∀ j, j < 4 → defaultValue (tyJ0 j) = vp_V [.null, .int (0), .int (0), .int (0)] j := fun j hj => match j, hj with
  | 0, _ => rfl
  | 1, _ => rfl
  | 2, _ => rfl
  | 3, _ => rfl
  | n + 4, h => absurd h (by omega)
theorem nw_J4 : ∀ j, j < 4 → defaultValue (tyJ4 j) = vp_V [.null, .int (0), .int (0), .int (0)] j := fun j hj => match j, hj with
  | 0, _ => rfl
  | 1, _ => rfl
  | 2, _ => rfl
  | 3, _ => rfl
  | n + 4, h => absurd h (by omega)
theorem nw_X0 : ∀ j, j < 11 → defaultValue (tyX0 j) = vp_V [.int (0), .int (0), .int (0), .int (0), .int (0), .int (0), .int (0), .int (0), .int (0), .int (0), .int (0)] j := fun j hj => match j, hj with
  | 0, _ => rfl
  | 1, _ => rfl
  | 2, _ => rfl
  | 3, _ => rfl
  | 4, _ => rfl
  | 5, _ => rfl
  | 6, _ => rfl
  | 7, _ => rfl
  | 8, _ => rfl
  | 9, _ => rfl
  | 10, _ => rfl
  | n + 11, h => absurd h (by omega)
theorem nw_X1 : ∀ j, j < 16 → defaultValue (tyX1 j) = vp_V [.null, .null, .null, .null, .int (0), .int (0), .int (0), .int (0), .int (0), .int (0), .int (0), .int (0), .int (0), .int (0), .int (0), .int (0)] j := fun j hj => match j, hj with
  | 0, _ => rfl
  | 1, _ => rfl
  | 2, _ => rfl
  | 3, _ => rfl
  | 4, _ => rfl
  | 5, _ => rfl
  | 6, _ => rfl
  | 7, _ => rfl
  | 8, _ => rfl
  | 9, _ => rfl
  | 10, _ => rfl
  | 11, _ => rfl
  | 12, _ => rfl
  | 13, _ => rfl
  | 14, _ => rfl
  | 15, _ => rfl
  | n + 16, h => absurd h (by omega)
theorem nw_X2 : ∀ j, j < 4 → defaultValue (tyX2 j) = vp_V [.int (0), .int (0), .int (0), .int (0)] j := fun j hj => match j, hj with
  | 0, _ => rfl
  | 1, _ => rfl
  | 2, _ => rfl
  | 3, _ => rfl
  | n + 4, h => absurd h (by omega)
theorem nw_X3 : ∀ j, j < 5 → defaultValue (tyX3 j) = vp_V [.int (0), .int (0), .int (0), .int (0), .int (0)] j := fun j hj => match j, hj with
  | 0, _ => rfl
  | 1, _ => rfl
  | 2, _ => rfl
  | 3, _ => rfl
  | 4, _ => rfl
  | n + 5, h => absurd h (by omega)
theorem nw_X4 : ∀ j, j < 2 → defaultValue (tyX4 j) = vp_V [.null, .int (0)] j := fun j hj => match j, hj with
  | 0, _ => rfl
  | 1, _ => rfl
  | n + 2, h => absurd h (by omega)
theorem nw_X5 : ∀ j, j < 3 → defaultValue (tyX5 j) = vp_V [.null, .null, .null] j := fun j hj => match j, hj with
  | 0, _ => rfl
  | 1, _ => rfl
  | 2, _ => rfl
  | n + 3, h => absurd h (by omega)
theorem nw_X6 : ∀ j, j < 15 → defaultValue (tyX6 j) = vp_V [.int (0), .null, .null, .null, .null, .null, .int (0), .int (0), .int (0), .int (0), .int (0), .null, .null, .null, .int (0)] j := fun j hj => match j, hj with
  | 0, _ => rfl
  | 1, _ => rfl
  | 2, _ => rfl
  | 3, _ => rfl
  | 4, _ => rfl
  | 5, _ => rfl
  | 6, _ => rfl
  | 7, _ => rfl
  | 8, _ => rfl
  | 9, _ => rfl
  | 10, _ => rfl
  | 11, _ => rfl
  | 12, _ => rfl
  | 13, _ => rfl
  | 14, _ => rfl
  | n + 15, h => absurd h (by omega)
