section
/-! 02q.words.lean.txt -/
def wsA_0 : List Cond := [Cond.code yX0_init cX0_init 1 none, Cond.methodLink RX0 3 objectInit, Cond.instanceMethod objectInit, Cond.code objectInit ⟨#[0xb1]⟩ 1 none, Cond.classLink RX0 9 RX10, Cond.instantiable RX10 3, Cond.initialized RX10, Cond.fieldLink RX0 14 "AcousticCamera$Blocks" "scores" "LAcousticCamera$Wides;", Cond.methodLink RX0 11 yX10_init, Cond.instanceMethod yX10_init, Cond.code yX10_init cX10_init 2 none, Cond.methodLink RX10 3 objectInit, Cond.classLink RX10 9 "[[J", Cond.arrayClass .long, Cond.fieldLink RX10 11 "AcousticCamera$Wides" "rows" "[[J", Cond.fieldLink RX10 16 "AcousticCamera$Wides" "used" "I", Cond.methodLink RX10 20 Lib.Math.max.name, Cond.static Lib.Math.max.name, Cond.initialized "java/lang/Math", Cond.code Lib.Math.max.name Lib.Math.max.code 2 (some .int), Cond.fieldLink RX10 26 "AcousticCamera$Wides" "count" "I", Cond.code yX0_bestOf cX0_bestOf 5 (some .int), Cond.fieldLink RX0 27 "AcousticCamera$Scene" "grid" "LAcousticCamera$Grid;", Cond.fieldLink RX0 33 "AcousticCamera$Grid" "whole" "[I", Cond.methodLink RX0 20 yX10_narrow, Cond.instanceMethod yX10_narrow, Cond.selects RX10 yX10_narrow yX10_narrow, Cond.code yX10_narrow cX10_narrow 1 none, Cond.methodLink RX0 23 yX0_measure, Cond.instanceMethod yX0_measure, Cond.selects RX0 yX0_measure yX0_measure, Cond.initialized RX0, Cond.code yX0_measure cX0_measure 7 none, Cond.fieldLink RX0 73 "AcousticCamera$Scene" "delays" "[[I", Cond.methodLink RX0 57 yX1_cells, Cond.instanceMethod yX1_cells, Cond.selects RX1 yX1_cells yX1_cells, Cond.initialized RX1, Cond.code yX1_cells cX1_cells 1 (some .int), Cond.fieldLink RX1 23 "AcousticCamera$Grid" "columns" "I", Cond.fieldLink RX1 27 "AcousticCamera$Grid" "rows" "I", Cond.methodLink RX0 61 yX0_rowStart, Cond.static yX0_rowStart, Cond.code yX0_rowStart cX0_rowStart 1 (some .int), Cond.methodLink RX0 77 yX8_blockPowerOf, Cond.instanceMethod yX8_blockPowerOf, Cond.selects RX8 yX8_blockPowerOf yX8_blockPowerOf, Cond.initialized RX8, Cond.code yX8_blockPowerOf cX8_blockPowerOf 8 none, Cond.methodLink RX8 99 Lib.Math.min.name, Cond.static Lib.Math.min.name, Cond.code Lib.Math.min.name Lib.Math.min.code 2 (some .int), Cond.fieldLink RX8 43 "AcousticCamera$State" "beam" "LAcousticCamera$Wides;", Cond.methodLink RX8 125 yX8_windowOf, Cond.instanceMethod yX8_windowOf, Cond.selects RX8 yX8_windowOf yX8_windowOf, Cond.code yX8_windowOf cX8_windowOf 2 (some .int), Cond.fieldLink RX8 55 "AcousticCamera$State" "sampleCount" "I", Cond.methodLink RX8 89 Lib.Math.max.name, Cond.methodLink RX8 95 yX8_greatestDelay, Cond.instanceMethod yX8_greatestDelay, Cond.selects RX8 yX8_greatestDelay yX8_greatestDelay, Cond.code yX8_greatestDelay cX8_greatestDelay 4 (some .int), Cond.fieldLink RX8 52 "AcousticCamera$State" "micCount" "I", Cond.fieldLink RX8 9 "AcousticCamera$State" "muted" "[Z", Cond.methodLink RX8 132 yX10_clear, Cond.instanceMethod yX10_clear, Cond.selects RX10 yX10_clear yX10_clear, Cond.code yX10_clear cX10_clear 3 none, Cond.methodLink RX8 135 yX8_focus, Cond.instanceMethod yX8_focus, Cond.selects RX8 yX8_focus yX8_focus, Cond.code yX8_focus cX8_focus 4 none, Cond.fieldLink RX8 39 "AcousticCamera$State" "samples" "LAcousticCamera$Wides;", Cond.fieldLink RX8 105 "AcousticCamera$Wides" "used" "I", Cond.fieldLink RX8 111 "AcousticCamera$Wides" "rows" "[[J", Cond.methodLink RX8 102 yX10_narrow, Cond.methodLink RX8 108 yX10_widenTo, Cond.instanceMethod yX10_widenTo, Cond.selects RX10 yX10_widenTo yX10_widenTo, Cond.code yX10_widenTo cX10_widenTo 6 none, Cond.constantLong RX10 59 (268435455), Cond.methodLink RX8 115 yX8_weighted, Cond.instanceMethod yX8_weighted, Cond.selects RX8 yX8_weighted yX8_weighted, Cond.code yX8_weighted cX8_weighted 8 (some .long), Cond.fieldLink RX8 15 "AcousticCamera$State" "weights" "[I", Cond.methodLink RX8 122 yX8_placeOf, Cond.static yX8_placeOf, Cond.code yX8_placeOf cX8_placeOf 2 (some .int), Cond.methodLink RX8 119 yX10_settle, Cond.instanceMethod yX10_settle, Cond.selects RX10 yX10_settle yX10_settle, Cond.code yX10_settle cX10_settle 5 none, Cond.methodLink RX10 61 yX10_isBeyondPart, Cond.static yX10_isBeyondPart, Cond.code yX10_isBeyondPart cX10_isBeyondPart 4 (some .boolean), Cond.constantLong RX10 65 (-1), Cond.methodLink RX10 40 yX10_widenTo, Cond.methodLink RX8 139 yX10_addProduct]
def wsA_1 : List Cond := [Cond.instanceMethod yX10_addProduct, Cond.selects RX10 yX10_addProduct yX10_addProduct, Cond.code yX10_addProduct cX10_addProduct 10 none, Cond.methodLink RX10 33 yX10_settle, Cond.methodLink RX8 143 yX10_divide, Cond.instanceMethod yX10_divide, Cond.selects RX10 yX10_divide yX10_divide, Cond.code yX10_divide cX10_divide 9 none, Cond.methodLink RX10 52 yJ9_floorDiv_f86c9, Cond.static yJ9_floorDiv_f86c9, Cond.initialized RJ9, Cond.code yJ9_floorDiv_f86c9 cJ9_floorDiv_f86c9 6 (some .long), Cond.methodLink RX10 56 yJ9_floorMod_f86c9, Cond.static yJ9_floorMod_f86c9, Cond.code yJ9_floorMod_f86c9 cJ9_floorMod_f86c9 6 (some .long), Cond.methodLink RX0 39 yX1_bestIn, Cond.instanceMethod yX1_bestIn, Cond.selects RX1 yX1_bestIn yX1_bestIn, Cond.code yX1_bestIn cX1_bestIn 8 (some .int), Cond.methodLink RX1 65 yX10_compare, Cond.instanceMethod yX10_compare, Cond.selects RX10 yX10_compare yX10_compare, Cond.code yX10_compare cX10_compare 5 (some .int), Cond.methodLink RX10 67 yJ13_compare_74951, Cond.static yJ13_compare_74951, Cond.initialized RJ13, Cond.code yJ13_compare_74951 cJ13_compare_74951 4 (some .int), Cond.code yX0_score cX0_score 9 none, Cond.fieldLink RX0 43 "AcousticCamera$Scene" "samples" "I", Cond.methodLink RX0 51 Lib.Math.min.name, Cond.static yX11_quotient, Cond.initialized RX11, Cond.code yX11_quotient cX11_quotient 4 (some .long), Cond.methodLink RX0 65 yX1_areaAround, Cond.instanceMethod yX1_areaAround, Cond.selects RX1 yX1_areaAround yX1_areaAround, Cond.code yX1_areaAround cX1_areaAround 4 (some (.array .int)), Cond.fieldLink RX1 20 "AcousticCamera$Grid" "around" "[I", Cond.methodLink RX1 57 Lib.Math.max.name, Cond.methodLink RX1 62 Lib.Math.min.name, Cond.methodLink RX1 47 yX1_columnOf, Cond.instanceMethod yX1_columnOf, Cond.selects RX1 yX1_columnOf yX1_columnOf, Cond.code yX1_columnOf cX1_columnOf 2 (some .int), Cond.static yX11_remainder, Cond.code yX11_remainder cX11_remainder 2 (some .int), Cond.methodLink RX1 54 yX1_rowOf, Cond.instanceMethod yX1_rowOf, Cond.selects RX1 yX1_rowOf yX1_rowOf, Cond.code yX1_rowOf cX1_rowOf 2 (some .int), Cond.methodLink RX0 69 yX10_add, Cond.instanceMethod yX10_add, Cond.selects RX10 yX10_add yX10_add, Cond.code yX10_add cX10_add 6 none, Cond.code yX0_trackCellIn cX0_trackCellIn 5 (some .int), Cond.code yX1_init cX1_init 1 none, Cond.methodLink RX1 3 objectInit, Cond.arrayClass .int, Cond.fieldLink RX1 9 "AcousticCamera$Grid" "whole" "[I", Cond.classLink RX1 15 "[[I", Cond.fieldLink RX1 17 "AcousticCamera$Grid" "zones" "[[I", Cond.code yX1_clear cX1_clear 1 none, Cond.fieldLink RX1 30 "AcousticCamera$Grid" "zoneCount" "I", Cond.code yX1_open cX1_open 3 none, Cond.code yX1_centreX cX1_centreX 2 (some .int), Cond.fieldLink RX1 41 "AcousticCamera$Grid" "x" "I", Cond.fieldLink RX1 44 "AcousticCamera$Grid" "size" "I", Cond.code yX1_centreY cX1_centreY 2 (some .int), Cond.fieldLink RX1 51 "AcousticCamera$Grid" "y" "I", Cond.code yX2_init cX2_init 1 none, Cond.methodLink RX2 1 objectInit, Cond.code yX3_init cX3_init 2 none, Cond.methodLink RX3 3 objectInit, Cond.fieldLink RX3 9 "AcousticCamera$Parser" "position" "I", Cond.fieldLink RX3 15 "AcousticCamera$Parser" "text" "LAcousticCamera$Text;", Cond.code yX3_parse cX3_parse 4 none, Cond.fieldLink RX3 25 "AcousticCamera$Parser" "at" "I", Cond.fieldLink RX3 37 "AcousticCamera$Text" "count" "I", Cond.fieldLink RX3 51 "AcousticCamera$Scene" "micCount" "I", Cond.fieldLink RX3 54 "AcousticCamera$Scene" "grid" "LAcousticCamera$Grid;", Cond.fieldLink RX3 58 "AcousticCamera$Grid" "columns" "I", Cond.fieldLink RX3 63 "AcousticCamera$Parser" "code" "I", Cond.methodLink RX3 19 yX9_cut, Cond.instanceMethod yX9_cut, Cond.selects RX9 yX9_cut yX9_cut, Cond.initialized RX9, Cond.code yX9_cut cX9_cut 4 none, Cond.fieldLink RX9 28 "AcousticCamera$Text" "count" "I", Cond.methodLink RX9 31 yX9_cutOne, Cond.instanceMethod yX9_cutOne, Cond.selects RX9 yX9_cutOne yX9_cutOne, Cond.code yX9_cutOne cX9_cutOne 5 (some .int), Cond.fieldLink RX9 9 "AcousticCamera$Text" "bytes" "[I", Cond.methodLink RX9 39 yX9_runEnd, Cond.instanceMethod yX9_runEnd, Cond.selects RX9 yX9_runEnd yX9_runEnd, Cond.code yX9_runEnd cX9_runEnd 6 (some .int), Cond.methodLink RX9 35 yX9_add, Cond.instanceMethod yX9_add, Cond.selects RX9 yX9_add yX9_add]
def wsA_2 : List Cond := [Cond.code yX9_add cX9_add 4 none, Cond.fieldLink RX9 15 "AcousticCamera$Text" "kinds" "[I", Cond.fieldLink RX9 18 "AcousticCamera$Text" "starts" "[I", Cond.fieldLink RX9 21 "AcousticCamera$Text" "ends" "[I", Cond.methodLink RX3 28 yX6_clear, Cond.instanceMethod yX6_clear, Cond.selects RX6 yX6_clear yX6_clear, Cond.initialized RX6, Cond.code yX6_clear cX6_clear 1 none, Cond.fieldLink RX6 20 "AcousticCamera$Scene" "grid" "LAcousticCamera$Grid;", Cond.fieldLink RX6 53 "AcousticCamera$Scene" "micCount" "I", Cond.fieldLink RX6 57 "AcousticCamera$Scene" "sourceCount" "I", Cond.fieldLink RX6 60 "AcousticCamera$Scene" "wallCount" "I", Cond.fieldLink RX6 63 "AcousticCamera$Scene" "fade" "I", Cond.fieldLink RX6 66 "AcousticCamera$Scene" "tapCount" "I", Cond.fieldLink RX6 69 "AcousticCamera$Scene" "shadeCount" "I", Cond.methodLink RX6 50 yX1_clear, Cond.instanceMethod yX1_clear, Cond.selects RX1 yX1_clear yX1_clear, Cond.methodLink RX3 33 yX3_parseHead, Cond.instanceMethod yX3_parseHead, Cond.selects RX3 yX3_parseHead yX3_parseHead, Cond.initialized RX3, Cond.code yX3_parseHead cX3_parseHead 2 none, Cond.fieldLink RX3 78 "AcousticCamera$Scene" "distance" "I", Cond.fieldLink RX3 82 "AcousticCamera$Scene" "step" "I", Cond.fieldLink RX3 86 "AcousticCamera$Scene" "samples" "I", Cond.fieldLink RX3 90 "AcousticCamera$Scene" "limit" "I", Cond.methodLink RX3 68 yX3_takeWord, Cond.instanceMethod yX3_takeWord, Cond.selects RX3 yX3_takeWord yX3_takeWord, Cond.code yX3_takeWord cX3_takeWord 2 none, Cond.methodLink RX3 94 yX3_isWord, Cond.instanceMethod yX3_isWord, Cond.selects RX3 yX3_isWord yX3_isWord, Cond.code yX3_isWord cX3_isWord 5 (some .boolean), Cond.fieldLink RX3 266 "AcousticCamera$Text" "starts" "[I", Cond.fieldLink RX3 269 "AcousticCamera$Text" "ends" "[I", Cond.fieldLink RX3 272 "AcousticCamera$Text" "bytes" "[I", Cond.methodLink RX3 40 yX3_kind, Cond.instanceMethod yX3_kind, Cond.selects RX3 yX3_kind yX3_kind, Cond.code yX3_kind cX3_kind 1 (some .int), Cond.fieldLink RX3 263 "AcousticCamera$Text" "kinds" "[I", Cond.methodLink RX3 275 yJ0_length_8abf5, Cond.instanceMethod yJ0_length_8abf5, Cond.selects RJ0 yJ0_length_8abf5 yJ0_length_8abf5, Cond.initialized RJ0, Cond.code yJ0_length_8abf5 cJ0_length_8abf5 1 (some .int), Cond.fieldLink RJ0 9 "java/lang/String" "value" "[B", Cond.methodLink RJ0 335 yJ0_coder_7d493, Cond.instanceMethod yJ0_coder_7d493, Cond.selects RJ0 yJ0_coder_7d493 yJ0_coder_7d493, Cond.code yJ0_coder_7d493 cJ0_coder_7d493 1 (some .byte), Cond.fieldLink RJ0 38 "java/lang/String" "COMPACT_STRINGS" "Z", Cond.fieldLink RJ0 15 "java/lang/String" "coder" "B", Cond.methodLink RX3 280 yJ0_charAt_5068e, Cond.instanceMethod yJ0_charAt_5068e, Cond.selects RJ0 yJ0_charAt_5068e yJ0_charAt_5068e, Cond.code yJ0_charAt_5068e cJ0_charAt_5068e 2 (some .char), Cond.methodLink RJ0 492 yJ0_isLatin1_aae02, Cond.instanceMethod yJ0_isLatin1_aae02, Cond.selects RJ0 yJ0_isLatin1_aae02 yJ0_isLatin1_aae02, Cond.code yJ0_isLatin1_aae02 cJ0_isLatin1_aae02 1 (some .boolean), Cond.methodLink RJ0 495 yJ1_charAt_3b067, Cond.static yJ1_charAt_3b067, Cond.initialized RJ1, Cond.code yJ1_charAt_3b067 cJ1_charAt_3b067 2 (some .char), Cond.methodLink RJ1 9 yJ0_checkIndex_df160, Cond.static yJ0_checkIndex_df160, Cond.code yJ0_checkIndex_df160 cJ0_checkIndex_df160 2 none, Cond.fieldLink RJ0 1053 "jdk/internal/util/Preconditions" "SIOOBE_FORMATTER" "Ljava/util/function/BiFunction;", Cond.methodLink RJ0 1059 yJ3_checkIndex_8e157, Cond.static yJ3_checkIndex_8e157, Cond.initialized RJ3, Cond.code yJ3_checkIndex_8e157 cJ3_checkIndex_8e157 3 (some .int), Cond.methodLink RJ0 498 yJ2_charAt_3b067, Cond.static yJ2_charAt_3b067, Cond.initialized RJ2, Cond.code yJ2_charAt_3b067 cJ2_charAt_3b067 2 (some .char), Cond.methodLink RJ2 67 yJ2_checkIndex_2214a, Cond.static yJ2_checkIndex_2214a, Cond.code yJ2_checkIndex_2214a cJ2_checkIndex_2214a 2 none, Cond.methodLink RJ2 48 yJ2_length_9d52b, Cond.static yJ2_length_9d52b, Cond.code yJ2_length_9d52b cJ2_length_9d52b 1 (some .int), Cond.methodLink RJ2 414 yJ0_checkIndex_df160, Cond.methodLink RJ2 71 yJ2_getChar_3b067, Cond.static yJ2_getChar_3b067, Cond.code yJ2_getChar_3b067 cJ2_getChar_3b067 2 (some .char), Cond.fieldLink RJ2 44 "java/lang/StringUTF16" "$assertionsDisabled" "Z", Cond.fieldLink RJ2 59 "java/lang/StringUTF16" "HI_BYTE_SHIFT" "I", Cond.fieldLink RJ2 63 "java/lang/StringUTF16" "LO_BYTE_SHIFT" "I", Cond.methodLink RX3 44 yX3_failAt, Cond.instanceMethod yX3_failAt, Cond.selects RX3 yX3_failAt yX3_failAt, Cond.code yX3_failAt cX3_failAt 3 none, Cond.classLink RX3 284 "java/lang/IllegalArgumentException", Cond.initialized "java/lang/IllegalArgumentException", Cond.methodLink RX3 74 yX3_number]
def wsA_3 : List Cond := [Cond.instanceMethod yX3_number, Cond.selects RX3 yX3_number yX3_number, Cond.code yX3_number cX3_number 4 (some .int), Cond.methodLink RX3 260 yX3_value, Cond.instanceMethod yX3_value, Cond.selects RX3 yX3_value yX3_value, Cond.code yX3_value cX3_value 3 (some .int), Cond.methodLink RX3 48 yX3_parseLine, Cond.instanceMethod yX3_parseLine, Cond.selects RX3 yX3_parseLine yX3_parseLine, Cond.code yX3_parseLine cX3_parseLine 2 none, Cond.fieldLink RX3 119 "AcousticCamera$Scene" "fade" "I", Cond.methodLink RX3 98 yX3_parseMic, Cond.instanceMethod yX3_parseMic, Cond.selects RX3 yX3_parseMic yX3_parseMic, Cond.code yX3_parseMic cX3_parseMic 3 none, Cond.fieldLink RX3 150 "AcousticCamera$Scene" "mics" "[LAcousticCamera$Mic;", Cond.fieldLink RX3 157 "AcousticCamera$Mic" "x" "I", Cond.fieldLink RX3 162 "AcousticCamera$Mic" "y" "I", Cond.fieldLink RX3 165 "AcousticCamera$Mic" "gain" "I", Cond.fieldLink RX3 168 "AcousticCamera$Mic" "offset" "I", Cond.methodLink RX3 121 yX3_startLine, Cond.instanceMethod yX3_startLine, Cond.selects RX3 yX3_startLine yX3_startLine, Cond.code yX3_startLine cX3_startLine 3 none, Cond.methodLink RX3 154 yX3_signed, Cond.instanceMethod yX3_signed, Cond.selects RX3 yX3_signed yX3_signed, Cond.code yX3_signed cX3_signed 3 (some .int), Cond.methodLink RX3 103 yX3_parseMap, Cond.instanceMethod yX3_parseMap, Cond.selects RX3 yX3_parseMap yX3_parseMap, Cond.code yX3_parseMap cX3_parseMap 4 none, Cond.fieldLink RX3 171 "AcousticCamera$Grid" "x" "I", Cond.fieldLink RX3 172 "AcousticCamera$Grid" "y" "I", Cond.fieldLink RX3 173 "AcousticCamera$Grid" "size" "I", Cond.methodLink RX3 176 yX1_open, Cond.instanceMethod yX1_open, Cond.selects RX1 yX1_open yX1_open, Cond.methodLink RX3 109 yX3_parseSource, Cond.instanceMethod yX3_parseSource, Cond.selects RX3 yX3_parseSource yX3_parseSource, Cond.code yX3_parseSource cX3_parseSource 3 none, Cond.fieldLink RX3 179 "AcousticCamera$Scene" "sourceCount" "I", Cond.fieldLink RX3 182 "AcousticCamera$Scene" "sources" "[LAcousticCamera$Source;", Cond.fieldLink RX3 189 "AcousticCamera$Source" "shape" "I", Cond.fieldLink RX3 193 "AcousticCamera$Source" "x" "I", Cond.fieldLink RX3 194 "AcousticCamera$Source" "y" "I", Cond.fieldLink RX3 195 "AcousticCamera$Source" "vx" "I", Cond.fieldLink RX3 198 "AcousticCamera$Source" "vy" "I", Cond.fieldLink RX3 201 "AcousticCamera$Source" "amp" "I", Cond.fieldLink RX3 204 "AcousticCamera$Source" "period" "I", Cond.fieldLink RX3 207 "AcousticCamera$Source" "phase" "I", Cond.fieldLink RX3 210 "AcousticCamera$Source" "from" "I", Cond.fieldLink RX3 213 "AcousticCamera$Source" "off" "Z", Cond.methodLink RX3 186 yX3_shape, Cond.instanceMethod yX3_shape, Cond.selects RX3 yX3_shape yX3_shape, Cond.code yX3_shape cX3_shape 2 (some .int), Cond.methodLink RX3 114 yX3_parseWall, Cond.instanceMethod yX3_parseWall, Cond.selects RX3 yX3_parseWall yX3_parseWall, Cond.code yX3_parseWall cX3_parseWall 2 none, Cond.fieldLink RX3 225 "AcousticCamera$Scene" "wallCount" "I", Cond.fieldLink RX3 228 "AcousticCamera$Scene" "walls" "[I", Cond.fieldLink RX3 232 "AcousticCamera$Scene" "percents" "[I", Cond.methodLink RX3 127 yX3_parseFilter, Cond.instanceMethod yX3_parseFilter, Cond.selects RX3 yX3_parseFilter yX3_parseFilter, Cond.code yX3_parseFilter cX3_parseFilter 3 none, Cond.fieldLink RX3 235 "AcousticCamera$Scene" "tapCount" "I", Cond.methodLink RX3 238 yX6_addTap, Cond.instanceMethod yX6_addTap, Cond.selects RX6 yX6_addTap yX6_addTap, Cond.code yX6_addTap cX6_addTap 2 none, Cond.fieldLink RX6 37 "AcousticCamera$Scene" "taps" "[I", Cond.methodLink RX3 241 yX3_failAsTooMany, Cond.instanceMethod yX3_failAsTooMany, Cond.selects RX3 yX3_failAsTooMany yX3_failAsTooMany, Cond.code yX3_failAsTooMany cX3_failAsTooMany 2 none, Cond.methodLink RX3 132 yX3_parseClock, Cond.instanceMethod yX3_parseClock, Cond.selects RX3 yX3_parseClock yX3_parseClock, Cond.code yX3_parseClock cX3_parseClock 3 none, Cond.methodLink RX3 137 yX3_parseZone, Cond.instanceMethod yX3_parseZone, Cond.selects RX3 yX3_parseZone yX3_parseZone, Cond.code yX3_parseZone cX3_parseZone 3 none, Cond.fieldLink RX3 244 "AcousticCamera$Grid" "zoneCount" "I", Cond.fieldLink RX3 247 "AcousticCamera$Grid" "zones" "[[I", Cond.fieldLink RX3 251 "AcousticCamera$Grid" "rows" "I", Cond.methodLink RX3 142 yX3_parseShade, Cond.instanceMethod yX3_parseShade, Cond.selects RX3 yX3_parseShade yX3_parseShade, Cond.code yX3_parseShade cX3_parseShade 3 none, Cond.fieldLink RX3 254 "AcousticCamera$Scene" "shadeCount" "I", Cond.methodLink RX3 257 yX6_addShade, Cond.instanceMethod yX6_addShade, Cond.selects RX6 yX6_addShade yX6_addShade, Cond.code yX6_addShade cX6_addShade 2 none]
def wsA_4 : List Cond := [Cond.fieldLink RX6 40 "AcousticCamera$Scene" "shades" "[I", Cond.methodLink RX3 147 yX3_parseOff, Cond.instanceMethod yX3_parseOff, Cond.selects RX3 yX3_parseOff yX3_parseOff, Cond.code yX3_parseOff cX3_parseOff 3 none, Cond.code yX4_init cX4_init 1 none, Cond.methodLink RX4 3 objectInit, Cond.classLink RX4 9 RX10, Cond.fieldLink RX4 14 "AcousticCamera$PowerMap" "of" "LAcousticCamera$Wides;", Cond.fieldLink RX4 20 "AcousticCamera$PowerMap" "peakCells" "[I", Cond.fieldLink RX4 24 "AcousticCamera$PowerMap" "peakPowers" "LAcousticCamera$Wides;", Cond.methodLink RX4 11 yX10_init, Cond.code yX4_measure cX4_measure 5 none, Cond.fieldLink RX4 30 "AcousticCamera$Scene" "grid" "LAcousticCamera$Grid;", Cond.fieldLink RX4 42 "AcousticCamera$Scene" "delays" "[[I", Cond.fieldLink RX4 56 "AcousticCamera$Grid" "whole" "[I", Cond.fieldLink RX4 63 "AcousticCamera$PowerMap" "best" "I", Cond.fieldLink RX4 67 "AcousticCamera$PowerMap" "peakCount" "I", Cond.methodLink RX4 27 yX10_narrow, Cond.methodLink RX4 36 yX1_cells, Cond.methodLink RX4 46 yX8_windowOf, Cond.methodLink RX4 52 yX8_blockPowerOf, Cond.methodLink RX4 59 yX1_bestIn, Cond.methodLink RX4 70 yX4_standsOut, Cond.instanceMethod yX4_standsOut, Cond.selects RX4 yX4_standsOut yX4_standsOut, Cond.initialized RX4, Cond.code yX4_standsOut cX4_standsOut 7 (some .boolean), Cond.fieldLink RX4 85 "AcousticCamera$Grid" "columns" "I", Cond.methodLink RX4 92 yX1_areaAround, Cond.methodLink RX4 78 yX10_compare, Cond.methodLink RX4 74 yX10_set, Cond.instanceMethod yX10_set, Cond.selects RX10 yX10_set yX10_set, Cond.code yX10_set cX10_set 4 none, Cond.methodLink RX10 29 yX10_clear, Cond.methodLink RX10 36 yX10_add, Cond.code yX4_second cX4_second 4 (some .int), Cond.code yX4_sumIn cX4_sumIn 7 none, Cond.methodLink RX4 82 yX10_clear, Cond.methodLink RX4 88 yX10_add, Cond.code yX4_peakRanked cX4_peakRanked 3 (some .int), Cond.methodLink RX4 96 yX10_ranked, Cond.instanceMethod yX10_ranked, Cond.selects RX10 yX10_ranked yX10_ranked, Cond.code yX10_ranked cX10_ranked 7 (some .int), Cond.methodLink RX10 82 yX10_compare, Cond.code yX4_digit cX4_digit 5 (some .int), Cond.methodLink RX4 99 yX10_isZero, Cond.instanceMethod yX10_isZero, Cond.selects RX10 yX10_isZero yX10_isZero, Cond.code yX10_isZero cX10_isZero 5 (some .boolean), Cond.code yX5_init cX5_init 1 none, Cond.methodLink RX5 3 objectInit, Cond.classLink RX5 9 "[[I", Cond.fieldLink RX5 11 "AcousticCamera$Recorder" "heard" "[[I", Cond.classLink RX5 16 RX7, Cond.instantiable RX7 10, Cond.initialized RX7, Cond.fieldLink RX5 19 "AcousticCamera$Recorder" "probe" "LAcousticCamera$Source;", Cond.instanceMethod yX7_init, Cond.code yX7_init cX7_init 1 none, Cond.methodLink RX7 3 objectInit, Cond.code yX5_record cX5_record 6 none, Cond.fieldLink RX5 26 "AcousticCamera$Scene" "sourceCount" "I", Cond.fieldLink RX5 32 "AcousticCamera$State" "on" "[Z", Cond.fieldLink RX5 38 "AcousticCamera$Scene" "sources" "[LAcousticCamera$Source;", Cond.fieldLink RX5 42 "AcousticCamera$Scene" "samples" "I", Cond.fieldLink RX5 45 "AcousticCamera$State" "x" "[I", Cond.fieldLink RX5 49 "AcousticCamera$State" "vx" "[I", Cond.fieldLink RX5 56 "AcousticCamera$State" "y" "[I", Cond.fieldLink RX5 59 "AcousticCamera$State" "vy" "[I", Cond.methodLink RX5 23 yX5_silence, Cond.instanceMethod yX5_silence, Cond.selects RX5 yX5_silence yX5_silence, Cond.initialized RX5, Cond.code yX5_silence cX5_silence 2 none, Cond.methodLink RX5 92 yJ7_fill_53178, Cond.static yJ7_fill_53178, Cond.initialized RJ7, Cond.code yJ7_fill_53178 cJ7_fill_53178 4 none, Cond.static yX11_moved, Cond.code yX11_moved cX11_moved 3 (some .int), Cond.methodLink RX5 62 yX5_hear, Cond.instanceMethod yX5_hear, Cond.selects RX5 yX5_hear yX5_hear, Cond.code yX5_hear cX5_hear 11 none, Cond.fieldLink RX5 98 "AcousticCamera$Scene" "micCount" "I", Cond.fieldLink RX5 101 "AcousticCamera$Scene" "mics" "[LAcousticCamera$Mic;", Cond.fieldLink RX5 113 "AcousticCamera$Scene" "wallCount" "I", Cond.fieldLink RX5 116 "AcousticCamera$Scene" "walls" "[I", Cond.fieldLink RX5 119 "AcousticCamera$Scene" "percents" "[I", Cond.methodLink RX5 105 yX6_delayFrom, Cond.instanceMethod yX6_delayFrom, Cond.selects RX6 yX6_delayFrom yX6_delayFrom, Cond.code yX6_delayFrom cX6_delayFrom 7 (some .int), Cond.fieldLink RX6 72 "AcousticCamera$Mic" "x" "I", Cond.fieldLink RX6 75 "AcousticCamera$Mic" "y" "I", Cond.fieldLink RX6 78 "AcousticCamera$Scene" "distance" "I", Cond.fieldLink RX6 85 "AcousticCamera$Scene" "step" "I"]
def wsA_5 : List Cond := [Cond.static yX11_root, Cond.code yX11_root cX11_root 4 (some .int), Cond.methodLink RX5 109 yX5_arriving, Cond.static yX5_arriving, Cond.code yX5_arriving cX5_arriving 5 (some .int), Cond.fieldLink RX5 125 "AcousticCamera$Scene" "fade" "I", Cond.methodLink RX5 122 yX7_valueAt, Cond.instanceMethod yX7_valueAt, Cond.selects RX7 yX7_valueAt yX7_valueAt, Cond.code yX7_valueAt cX7_valueAt 3 (some .int), Cond.fieldLink RX7 9 "AcousticCamera$Source" "from" "I", Cond.fieldLink RX7 15 "AcousticCamera$Source" "phase" "I", Cond.fieldLink RX7 18 "AcousticCamera$Source" "period" "I", Cond.fieldLink RX7 25 "AcousticCamera$Source" "shape" "I", Cond.fieldLink RX7 28 "AcousticCamera$Source" "amp" "I", Cond.methodLink RX7 31 Lib.Math.abs.name, Cond.static Lib.Math.abs.name, Cond.code Lib.Math.abs.name Lib.Math.abs.code 1 (some .int), Cond.constant RX7 41 (104729), Cond.methodLink RX5 66 yX5_finish, Cond.instanceMethod yX5_finish, Cond.selects RX5 yX5_finish yX5_finish, Cond.code yX5_finish cX5_finish 6 none, Cond.fieldLink RX5 132 "AcousticCamera$State" "samples" "LAcousticCamera$Wides;", Cond.fieldLink RX5 140 "AcousticCamera$Scene" "tapCount" "I", Cond.fieldLink RX5 154 "AcousticCamera$Scene" "limit" "I", Cond.methodLink RX5 157 Lib.Math.min.name, Cond.methodLink RX5 162 Lib.Math.max.name, Cond.fieldLink RX5 169 "AcousticCamera$State" "timesCleaned" "I", Cond.methodLink RX5 135 yX10_narrow, Cond.methodLink RX5 143 yX5_filtered, Cond.instanceMethod yX5_filtered, Cond.selects RX5 yX5_filtered yX5_filtered, Cond.code yX5_filtered cX5_filtered 6 (some .int), Cond.fieldLink RX5 172 "AcousticCamera$Scene" "taps" "[I", Cond.methodLink RX5 147 yX5_raw, Cond.instanceMethod yX5_raw, Cond.selects RX5 yX5_raw yX5_raw, Cond.code yX5_raw cX5_raw 5 (some .int), Cond.fieldLink RX5 175 "AcousticCamera$Mic" "offset" "I", Cond.fieldLink RX5 180 "AcousticCamera$Mic" "gain" "I", Cond.methodLink RX5 150 yX8_placeOf, Cond.methodLink RX5 165 yX10_put, Cond.instanceMethod yX10_put, Cond.selects RX10 yX10_put yX10_put, Cond.code yX10_put cX10_put 3 none, Cond.code yX5_recordPoint cX5_recordPoint 8 none, Cond.fieldLink RX5 70 "AcousticCamera$Source" "shape" "I", Cond.fieldLink RX5 73 "AcousticCamera$Source" "amp" "I", Cond.fieldLink RX5 76 "AcousticCamera$Source" "period" "I", Cond.fieldLink RX5 79 "AcousticCamera$Scene" "grid" "LAcousticCamera$Grid;", Cond.methodLink RX5 83 yX1_centreX, Cond.instanceMethod yX1_centreX, Cond.selects RX1 yX1_centreX yX1_centreX, Cond.methodLink RX5 89 yX1_centreY, Cond.instanceMethod yX1_centreY, Cond.selects RX1 yX1_centreY yX1_centreY, Cond.code yX6_init cX6_init 2 none, Cond.methodLink RX6 3 objectInit, Cond.classLink RX6 9 RX2, Cond.fieldLink RX6 11 "AcousticCamera$Scene" "mics" "[LAcousticCamera$Mic;", Cond.classLink RX6 17 RX1, Cond.instantiable RX1 9, Cond.classLink RX6 24 RX7, Cond.fieldLink RX6 26 "AcousticCamera$Scene" "sources" "[LAcousticCamera$Source;", Cond.fieldLink RX6 30 "AcousticCamera$Scene" "walls" "[I", Cond.fieldLink RX6 34 "AcousticCamera$Scene" "percents" "[I", Cond.classLink RX6 43 "[[I", Cond.fieldLink RX6 45 "AcousticCamera$Scene" "delays" "[[I", Cond.instantiable RX2 4, Cond.initialized RX2, Cond.instanceMethod yX1_init, Cond.instanceMethod yX2_init, Cond.code yX6_delaysFrom cX6_delaysFrom 5 none, Cond.methodLink RX6 92 yX6_delayFrom, Cond.code yX6_measureDelays cX6_measureDelays 2 none, Cond.methodLink RX6 96 yX1_cells, Cond.methodLink RX6 100 yX1_centreX, Cond.methodLink RX6 103 yX1_centreY, Cond.methodLink RX6 106 yX6_delaysFrom, Cond.instanceMethod yX6_delaysFrom, Cond.selects RX6 yX6_delaysFrom yX6_delaysFrom, Cond.code yX8_init cX8_init 1 none, Cond.methodLink RX8 3 objectInit, Cond.arrayClass .boolean, Cond.fieldLink RX8 19 "AcousticCamera$State" "on" "[Z", Cond.fieldLink RX8 22 "AcousticCamera$State" "x" "[I", Cond.fieldLink RX8 25 "AcousticCamera$State" "y" "[I", Cond.fieldLink RX8 28 "AcousticCamera$State" "vx" "[I", Cond.fieldLink RX8 31 "AcousticCamera$State" "vy" "[I", Cond.classLink RX8 34 RX10, Cond.methodLink RX8 36 yX10_init, Cond.code yX8_begin cX8_begin 4 none, Cond.fieldLink RX8 46 "AcousticCamera$Scene" "micCount" "I", Cond.fieldLink RX8 53 "AcousticCamera$Scene" "samples" "I", Cond.fieldLink RX8 58 "AcousticCamera$Scene" "shadeCount" "I", Cond.fieldLink RX8 61 "AcousticCamera$Scene" "shades" "[I", Cond.fieldLink RX8 64 "AcousticCamera$Scene" "sources" "[LAcousticCamera$Source;", Cond.fieldLink RX8 68 "AcousticCamera$Source" "off" "Z", Cond.fieldLink RX8 74 "AcousticCamera$Source" "x" "I"]
def wsA_6 : List Cond := [Cond.fieldLink RX8 76 "AcousticCamera$Source" "y" "I", Cond.fieldLink RX8 78 "AcousticCamera$Source" "vx" "I", Cond.fieldLink RX8 80 "AcousticCamera$Source" "vy" "I", Cond.code yX8_copyFrom cX8_copyFrom 3 none, Cond.fieldLink RX8 82 "AcousticCamera$State" "timesCleaned" "I", Cond.methodLink RX8 85 yX10_copyFrom, Cond.instanceMethod yX10_copyFrom, Cond.selects RX10 yX10_copyFrom yX10_copyFrom, Cond.code yX10_copyFrom cX10_copyFrom 3 none, Cond.methodLink RX10 43 Lib.Math.min.name, Cond.methodLink RX10 46 arraycopyName, Cond.native arraycopyName, Cond.static arraycopyName, Cond.initialized "java/lang/System", Cond.code yX8_activeMics cX8_activeMics 3 (some .int), Cond.code yX8_activeWeight cX8_activeWeight 3 (some .int), Cond.code yX8_smallestDelay cX8_smallestDelay 4 (some .int), Cond.code yX8_powerOf cX8_powerOf 4 none, Cond.methodLink RX8 128 yX8_blockPowerOf, Cond.code yX8_productSum cX8_productSum 7 none, Cond.code yX8_subtractBeam cX8_subtractBeam 8 none, Cond.methodLink RX8 147 yX8_activeWeight, Cond.instanceMethod yX8_activeWeight, Cond.selects RX8 yX8_activeWeight yX8_activeWeight, Cond.methodLink RX8 151 yX10_multiply, Cond.instanceMethod yX10_multiply, Cond.selects RX10 yX10_multiply yX10_multiply, Cond.code yX10_multiply cX10_multiply 4 none, Cond.methodLink RX8 154 yX10_add, Cond.code yX9_init cX9_init 1 none, Cond.methodLink RX9 3 objectInit, Cond.code yX9_addWord cX9_addWord 3 none, Cond.fieldLink RX9 24 "AcousticCamera$Text" "length" "I", Cond.code yX10_value cX10_value 5 (some .long), Cond.code yX10_ratio cX10_ratio 6 (some .float), Cond.constantFloat RX10 81 (1300234240), Cond.methodLink RX10 73 yX10_leading, Cond.instanceMethod yX10_leading, Cond.selects RX10 yX10_leading yX10_leading, Cond.code yX10_leading cX10_leading 7 (some .float), Cond.methodLink RX10 77 yX10_partsBelow, Cond.instanceMethod yX10_partsBelow, Cond.selects RX10 yX10_partsBelow yX10_partsBelow, Cond.code yX10_partsBelow cX10_partsBelow 3 (some .int), Cond.code yX11_init cX11_init 2 none, Cond.methodLink RX11 1 objectInit, Cond.classLink RX11 7 RX9, Cond.instantiable RX9 6, Cond.fieldLink RX11 10 "AcousticCamera" "text" "LAcousticCamera$Text;", Cond.classLink RX11 16 RX3, Cond.instantiable RX3 4, Cond.fieldLink RX11 21 "AcousticCamera" "parser" "LAcousticCamera$Parser;", Cond.classLink RX11 25 RX5, Cond.instantiable RX5 2, Cond.fieldLink RX11 28 "AcousticCamera" "recorder" "LAcousticCamera$Recorder;", Cond.classLink RX11 32 RX0, Cond.instantiable RX0 1, Cond.fieldLink RX11 35 "AcousticCamera" "blocks" "LAcousticCamera$Blocks;", Cond.classLink RX11 39 RX4, Cond.instantiable RX4 6, Cond.fieldLink RX11 42 "AcousticCamera" "powers" "LAcousticCamera$PowerMap;", Cond.fieldLink RX11 46 "AcousticCamera" "trialPowers" "LAcousticCamera$PowerMap;", Cond.classLink RX11 49 RX8, Cond.instantiable RX8 12, Cond.fieldLink RX11 52 "AcousticCamera" "now" "LAcousticCamera$State;", Cond.fieldLink RX11 56 "AcousticCamera" "trial" "LAcousticCamera$State;", Cond.fieldLink RX11 59 "AcousticCamera" "past" "[LAcousticCamera$State;", Cond.fieldLink RX11 63 "AcousticCamera" "slots" "[LAcousticCamera$State;", Cond.fieldLink RX11 66 "AcousticCamera" "saved" "[Z", Cond.fieldLink RX11 70 "AcousticCamera" "pointDelays" "[I", Cond.classLink RX11 74 RX10, Cond.fieldLink RX11 79 "AcousticCamera" "numbers" "LAcousticCamera$Wides;", Cond.fieldLink RX11 83 "AcousticCamera" "mapText" "[I", Cond.classLink RX11 86 RX6, Cond.instantiable RX6 18, Cond.fieldLink RX11 89 "AcousticCamera" "scene" "LAcousticCamera$Scene;", Cond.fieldLink RX11 93 "AcousticCamera" "spare" "LAcousticCamera$Scene;", Cond.instanceMethod yX9_init, Cond.methodLink RX11 18 yX3_init, Cond.instanceMethod yX3_init, Cond.instanceMethod yX5_init, Cond.instanceMethod yX0_init, Cond.instanceMethod yX4_init, Cond.instanceMethod yX8_init, Cond.methodLink RX11 76 yX10_init, Cond.methodLink RX11 88 yX6_init, Cond.instanceMethod yX6_init, Cond.code yX11_append cX11_append 6 (some .int), Cond.fieldLink RX11 96 "AcousticCamera$Text" "length" "I", Cond.methodLink RX11 100 yX9_addWord, Cond.instanceMethod yX9_addWord, Cond.selects RX9 yX9_addWord yX9_addWord, Cond.code yX11_load cX11_load 3 (some .int), Cond.classLink RX11 103 "java/lang/IndexOutOfBoundsException", Cond.initialized "java/lang/IndexOutOfBoundsException", Cond.fieldLink RX11 113 "AcousticCamera$Scene" "grid" "LAcousticCamera$Grid;", Cond.methodLink RX11 106 yX3_parse, Cond.instanceMethod yX3_parse, Cond.selects RX3 yX3_parse yX3_parse, Cond.methodLink RX11 110 yX11_begin]
def wsA_7 : List Cond := [Cond.instanceMethod yX11_begin, Cond.selects RX11 yX11_begin yX11_begin, Cond.code yX11_begin cX11_begin 2 none, Cond.fieldLink RX11 406 "AcousticCamera" "pastCount" "I", Cond.fieldLink RX11 412 "AcousticCamera$PowerMap" "known" "Z", Cond.methodLink RX11 419 yX6_measureDelays, Cond.instanceMethod yX6_measureDelays, Cond.selects RX6 yX6_measureDelays yX6_measureDelays, Cond.methodLink RX11 422 yX8_begin, Cond.instanceMethod yX8_begin, Cond.selects RX8 yX8_begin yX8_begin, Cond.methodLink RX11 387 yX5_record, Cond.instanceMethod yX5_record, Cond.selects RX5 yX5_record yX5_record, Cond.methodLink RX11 117 yX1_cells, Cond.code yX11_parseError cX11_parseError 1 (some .int), Cond.fieldLink RX11 123 "AcousticCamera$Parser" "code" "I", Cond.code yX11_errorPosition cX11_errorPosition 1 (some .int), Cond.fieldLink RX11 126 "AcousticCamera$Parser" "position" "I", Cond.code yX11_buffered cX11_buffered 1 (some .int), Cond.code yX11_mics cX11_mics 1 (some .int), Cond.fieldLink RX11 129 "AcousticCamera$Scene" "micCount" "I", Cond.code yX11_micAt cX11_micAt 3 (some .int), Cond.fieldLink RX11 142 "AcousticCamera$Scene" "mics" "[LAcousticCamera$Mic;", Cond.fieldLink RX11 146 "AcousticCamera$Mic" "x" "I", Cond.fieldLink RX11 151 "AcousticCamera$Mic" "y" "I", Cond.fieldLink RX11 154 "AcousticCamera$Mic" "gain" "I", Cond.fieldLink RX11 157 "AcousticCamera$State" "weights" "[I", Cond.methodLink RX11 132 yX11_needCamera, Cond.instanceMethod yX11_needCamera, Cond.selects RX11 yX11_needCamera yX11_needCamera, Cond.code yX11_needCamera cX11_needCamera 1 none, Cond.classLink RX11 397 "java/lang/IllegalStateException", Cond.initialized "java/lang/IllegalStateException", Cond.methodLink RX11 135 yX11_needMic, Cond.instanceMethod yX11_needMic, Cond.selects RX11 yX11_needMic yX11_needMic, Cond.code yX11_needMic cX11_needMic 2 none, Cond.methodLink RX11 281 yX11_needIndex, Cond.static yX11_needIndex, Cond.code yX11_needIndex cX11_needIndex 2 none, Cond.methodLink RX11 138 yX11_needRange, Cond.static yX11_needRange, Cond.code yX11_needRange cX11_needRange 3 none, Cond.classLink RX11 416 "java/lang/IllegalArgumentException", Cond.code yX11_isMuted cX11_isMuted 2 (some .boolean), Cond.fieldLink RX11 160 "AcousticCamera$State" "muted" "[Z", Cond.code yX11_columns cX11_columns 1 (some .int), Cond.fieldLink RX11 163 "AcousticCamera$Grid" "columns" "I", Cond.code yX11_rows cX11_rows 1 (some .int), Cond.fieldLink RX11 166 "AcousticCamera$Grid" "rows" "I", Cond.code yX11_cellAt cX11_cellAt 3 (some .int), Cond.methodLink RX11 169 yX11_needCell, Cond.instanceMethod yX11_needCell, Cond.selects RX11 yX11_needCell yX11_needCell, Cond.code yX11_needCell cX11_needCell 2 none, Cond.methodLink RX11 172 yX1_centreX, Cond.methodLink RX11 176 yX1_centreY, Cond.code yX11_sources cX11_sources 1 (some .int), Cond.fieldLink RX11 179 "AcousticCamera$Scene" "sourceCount" "I", Cond.code yX11_sourceAt cX11_sourceAt 4 (some .int), Cond.fieldLink RX11 185 "AcousticCamera$Scene" "samples" "I", Cond.fieldLink RX11 188 "AcousticCamera$State" "x" "[I", Cond.fieldLink RX11 190 "AcousticCamera$State" "vx" "[I", Cond.fieldLink RX11 197 "AcousticCamera$State" "y" "[I", Cond.fieldLink RX11 199 "AcousticCamera$State" "vy" "[I", Cond.methodLink RX11 182 yX11_needSource, Cond.instanceMethod yX11_needSource, Cond.selects RX11 yX11_needSource yX11_needSource, Cond.code yX11_needSource cX11_needSource 2 none, Cond.methodLink RX11 193 yX11_moved, Cond.code yX11_isOn cX11_isOn 2 (some .boolean), Cond.fieldLink RX11 202 "AcousticCamera$State" "on" "[Z", Cond.code yX11_waveAt cX11_waveAt 3 (some .int), Cond.fieldLink RX11 205 "AcousticCamera$Scene" "sources" "[LAcousticCamera$Source;", Cond.methodLink RX11 209 yX7_valueAt, Cond.code yX11_samples cX11_samples 1 (some .int), Cond.code yX11_delay cX11_delay 3 (some .int), Cond.fieldLink RX11 214 "AcousticCamera$Scene" "delays" "[[I", Cond.code yX11_delayTo cX11_delayTo 4 (some .int), Cond.methodLink RX11 218 yX6_delayFrom, Cond.code yX11_spread cX11_spread 3 (some .int), Cond.methodLink RX11 222 yX8_greatestDelay, Cond.methodLink RX11 226 yX8_smallestDelay, Cond.instanceMethod yX8_smallestDelay, Cond.selects RX8 yX8_smallestDelay yX8_smallestDelay, Cond.code yX11_window cX11_window 2 (some .int), Cond.methodLink RX11 229 yX8_windowOf, Cond.code yX11_sample cX11_sample 3 (some .int), Cond.fieldLink RX11 232 "AcousticCamera$State" "samples" "LAcousticCamera$Wides;", Cond.methodLink RX11 234 yX8_placeOf, Cond.methodLink RX11 238 yX10_value, Cond.instanceMethod yX10_value, Cond.selects RX10 yX10_value yX10_value, Cond.code yX11_beam cX11_beam 3 (some .int), Cond.fieldLink RX11 246 "AcousticCamera$State" "beam" "LAcousticCamera$Wides;", Cond.methodLink RX11 242 yX8_focus, Cond.code yX11_power cX11_power 2 (some .long), Cond.fieldLink RX11 253 "AcousticCamera$PowerMap" "of" "LAcousticCamera$Wides;", Cond.methodLink RX11 249 yX11_powersNow]
def wsA_8 : List Cond := [Cond.instanceMethod yX11_powersNow, Cond.selects RX11 yX11_powersNow yX11_powersNow, Cond.code yX11_powersNow cX11_powersNow 1 (some (.object "AcousticCamera$PowerMap")), Cond.methodLink RX11 425 yX4_measure, Cond.instanceMethod yX4_measure, Cond.selects RX4 yX4_measure yX4_measure, Cond.code yX11_powerAt cX11_powerAt 3 (some .long), Cond.methodLink RX11 256 yX6_delaysFrom, Cond.methodLink RX11 260 yX8_powerOf, Cond.instanceMethod yX8_powerOf, Cond.selects RX8 yX8_powerOf yX8_powerOf, Cond.code yX11_best cX11_best 1 (some .int), Cond.fieldLink RX11 264 "AcousticCamera$PowerMap" "best" "I", Cond.code yX11_bestPower cX11_bestPower 2 (some .long), Cond.code yX11_meanPower cX11_meanPower 1 (some .long), Cond.fieldLink RX11 267 "AcousticCamera$Grid" "whole" "[I", Cond.methodLink RX11 270 yX4_sumIn, Cond.instanceMethod yX4_sumIn, Cond.selects RX4 yX4_sumIn yX4_sumIn, Cond.methodLink RX11 274 yX10_divide, Cond.code yX11_peaks cX11_peaks 1 (some .int), Cond.fieldLink RX11 278 "AcousticCamera$PowerMap" "peakCount" "I", Cond.code yX11_peakAt cX11_peakAt 3 (some .int), Cond.methodLink RX11 284 yX4_peakRanked, Cond.instanceMethod yX4_peakRanked, Cond.selects RX4 yX4_peakRanked yX4_peakRanked, Cond.code yX11_isPeak cX11_isPeak 2 (some .boolean), Cond.methodLink RX11 287 yX4_standsOut, Cond.code yX11_zonePower cX11_zonePower 2 (some .long), Cond.fieldLink RX11 291 "AcousticCamera$Grid" "zoneCount" "I", Cond.fieldLink RX11 294 "AcousticCamera$Grid" "zones" "[[I", Cond.code yX11_zoneBest cX11_zoneBest 2 (some .int), Cond.methodLink RX11 297 yX1_bestIn, Cond.code yX11_contrast cX11_contrast 3 (some .float), Cond.methodLink RX11 301 yX4_second, Cond.instanceMethod yX4_second, Cond.selects RX4 yX4_second yX4_second, Cond.methodLink RX11 304 yX10_ratio, Cond.instanceMethod yX10_ratio, Cond.selects RX10 yX10_ratio yX10_ratio, Cond.code yX11_alias cX11_alias 4 (some .int), Cond.methodLink RX11 308 yX11_confusion, Cond.instanceMethod yX11_confusion, Cond.selects RX11 yX11_confusion yX11_confusion, Cond.code yX11_confusion cX11_confusion 11 (some .int), Cond.methodLink RX11 323 Lib.Math.max.name, Cond.methodLink RX11 434 yX11_remainder, Cond.code yX11_isAlias cX11_isAlias 4 (some .boolean), Cond.methodLink RX11 311 yX11_marksAlias, Cond.instanceMethod yX11_marksAlias, Cond.selects RX11 yX11_marksAlias yX11_marksAlias, Cond.code yX11_marksAlias cX11_marksAlias 6 (some .boolean), Cond.methodLink RX11 431 yX8_activeMics, Cond.instanceMethod yX8_activeMics, Cond.selects RX8 yX8_activeMics yX8_activeMics, Cond.code yX11_aliases cX11_aliases 6 (some .int), Cond.code yX11_blockPower cX11_blockPower 4 (some .long), Cond.methodLink RX11 315 yX8_blockPowerOf, Cond.code yX11_blockBest cX11_blockBest 3 (some .int), Cond.methodLink RX11 319 yX0_bestOf, Cond.instanceMethod yX0_bestOf, Cond.selects RX0 yX0_bestOf yX0_bestOf, Cond.code yX11_path cX11_path 6 (some .int), Cond.code yX11_trackScore cX11_trackScore 2 (some .long), Cond.fieldLink RX11 332 "AcousticCamera$Blocks" "scores" "LAcousticCamera$Wides;", Cond.methodLink RX11 328 yX0_score, Cond.instanceMethod yX0_score, Cond.selects RX0 yX0_score yX0_score, Cond.methodLink RX11 335 yX0_trackCellIn, Cond.instanceMethod yX0_trackCellIn, Cond.selects RX0 yX0_trackCellIn yX0_trackCellIn, Cond.code yX11_trackCell cX11_trackCell 4 (some .int), Cond.methodLink RX11 339 yX11_quotient, Cond.code yX11_movingPower cX11_movingPower 4 (some .long), Cond.methodLink RX11 343 yX11_powerOnTheMove, Cond.instanceMethod yX11_powerOnTheMove, Cond.selects RX11 yX11_powerOnTheMove yX11_powerOnTheMove, Cond.code yX11_powerOnTheMove cX11_powerOnTheMove 8 none, Cond.methodLink RX11 437 yX10_clear, Cond.methodLink RX11 440 yX10_addProduct, Cond.code yX11_bestVelocity cX11_bestVelocity 7 (some .int), Cond.methodLink RX11 347 yX10_compare, Cond.methodLink RX11 350 yX10_set, Cond.code yX11_correlation cX11_correlation 4 (some .long), Cond.methodLink RX11 354 yX8_productSum, Cond.instanceMethod yX8_productSum, Cond.selects RX8 yX8_productSum yX8_productSum, Cond.code yX11_bestLag cX11_bestLag 6 (some .int), Cond.code yX11_level cX11_level 2 (some .long), Cond.methodLink RX11 358 yX11_measureLevel, Cond.instanceMethod yX11_measureLevel, Cond.selects RX11 yX11_measureLevel yX11_measureLevel, Cond.code yX11_measureLevel cX11_measureLevel 2 none, Cond.code yX11_loudest cX11_loudest 3 (some .int), Cond.methodLink RX11 361 yX10_ranked, Cond.code yX11_writeMap cX11_writeMap 3 (some .int), Cond.fieldLink RX11 364 "AcousticCamera" "mapLength" "I", Cond.methodLink RX11 367 yX1_columnOf, Cond.methodLink RX11 370 yX11_addMapByte, Cond.instanceMethod yX11_addMapByte]
def wsA_9 : List Cond := [Cond.selects RX11 yX11_addMapByte yX11_addMapByte, Cond.code yX11_addMapByte cX11_addMapByte 2 none, Cond.methodLink RX11 373 yX4_digit, Cond.instanceMethod yX4_digit, Cond.selects RX4 yX4_digit yX4_digit, Cond.code yX11_mapByte cX11_mapByte 2 (some .int), Cond.code yX11_pointBest cX11_pointBest 3 (some .int), Cond.methodLink RX11 377 yX11_recordPoint, Cond.instanceMethod yX11_recordPoint, Cond.selects RX11 yX11_recordPoint yX11_recordPoint, Cond.code yX11_recordPoint cX11_recordPoint 3 none, Cond.methodLink RX11 383 yX8_copyFrom, Cond.instanceMethod yX8_copyFrom, Cond.selects RX8 yX8_copyFrom yX8_copyFrom, Cond.methodLink RX11 428 yX5_recordPoint, Cond.instanceMethod yX5_recordPoint, Cond.selects RX5 yX5_recordPoint yX5_recordPoint, Cond.methodLink RX11 380 yX11_trialBest, Cond.instanceMethod yX11_trialBest, Cond.selects RX11 yX11_trialBest yX11_trialBest, Cond.code yX11_trialBest cX11_trialBest 1 (some .int), Cond.code yX11_pointPower cX11_pointPower 4 (some .long), Cond.code yX11_bestWithout cX11_bestWithout 2 (some .int), Cond.code yX11_bestIfOff cX11_bestIfOff 2 (some .int), Cond.code yX11_mute cX11_mute 4 (some .boolean), Cond.methodLink RX11 391 yX11_keepForUndo, Cond.instanceMethod yX11_keepForUndo, Cond.selects RX11 yX11_keepForUndo yX11_keepForUndo, Cond.code yX11_keepForUndo cX11_keepForUndo 1 none, Cond.fieldLink RX11 409 "AcousticCamera" "newest" "I", Cond.code yX11_setWeight cX11_setWeight 4 (some .int), Cond.code yX11_setOn cX11_setOn 4 (some .boolean), Cond.code yX11_moveSource cX11_moveSource 4 (some .int), Cond.code yX11_setVelocity cX11_setVelocity 4 (some .int), Cond.code yX11_clean cX11_clean 3 (some .int), Cond.methodLink RX11 394 yX8_activeWeight, Cond.methodLink RX11 400 yX8_subtractBeam, Cond.instanceMethod yX8_subtractBeam, Cond.selects RX8 yX8_subtractBeam yX8_subtractBeam, Cond.code yX11_cleaned cX11_cleaned 1 (some .int), Cond.fieldLink RX11 403 "AcousticCamera$State" "timesCleaned" "I", Cond.code yX11_undo cX11_undo 1 (some .int), Cond.code yX11_undoable cX11_undoable 1 (some .int), Cond.code yX11_save cX11_save 2 (some .int), Cond.code yX11_restore cX11_restore 2 (some .int), Cond.codeWith yL_load cL_load 4 (some .int) [(0, 9, 12, 13), (0, 9, 15, 15)], Cond.classLink RL 13 "java/lang/IndexOutOfBoundsException", Cond.classLink RL 15 "java/lang/IllegalArgumentException", Cond.methodLink RL 7 yX11_load, Cond.instanceMethod yX11_load, Cond.selects RX11 yX11_load yX11_load, Cond.codeWith yL_micAt cL_micAt 5 (some .int) [(0, 10, 13, 21), (0, 10, 17, 13), (0, 10, 21, 15)], Cond.classLink RL 21 "java/lang/IllegalStateException", Cond.methodLink RL 17 yX11_micAt, Cond.instanceMethod yX11_micAt, Cond.selects RX11 yX11_micAt yX11_micAt, Cond.codeWith yL_isMuted cL_isMuted 4 (some .int) [(0, 16, 19, 21), (0, 16, 22, 13)], Cond.methodLink RL 23 yX11_isMuted, Cond.instanceMethod yX11_isMuted, Cond.selects RX11 yX11_isMuted yX11_isMuted, Cond.codeWith yL_cellAt cL_cellAt 5 (some .int) [(0, 10, 13, 21), (0, 10, 17, 13), (0, 10, 21, 15)], Cond.methodLink RL 27 yX11_cellAt, Cond.instanceMethod yX11_cellAt, Cond.selects RX11 yX11_cellAt yX11_cellAt, Cond.codeWith yL_sourceAt cL_sourceAt 6 (some .int) [(0, 12, 15, 21), (0, 12, 19, 13), (0, 12, 23, 15)], Cond.methodLink RL 30 yX11_sourceAt, Cond.instanceMethod yX11_sourceAt, Cond.selects RX11 yX11_sourceAt yX11_sourceAt, Cond.codeWith yL_isOn cL_isOn 4 (some .int) [(0, 16, 19, 21), (0, 16, 22, 13)], Cond.methodLink RL 34 yX11_isOn, Cond.instanceMethod yX11_isOn, Cond.selects RX11 yX11_isOn yX11_isOn, Cond.codeWith yL_waveAt cL_waveAt 5 (some .int) [(0, 10, 13, 21), (0, 10, 17, 13), (0, 10, 21, 15)], Cond.methodLink RL 37 yX11_waveAt, Cond.instanceMethod yX11_waveAt, Cond.selects RX11 yX11_waveAt yX11_waveAt, Cond.codeWith yL_delay cL_delay 5 (some .int) [(0, 10, 13, 21), (0, 10, 17, 13)], Cond.methodLink RL 40 yX11_delay, Cond.instanceMethod yX11_delay, Cond.selects RX11 yX11_delay yX11_delay, Cond.codeWith yL_delayTo cL_delayTo 6 (some .int) [(0, 12, 15, 21), (0, 12, 19, 13), (0, 12, 23, 15)], Cond.methodLink RL 43 yX11_delayTo, Cond.instanceMethod yX11_delayTo, Cond.selects RX11 yX11_delayTo yX11_delayTo, Cond.codeWith yL_spread cL_spread 4 (some .int) [(0, 9, 12, 21), (0, 9, 15, 13)], Cond.methodLink RL 46 yX11_spread, Cond.instanceMethod yX11_spread, Cond.selects RX11 yX11_spread yX11_spread, Cond.codeWith yL_window cL_window 4 (some .int) [(0, 9, 12, 21), (0, 9, 15, 13)], Cond.methodLink RL 49 yX11_window, Cond.instanceMethod yX11_window, Cond.selects RX11 yX11_window yX11_window, Cond.codeWith yL_sample cL_sample 5 (some .int) [(0, 10, 13, 21), (0, 10, 17, 13), (0, 10, 21, 15)], Cond.methodLink RL 52 yX11_sample, Cond.instanceMethod yX11_sample, Cond.selects RX11 yX11_sample yX11_sample, Cond.codeWith yL_beam cL_beam 5 (some .int) [(0, 10, 13, 21), (0, 10, 17, 13), (0, 10, 21, 15)], Cond.methodLink RL 55 yX11_beam, Cond.instanceMethod yX11_beam, Cond.selects RX11 yX11_beam yX11_beam]
def wsA_10 : List Cond := [Cond.codeWith yL_power cL_power 4 (some .int) [(0, 8, 11, 21), (0, 8, 14, 13)], Cond.methodLink RL 58 yX11_power, Cond.instanceMethod yX11_power, Cond.selects RX11 yX11_power yX11_power, Cond.codeWith yL_powerAt cL_powerAt 5 (some .int) [(0, 9, 12, 21), (0, 9, 16, 15)], Cond.methodLink RL 62 yX11_powerAt, Cond.instanceMethod yX11_powerAt, Cond.selects RX11 yX11_powerAt yX11_powerAt, Cond.codeWith yL_best cL_best 3 (some .int) [(0, 8, 11, 21)], Cond.methodLink RL 66 yX11_best, Cond.instanceMethod yX11_best, Cond.selects RX11 yX11_best yX11_best, Cond.codeWith yL_bestPower cL_bestPower 3 (some .int) [(0, 7, 10, 21)], Cond.methodLink RL 70 yX11_bestPower, Cond.instanceMethod yX11_bestPower, Cond.selects RX11 yX11_bestPower yX11_bestPower, Cond.codeWith yL_meanPower cL_meanPower 3 (some .int) [(0, 7, 10, 21)], Cond.methodLink RL 74 yX11_meanPower, Cond.instanceMethod yX11_meanPower, Cond.selects RX11 yX11_meanPower yX11_meanPower, Cond.codeWith yL_peaks cL_peaks 3 (some .int) [(0, 8, 11, 21)], Cond.methodLink RL 77 yX11_peaks, Cond.instanceMethod yX11_peaks, Cond.selects RX11 yX11_peaks yX11_peaks, Cond.codeWith yL_peakAt cL_peakAt 4 (some .int) [(0, 9, 12, 21), (0, 9, 15, 13)], Cond.methodLink RL 80 yX11_peakAt, Cond.instanceMethod yX11_peakAt, Cond.selects RX11 yX11_peakAt yX11_peakAt, Cond.codeWith yL_isPeak cL_isPeak 4 (some .int) [(0, 16, 19, 21), (0, 16, 22, 13)], Cond.methodLink RL 83 yX11_isPeak, Cond.instanceMethod yX11_isPeak, Cond.selects RX11 yX11_isPeak yX11_isPeak, Cond.codeWith yL_zonePower cL_zonePower 4 (some .int) [(0, 8, 11, 21), (0, 8, 14, 13)], Cond.methodLink RL 86 yX11_zonePower, Cond.instanceMethod yX11_zonePower, Cond.selects RX11 yX11_zonePower yX11_zonePower, Cond.codeWith yL_zoneBest cL_zoneBest 4 (some .int) [(0, 9, 12, 21), (0, 9, 15, 13)], Cond.methodLink RL 89 yX11_zoneBest, Cond.instanceMethod yX11_zoneBest, Cond.selects RX11 yX11_zoneBest yX11_zoneBest, Cond.codeWith yL_contrast cL_contrast 3 (some .int) [(0, 8, 11, 21)], Cond.methodLink RL 92 yX11_contrast, Cond.instanceMethod yX11_contrast, Cond.selects RX11 yX11_contrast yX11_contrast, Cond.codeWith yL_alias cL_alias 6 (some .int) [(0, 12, 15, 21), (0, 12, 19, 13), (0, 12, 23, 15)], Cond.methodLink RL 96 yX11_alias, Cond.instanceMethod yX11_alias, Cond.selects RX11 yX11_alias yX11_alias, Cond.codeWith yL_isAlias cL_isAlias 6 (some .int) [(0, 19, 22, 21), (0, 19, 26, 13), (0, 19, 30, 15)], Cond.methodLink RL 99 yX11_isAlias, Cond.instanceMethod yX11_isAlias, Cond.selects RX11 yX11_isAlias yX11_isAlias, Cond.codeWith yL_aliases cL_aliases 5 (some .int) [(0, 10, 13, 21), (0, 10, 17, 15)], Cond.methodLink RL 103 yX11_aliases, Cond.instanceMethod yX11_aliases, Cond.selects RX11 yX11_aliases yX11_aliases, Cond.codeWith yL_blockPower cL_blockPower 6 (some .int) [(0, 11, 14, 21), (0, 11, 18, 13), (0, 11, 22, 15)], Cond.methodLink RL 106 yX11_blockPower, Cond.instanceMethod yX11_blockPower, Cond.selects RX11 yX11_blockPower yX11_blockPower, Cond.codeWith yL_blockBest cL_blockBest 5 (some .int) [(0, 10, 13, 21), (0, 10, 17, 15)], Cond.methodLink RL 110 yX11_blockBest, Cond.instanceMethod yX11_blockBest, Cond.selects RX11 yX11_blockBest yX11_blockBest, Cond.codeWith yL_path cL_path 4 (some .int) [(0, 9, 12, 21), (0, 9, 15, 15)], Cond.methodLink RL 113 yX11_path, Cond.instanceMethod yX11_path, Cond.selects RX11 yX11_path yX11_path, Cond.codeWith yL_trackScore cL_trackScore 4 (some .int) [(0, 8, 11, 21), (0, 8, 14, 15)], Cond.methodLink RL 116 yX11_trackScore, Cond.instanceMethod yX11_trackScore, Cond.selects RX11 yX11_trackScore yX11_trackScore, Cond.codeWith yL_trackCell cL_trackCell 5 (some .int) [(0, 10, 13, 21), (0, 10, 17, 13), (0, 10, 21, 15)], Cond.methodLink RL 119 yX11_trackCell, Cond.instanceMethod yX11_trackCell, Cond.selects RX11 yX11_trackCell yX11_trackCell, Cond.codeWith yL_movingPower cL_movingPower 6 (some .int) [(0, 11, 14, 21), (0, 11, 18, 13), (0, 11, 22, 15)], Cond.methodLink RL 122 yX11_movingPower, Cond.instanceMethod yX11_movingPower, Cond.selects RX11 yX11_movingPower yX11_movingPower, Cond.codeWith yL_bestVelocity cL_bestVelocity 6 (some .int) [(0, 12, 15, 21), (0, 12, 19, 13), (0, 12, 23, 15)], Cond.methodLink RL 125 yX11_bestVelocity, Cond.instanceMethod yX11_bestVelocity, Cond.selects RX11 yX11_bestVelocity yX11_bestVelocity, Cond.codeWith yL_correlation cL_correlation 6 (some .int) [(0, 11, 14, 21), (0, 11, 18, 13), (0, 11, 22, 15)], Cond.methodLink RL 128 yX11_correlation, Cond.instanceMethod yX11_correlation, Cond.selects RX11 yX11_correlation yX11_correlation, Cond.codeWith yL_bestLag cL_bestLag 6 (some .int) [(0, 12, 15, 21), (0, 12, 19, 13), (0, 12, 23, 15)], Cond.methodLink RL 131 yX11_bestLag, Cond.instanceMethod yX11_bestLag, Cond.selects RX11 yX11_bestLag yX11_bestLag, Cond.codeWith yL_level cL_level 4 (some .int) [(0, 8, 11, 21), (0, 8, 14, 13)], Cond.methodLink RL 134 yX11_level, Cond.instanceMethod yX11_level, Cond.selects RX11 yX11_level yX11_level, Cond.codeWith yL_loudest cL_loudest 4 (some .int) [(0, 9, 12, 21), (0, 9, 15, 13)], Cond.methodLink RL 137 yX11_loudest, Cond.instanceMethod yX11_loudest, Cond.selects RX11 yX11_loudest yX11_loudest]
def wsA_11 : List Cond := [Cond.codeWith yL_writeMap cL_writeMap 3 (some .int) [(0, 8, 11, 21)], Cond.methodLink RL 140 yX11_writeMap, Cond.instanceMethod yX11_writeMap, Cond.selects RX11 yX11_writeMap yX11_writeMap, Cond.codeWith yL_mapByte cL_mapByte 4 (some .int) [(0, 9, 12, 13)], Cond.methodLink RL 143 yX11_mapByte, Cond.instanceMethod yX11_mapByte, Cond.selects RX11 yX11_mapByte yX11_mapByte, Cond.codeWith yL_pointBest cL_pointBest 5 (some .int) [(0, 10, 13, 21), (0, 10, 17, 13), (0, 10, 21, 15)], Cond.methodLink RL 146 yX11_pointBest, Cond.instanceMethod yX11_pointBest, Cond.selects RX11 yX11_pointBest yX11_pointBest, Cond.codeWith yL_pointPower cL_pointPower 6 (some .int) [(0, 11, 14, 21), (0, 11, 18, 13), (0, 11, 22, 15)], Cond.methodLink RL 149 yX11_pointPower, Cond.instanceMethod yX11_pointPower, Cond.selects RX11 yX11_pointPower yX11_pointPower, Cond.codeWith yL_bestWithout cL_bestWithout 4 (some .int) [(0, 9, 12, 21), (0, 9, 15, 13)], Cond.methodLink RL 152 yX11_bestWithout, Cond.instanceMethod yX11_bestWithout, Cond.selects RX11 yX11_bestWithout yX11_bestWithout, Cond.codeWith yL_bestIfOff cL_bestIfOff 4 (some .int) [(0, 9, 12, 21), (0, 9, 15, 13)], Cond.methodLink RL 155 yX11_bestIfOff, Cond.instanceMethod yX11_bestIfOff, Cond.selects RX11 yX11_bestIfOff yX11_bestIfOff, Cond.codeWith yL_mute cL_mute 5 (some .int) [(0, 17, 20, 21), (0, 17, 24, 13)], Cond.methodLink RL 158 yX11_mute, Cond.instanceMethod yX11_mute, Cond.selects RX11 yX11_mute yX11_mute, Cond.codeWith yL_setWeight cL_setWeight 5 (some .int) [(0, 10, 13, 21), (0, 10, 17, 13), (0, 10, 21, 15)], Cond.methodLink RL 162 yX11_setWeight, Cond.instanceMethod yX11_setWeight, Cond.selects RX11 yX11_setWeight yX11_setWeight, Cond.codeWith yL_setOn cL_setOn 5 (some .int) [(0, 17, 20, 21), (0, 17, 24, 13)], Cond.methodLink RL 165 yX11_setOn, Cond.instanceMethod yX11_setOn, Cond.selects RX11 yX11_setOn yX11_setOn, Cond.codeWith yL_moveSource cL_moveSource 6 (some .int) [(0, 12, 15, 21), (0, 12, 19, 13), (0, 12, 23, 15)], Cond.methodLink RL 168 yX11_moveSource, Cond.instanceMethod yX11_moveSource, Cond.selects RX11 yX11_moveSource yX11_moveSource, Cond.codeWith yL_setVelocity cL_setVelocity 6 (some .int) [(0, 12, 15, 21), (0, 12, 19, 13), (0, 12, 23, 15)], Cond.methodLink RL 171 yX11_setVelocity, Cond.instanceMethod yX11_setVelocity, Cond.selects RX11 yX11_setVelocity yX11_setVelocity, Cond.codeWith yL_clean cL_clean 4 (some .int) [(0, 9, 12, 21), (0, 9, 15, 15)], Cond.methodLink RL 174 yX11_clean, Cond.instanceMethod yX11_clean, Cond.selects RX11 yX11_clean yX11_clean, Cond.codeWith yL_cleaned cL_cleaned 3 (some .int) [(0, 8, 11, 21)], Cond.methodLink RL 177 yX11_cleaned, Cond.instanceMethod yX11_cleaned, Cond.selects RX11 yX11_cleaned yX11_cleaned, Cond.codeWith yL_undo cL_undo 3 (some .int) [(0, 8, 11, 21)], Cond.methodLink RL 180 yX11_undo, Cond.instanceMethod yX11_undo, Cond.selects RX11 yX11_undo yX11_undo, Cond.codeWith yL_save cL_save 4 (some .int) [(0, 9, 12, 21), (0, 9, 15, 13)], Cond.methodLink RL 183 yX11_save, Cond.instanceMethod yX11_save, Cond.selects RX11 yX11_save yX11_save, Cond.codeWith yL_restore cL_restore 4 (some .int) [(0, 9, 12, 13), (0, 9, 15, 21)], Cond.methodLink RL 186 yX11_restore, Cond.instanceMethod yX11_restore, Cond.selects RX11 yX11_restore yX11_restore]
def xA_0 : List Cond := (vx_at0 RX3 286 "java/lang/IllegalArgumentException" ["java/lang/RuntimeException", "java/lang/Exception"]).filter goodWord
def xA_1 : List Cond := (vx_at0 RX11 105 "java/lang/IndexOutOfBoundsException" ["java/lang/RuntimeException", "java/lang/Exception"]).filter goodWord
def xA_2 : List Cond := (vx_at0 RX11 399 "java/lang/IllegalStateException" ["java/lang/RuntimeException", "java/lang/Exception"]).filter goodWord
def xA_3 : List Cond := (vx_at0 RX11 418 "java/lang/IllegalArgumentException" ["java/lang/RuntimeException", "java/lang/Exception"]).filter goodWord
def wsA : List Cond := wsA_0 ++ (wsA_1 ++ (wsA_2 ++ (wsA_3 ++ (wsA_4 ++ (wsA_5 ++ (wsA_6 ++ (wsA_7 ++ (wsA_8 ++ (wsA_9 ++ (wsA_10 ++ (wsA_11 ++ (wsX100 ++ (wsX00 ++ (wsX60 ++ (wsX10 ++ (wsX80 ++ (wsX30 ++ (wsX90 ++ (wsX20 ++ (wsX70 ++ (wsX40 ++ (wsX50 ++ (wsX110 ++ (xA_0 ++ (xA_1 ++ (xA_2 ++ (xA_3)))))))))))))))))))))))))))
theorem gA_0 : wsA_0.all goodWord = true := by decide +kernel
theorem gA_1 : wsA_1.all goodWord = true := by decide +kernel
theorem gA_2 : wsA_2.all goodWord = true := by decide +kernel
theorem gA_3 : wsA_3.all goodWord = true := by decide +kernel
theorem gA_4 : wsA_4.all goodWord = true := by decide +kernel
theorem gA_5 : wsA_5.all goodWord = true := by decide +kernel
theorem gA_6 : wsA_6.all goodWord = true := by decide +kernel
theorem gA_7 : wsA_7.all goodWord = true := by decide +kernel
theorem gA_8 : wsA_8.all goodWord = true := by decide +kernel
theorem gA_9 : wsA_9.all goodWord = true := by decide +kernel
theorem gA_10 : wsA_10.all goodWord = true := by decide +kernel
theorem gA_11 : wsA_11.all goodWord = true := by decide +kernel
theorem gA_12 : wsX100.all goodWord = true := by decide +kernel
theorem gA_13 : wsX00.all goodWord = true := by decide +kernel
theorem gA_14 : wsX60.all goodWord = true := by decide +kernel
theorem gA_15 : wsX10.all goodWord = true := by decide +kernel
theorem gA_16 : wsX80.all goodWord = true := by decide +kernel
theorem gA_17 : wsX30.all goodWord = true := by decide +kernel
theorem gA_18 : wsX90.all goodWord = true := by decide +kernel
theorem gA_19 : wsX20.all goodWord = true := by decide +kernel
theorem gA_20 : wsX70.all goodWord = true := by decide +kernel
theorem gA_21 : wsX40.all goodWord = true := by decide +kernel
theorem gA_22 : wsX50.all goodWord = true := by decide +kernel
theorem gA_23 : wsX110.all goodWord = true := by decide +kernel
theorem gA_24 : xA_0.all goodWord = true := by decide +kernel
theorem gA_25 : xA_1.all goodWord = true := by decide +kernel
theorem gA_26 : xA_2.all goodWord = true := by decide +kernel
theorem gA_27 : xA_3.all goodWord = true := by decide +kernel
theorem iA_0 {w : Cond} (h : w ∈ wsA_0) : w ∈ wsA := List.mem_append_left _ h
theorem iA_1 {w : Cond} (h : w ∈ wsA_1) : w ∈ wsA := List.mem_append_right _ (List.mem_append_left _ h)
theorem iA_2 {w : Cond} (h : w ∈ wsA_2) : w ∈ wsA := List.mem_append_right _ (List.mem_append_right _ (List.mem_append_left _ h))
theorem iA_3 {w : Cond} (h : w ∈ wsA_3) : w ∈ wsA := List.mem_append_right _ (List.mem_append_right _ (List.mem_append_right _ (List.mem_append_left _ h)))
theorem iA_4 {w : Cond} (h : w ∈ wsA_4) : w ∈ wsA := List.mem_append_right _ (List.mem_append_right _ (List.mem_append_right _ (List.mem_append_right _ (List.mem_append_left _ h))))
theorem iA_5 {w : Cond} (h : w ∈ wsA_5) : w ∈ wsA := List.mem_append_right _ (List.mem_append_right _ (List.mem_append_right _ (List.mem_append_right _ (List.mem_append_right _ (List.mem_append_left _ h)))))
theorem iA_6 {w : Cond} (h : w ∈ wsA_6) : w ∈ wsA := List.mem_append_right _ (List.mem_append_right _ (List.mem_append_right _ (List.mem_append_right _ (List.mem_append_right _ (List.mem_append_right _ (List.mem_append_left _ h))))))
theorem iA_7 {w : Cond} (h : w ∈ wsA_7) : w ∈ wsA := List.mem_append_right _ (List.mem_append_right _ (List.mem_append_right _ (List.mem_append_right _ (List.mem_append_right _ (List.mem_append_right _ (List.mem_append_right _ (List.mem_append_left _ h)))))))
theorem iA_8 {w : Cond} (h : w ∈ wsA_8) : w ∈ wsA := List.mem_append_right _ (List.mem_append_right _ (List.mem_append_right _ (List.mem_append_right _ (List.mem_append_right _ (List.mem_append_right _ (List.mem_append_right _ (List.mem_append_right _ (List.mem_append_left _ h))))))))
theorem iA_9 {w : Cond} (h : w ∈ wsA_9) : w ∈ wsA := List.mem_append_right _ (List.mem_append_right _ (List.mem_append_right _ (List.mem_append_right _ (List.mem_append_right _ (List.mem_append_right _ (List.mem_append_right _ (List.mem_append_right _ (List.mem_append_right _ (List.mem_append_left _ h)))))))))
theorem iA_10 {w : Cond} (h : w ∈ wsA_10) : w ∈ wsA := List.mem_append_right _ (List.mem_append_right _ (List.mem_append_right _ (List.mem_append_right _ (List.mem_append_right _ (List.mem_append_right _ (List.mem_append_right _ (List.mem_append_right _ (List.mem_append_right _ (List.mem_append_right _ (List.mem_append_left _ h))))))))))
theorem iA_11 {w : Cond} (h : w ∈ wsA_11) : w ∈ wsA := List.mem_append_right _ (List.mem_append_right _ (List.mem_append_right _ (List.mem_append_right _ (List.mem_append_right _ (List.mem_append_right _ (List.mem_append_right _ (List.mem_append_right _ (List.mem_append_right _ (List.mem_append_right _ (List.mem_append_right _ (List.mem_append_left _ h)))))))))))
theorem iA_12 {w : Cond} (h : w ∈ wsX100) : w ∈ wsA := List.mem_append_right _ (List.mem_append_right _ (List.mem_append_right _ (List.mem_append_right _ (List.mem_append_right _ (List.mem_append_right _ (List.mem_append_right _ (List.mem_append_right _ (List.mem_append_right _ (List.mem_append_right _ (List.mem_append_right _ (List.mem_append_right _ (List.mem_append_left _ h))))))))))))
theorem iA_13 {w : Cond} (h : w ∈ wsX00) : w ∈ wsA := List.mem_append_right _ (List.mem_append_right _ (List.mem_append_right _ (List.mem_append_right _ (List.mem_append_right _ (List.mem_append_right _ (List.mem_append_right _ (List.mem_append_right _ (List.mem_append_right _ (List.mem_append_right _ (List.mem_append_right _ (List.mem_append_right _ (List.mem_append_right _ (List.mem_append_left _ h)))))))))))))
theorem iA_14 {w : Cond} (h : w ∈ wsX60) : w ∈ wsA := List.mem_append_right _ (List.mem_append_right _ (List.mem_append_right _ (List.mem_append_right _ (List.mem_append_right _ (List.mem_append_right _ (List.mem_append_right _ (List.mem_append_right _ (List.mem_append_right _ (List.mem_append_right _ (List.mem_append_right _ (List.mem_append_right _ (List.mem_append_right _ (List.mem_append_right _ (List.mem_append_left _ h))))))))))))))
theorem iA_15 {w : Cond} (h : w ∈ wsX10) : w ∈ wsA := List.mem_append_right _ (List.mem_append_right _ (List.mem_append_right _ (List.mem_append_right _ (List.mem_append_right _ (List.mem_append_right _ (List.mem_append_right _ (List.mem_append_right _ (List.mem_append_right _ (List.mem_append_right _ (List.mem_append_right _ (List.mem_append_right _ (List.mem_append_right _ (List.mem_append_right _ (List.mem_append_right _ (List.mem_append_left _ h)))))))))))))))
theorem iA_16 {w : Cond} (h : w ∈ wsX80) : w ∈ wsA := List.mem_append_right _ (List.mem_append_right _ (List.mem_append_right _ (List.mem_append_right _ (List.mem_append_right _ (List.mem_append_right _ (List.mem_append_right _ (List.mem_append_right _ (List.mem_append_right _ (List.mem_append_right _ (List.mem_append_right _ (List.mem_append_right _ (List.mem_append_right _ (List.mem_append_right _ (List.mem_append_right _ (List.mem_append_right _ (List.mem_append_left _ h))))))))))))))))
theorem iA_17 {w : Cond} (h : w ∈ wsX30) : w ∈ wsA := List.mem_append_right _ (List.mem_append_right _ (List.mem_append_right _ (List.mem_append_right _ (List.mem_append_right _ (List.mem_append_right _ (List.mem_append_right _ (List.mem_append_right _ (List.mem_append_right _ (List.mem_append_right _ (List.mem_append_right _ (List.mem_append_right _ (List.mem_append_right _ (List.mem_append_right _ (List.mem_append_right _ (List.mem_append_right _ (List.mem_append_right _ (List.mem_append_left _ h)))))))))))))))))
theorem iA_18 {w : Cond} (h : w ∈ wsX90) : w ∈ wsA := List.mem_append_right _ (List.mem_append_right _ (List.mem_append_right _ (List.mem_append_right _ (List.mem_append_right _ (List.mem_append_right _ (List.mem_append_right _ (List.mem_append_right _ (List.mem_append_right _ (List.mem_append_right _ (List.mem_append_right _ (List.mem_append_right _ (List.mem_append_right _ (List.mem_append_right _ (List.mem_append_right _ (List.mem_append_right _ (List.mem_append_right _ (List.mem_append_right _ (List.mem_append_left _ h))))))))))))))))))
theorem iA_19 {w : Cond} (h : w ∈ wsX20) : w ∈ wsA := List.mem_append_right _ (List.mem_append_right _ (List.mem_append_right _ (List.mem_append_right _ (List.mem_append_right _ (List.mem_append_right _ (List.mem_append_right _ (List.mem_append_right _ (List.mem_append_right _ (List.mem_append_right _ (List.mem_append_right _ (List.mem_append_right _ (List.mem_append_right _ (List.mem_append_right _ (List.mem_append_right _ (List.mem_append_right _ (List.mem_append_right _ (List.mem_append_right _ (List.mem_append_right _ (List.mem_append_left _ h)))))))))))))))))))
theorem iA_20 {w : Cond} (h : w ∈ wsX70) : w ∈ wsA := List.mem_append_right _ (List.mem_append_right _ (List.mem_append_right _ (List.mem_append_right _ (List.mem_append_right _ (List.mem_append_right _ (List.mem_append_right _ (List.mem_append_right _ (List.mem_append_right _ (List.mem_append_right _ (List.mem_append_right _ (List.mem_append_right _ (List.mem_append_right _ (List.mem_append_right _ (List.mem_append_right _ (List.mem_append_right _ (List.mem_append_right _ (List.mem_append_right _ (List.mem_append_right _ (List.mem_append_right _ (List.mem_append_left _ h))))))))))))))))))))
theorem iA_21 {w : Cond} (h : w ∈ wsX40) : w ∈ wsA := List.mem_append_right _ (List.mem_append_right _ (List.mem_append_right _ (List.mem_append_right _ (List.mem_append_right _ (List.mem_append_right _ (List.mem_append_right _ (List.mem_append_right _ (List.mem_append_right _ (List.mem_append_right _ (List.mem_append_right _ (List.mem_append_right _ (List.mem_append_right _ (List.mem_append_right _ (List.mem_append_right _ (List.mem_append_right _ (List.mem_append_right _ (List.mem_append_right _ (List.mem_append_right _ (List.mem_append_right _ (List.mem_append_right _ (List.mem_append_left _ h)))))))))))))))))))))
theorem iA_22 {w : Cond} (h : w ∈ wsX50) : w ∈ wsA := List.mem_append_right _ (List.mem_append_right _ (List.mem_append_right _ (List.mem_append_right _ (List.mem_append_right _ (List.mem_append_right _ (List.mem_append_right _ (List.mem_append_right _ (List.mem_append_right _ (List.mem_append_right _ (List.mem_append_right _ (List.mem_append_right _ (List.mem_append_right _ (List.mem_append_right _ (List.mem_append_right _ (List.mem_append_right _ (List.mem_append_right _ (List.mem_append_right _ (List.mem_append_right _ (List.mem_append_right _ (List.mem_append_right _ (List.mem_append_right _ (List.mem_append_left _ h))))))))))))))))))))))
theorem iA_23 {w : Cond} (h : w ∈ wsX110) : w ∈ wsA := List.mem_append_right _ (List.mem_append_right _ (List.mem_append_right _ (List.mem_append_right _ (List.mem_append_right _ (List.mem_append_right _ (List.mem_append_right _ (List.mem_append_right _ (List.mem_append_right _ (List.mem_append_right _ (List.mem_append_right _ (List.mem_append_right _ (List.mem_append_right _ (List.mem_append_right _ (List.mem_append_right _ (List.mem_append_right _ (List.mem_append_right _ (List.mem_append_right _ (List.mem_append_right _ (List.mem_append_right _ (List.mem_append_right _ (List.mem_append_right _ (List.mem_append_right _ (List.mem_append_left _ h)))))))))))))))))))))))
theorem iA_24 {w : Cond} (h : w ∈ xA_0) : w ∈ wsA := List.mem_append_right _ (List.mem_append_right _ (List.mem_append_right _ (List.mem_append_right _ (List.mem_append_right _ (List.mem_append_right _ (List.mem_append_right _ (List.mem_append_right _ (List.mem_append_right _ (List.mem_append_right _ (List.mem_append_right _ (List.mem_append_right _ (List.mem_append_right _ (List.mem_append_right _ (List.mem_append_right _ (List.mem_append_right _ (List.mem_append_right _ (List.mem_append_right _ (List.mem_append_right _ (List.mem_append_right _ (List.mem_append_right _ (List.mem_append_right _ (List.mem_append_right _ (List.mem_append_right _ (List.mem_append_left _ h))))))))))))))))))))))))
theorem iA_25 {w : Cond} (h : w ∈ xA_1) : w ∈ wsA := List.mem_append_right _ (List.mem_append_right _ (List.mem_append_right _ (List.mem_append_right _ (List.mem_append_right _ (List.mem_append_right _ (List.mem_append_right _ (List.mem_append_right _ (List.mem_append_right _ (List.mem_append_right _ (List.mem_append_right _ (List.mem_append_right _ (List.mem_append_right _ (List.mem_append_right _ (List.mem_append_right _ (List.mem_append_right _ (List.mem_append_right _ (List.mem_append_right _ (List.mem_append_right _ (List.mem_append_right _ (List.mem_append_right _ (List.mem_append_right _ (List.mem_append_right _ (List.mem_append_right _ (List.mem_append_right _ (List.mem_append_left _ h)))))))))))))))))))))))))
theorem iA_26 {w : Cond} (h : w ∈ xA_2) : w ∈ wsA := List.mem_append_right _ (List.mem_append_right _ (List.mem_append_right _ (List.mem_append_right _ (List.mem_append_right _ (List.mem_append_right _ (List.mem_append_right _ (List.mem_append_right _ (List.mem_append_right _ (List.mem_append_right _ (List.mem_append_right _ (List.mem_append_right _ (List.mem_append_right _ (List.mem_append_right _ (List.mem_append_right _ (List.mem_append_right _ (List.mem_append_right _ (List.mem_append_right _ (List.mem_append_right _ (List.mem_append_right _ (List.mem_append_right _ (List.mem_append_right _ (List.mem_append_right _ (List.mem_append_right _ (List.mem_append_right _ (List.mem_append_right _ (List.mem_append_left _ h))))))))))))))))))))))))))
theorem iA_27 {w : Cond} (h : w ∈ xA_3) : w ∈ wsA := List.mem_append_right _ (List.mem_append_right _ (List.mem_append_right _ (List.mem_append_right _ (List.mem_append_right _ (List.mem_append_right _ (List.mem_append_right _ (List.mem_append_right _ (List.mem_append_right _ (List.mem_append_right _ (List.mem_append_right _ (List.mem_append_right _ (List.mem_append_right _ (List.mem_append_right _ (List.mem_append_right _ (List.mem_append_right _ (List.mem_append_right _ (List.mem_append_right _ (List.mem_append_right _ (List.mem_append_right _ (List.mem_append_right _ (List.mem_append_right _ (List.mem_append_right _ (List.mem_append_right _ (List.mem_append_right _ (List.mem_append_right _ (List.mem_append_right _ (h)))))))))))))))))))))))))))
theorem gA : ∀ w ∈ wsA, goodWord w = true := fun w h => (List.mem_append.mp h).elim (fun h => List.all_eq_true.mp gA_0 w h) (fun h => (List.mem_append.mp h).elim (fun h => List.all_eq_true.mp gA_1 w h) (fun h => (List.mem_append.mp h).elim (fun h => List.all_eq_true.mp gA_2 w h) (fun h => (List.mem_append.mp h).elim (fun h => List.all_eq_true.mp gA_3 w h) (fun h => (List.mem_append.mp h).elim (fun h => List.all_eq_true.mp gA_4 w h) (fun h => (List.mem_append.mp h).elim (fun h => List.all_eq_true.mp gA_5 w h) (fun h => (List.mem_append.mp h).elim (fun h => List.all_eq_true.mp gA_6 w h) (fun h => (List.mem_append.mp h).elim (fun h => List.all_eq_true.mp gA_7 w h) (fun h => (List.mem_append.mp h).elim (fun h => List.all_eq_true.mp gA_8 w h) (fun h => (List.mem_append.mp h).elim (fun h => List.all_eq_true.mp gA_9 w h) (fun h => (List.mem_append.mp h).elim (fun h => List.all_eq_true.mp gA_10 w h) (fun h => (List.mem_append.mp h).elim (fun h => List.all_eq_true.mp gA_11 w h) (fun h => (List.mem_append.mp h).elim (fun h => List.all_eq_true.mp gA_12 w h) (fun h => (List.mem_append.mp h).elim (fun h => List.all_eq_true.mp gA_13 w h) (fun h => (List.mem_append.mp h).elim (fun h => List.all_eq_true.mp gA_14 w h) (fun h => (List.mem_append.mp h).elim (fun h => List.all_eq_true.mp gA_15 w h) (fun h => (List.mem_append.mp h).elim (fun h => List.all_eq_true.mp gA_16 w h) (fun h => (List.mem_append.mp h).elim (fun h => List.all_eq_true.mp gA_17 w h) (fun h => (List.mem_append.mp h).elim (fun h => List.all_eq_true.mp gA_18 w h) (fun h => (List.mem_append.mp h).elim (fun h => List.all_eq_true.mp gA_19 w h) (fun h => (List.mem_append.mp h).elim (fun h => List.all_eq_true.mp gA_20 w h) (fun h => (List.mem_append.mp h).elim (fun h => List.all_eq_true.mp gA_21 w h) (fun h => (List.mem_append.mp h).elim (fun h => List.all_eq_true.mp gA_22 w h) (fun h => (List.mem_append.mp h).elim (fun h => List.all_eq_true.mp gA_23 w h) (fun h => (List.mem_append.mp h).elim (fun h => List.all_eq_true.mp gA_24 w h) (fun h => (List.mem_append.mp h).elim (fun h => List.all_eq_true.mp gA_25 w h) (fun h => (List.mem_append.mp h).elim (fun h => List.all_eq_true.mp gA_26 w h) (fun h => List.all_eq_true.mp gA_27 w h)))))))))))))))))))))))))))
theorem qA_0 : Cond.code yX0_init cX0_init 1 none ∈ wsA := iA_0 (List.mem_of_getElem? (i := 0) rfl)
theorem qA_1 : Cond.methodLink RX0 3 objectInit ∈ wsA := iA_0 (List.mem_of_getElem? (i := 1) rfl)
theorem qA_2 : Cond.instanceMethod objectInit ∈ wsA := iA_0 (List.mem_of_getElem? (i := 2) rfl)
theorem qA_3 : Cond.code objectInit ⟨#[0xb1]⟩ 1 none ∈ wsA := iA_0 (List.mem_of_getElem? (i := 3) rfl)
theorem qA_4 : Cond.classLink RX0 9 RX10 ∈ wsA := iA_0 (List.mem_of_getElem? (i := 4) rfl)
theorem qA_5 : Cond.instantiable RX10 3 ∈ wsA := iA_0 (List.mem_of_getElem? (i := 5) rfl)
theorem qA_6 : Cond.initialized RX10 ∈ wsA := iA_0 (List.mem_of_getElem? (i := 6) rfl)
theorem qA_7 : Cond.fieldLink RX0 14 "AcousticCamera$Blocks" "scores" "LAcousticCamera$Wides;" ∈ wsA := iA_0 (List.mem_of_getElem? (i := 7) rfl)
theorem qA_8 : Cond.methodLink RX0 11 yX10_init ∈ wsA := iA_0 (List.mem_of_getElem? (i := 8) rfl)
theorem qA_9 : Cond.instanceMethod yX10_init ∈ wsA := iA_0 (List.mem_of_getElem? (i := 9) rfl)
theorem qA_10 : Cond.code yX10_init cX10_init 2 none ∈ wsA := iA_0 (List.mem_of_getElem? (i := 10) rfl)
theorem qA_11 : Cond.methodLink RX10 3 objectInit ∈ wsA := iA_0 (List.mem_of_getElem? (i := 11) rfl)
theorem qA_12 : Cond.classLink RX10 9 "[[J" ∈ wsA := iA_0 (List.mem_of_getElem? (i := 12) rfl)
theorem qA_13 : Cond.arrayClass .long ∈ wsA := iA_0 (List.mem_of_getElem? (i := 13) rfl)
theorem qA_14 : Cond.fieldLink RX10 11 "AcousticCamera$Wides" "rows" "[[J" ∈ wsA := iA_0 (List.mem_of_getElem? (i := 14) rfl)
theorem qA_15 : Cond.fieldLink RX10 16 "AcousticCamera$Wides" "used" "I" ∈ wsA := iA_0 (List.mem_of_getElem? (i := 15) rfl)
theorem qA_16 : Cond.methodLink RX10 20 Lib.Math.max.name ∈ wsA := iA_0 (List.mem_of_getElem? (i := 16) rfl)
theorem qA_17 : Cond.static Lib.Math.max.name ∈ wsA := iA_0 (List.mem_of_getElem? (i := 17) rfl)
theorem qA_18 : Cond.initialized "java/lang/Math" ∈ wsA := iA_0 (List.mem_of_getElem? (i := 18) rfl)
theorem qA_19 : Cond.code Lib.Math.max.name Lib.Math.max.code 2 (some .int) ∈ wsA := iA_0 (List.mem_of_getElem? (i := 19) rfl)
theorem qA_20 : Cond.fieldLink RX10 26 "AcousticCamera$Wides" "count" "I" ∈ wsA := iA_0 (List.mem_of_getElem? (i := 20) rfl)
theorem qA_21 : Cond.code yX0_bestOf cX0_bestOf 5 (some .int) ∈ wsA := iA_0 (List.mem_of_getElem? (i := 21) rfl)
theorem qA_22 : Cond.fieldLink RX0 27 "AcousticCamera$Scene" "grid" "LAcousticCamera$Grid;" ∈ wsA := iA_0 (List.mem_of_getElem? (i := 22) rfl)
theorem qA_23 : Cond.fieldLink RX0 33 "AcousticCamera$Grid" "whole" "[I" ∈ wsA := iA_0 (List.mem_of_getElem? (i := 23) rfl)
theorem qA_24 : Cond.methodLink RX0 20 yX10_narrow ∈ wsA := iA_0 (List.mem_of_getElem? (i := 24) rfl)
theorem qA_25 : Cond.instanceMethod yX10_narrow ∈ wsA := iA_0 (List.mem_of_getElem? (i := 25) rfl)
theorem qA_26 : Cond.selects RX10 yX10_narrow yX10_narrow ∈ wsA := iA_0 (List.mem_of_getElem? (i := 26) rfl)
theorem qA_27 : Cond.code yX10_narrow cX10_narrow 1 none ∈ wsA := iA_0 (List.mem_of_getElem? (i := 27) rfl)
theorem qA_28 : Cond.methodLink RX0 23 yX0_measure ∈ wsA := iA_0 (List.mem_of_getElem? (i := 28) rfl)
theorem qA_29 : Cond.instanceMethod yX0_measure ∈ wsA := iA_0 (List.mem_of_getElem? (i := 29) rfl)
theorem qA_30 : Cond.selects RX0 yX0_measure yX0_measure ∈ wsA := iA_0 (List.mem_of_getElem? (i := 30) rfl)
theorem qA_31 : Cond.initialized RX0 ∈ wsA := iA_0 (List.mem_of_getElem? (i := 31) rfl)
theorem qA_32 : Cond.code yX0_measure cX0_measure 7 none ∈ wsA := iA_0 (List.mem_of_getElem? (i := 32) rfl)
theorem qA_33 : Cond.fieldLink RX0 73 "AcousticCamera$Scene" "delays" "[[I" ∈ wsA := iA_0 (List.mem_of_getElem? (i := 33) rfl)
theorem qA_34 : Cond.methodLink RX0 57 yX1_cells ∈ wsA := iA_0 (List.mem_of_getElem? (i := 34) rfl)
theorem qA_35 : Cond.instanceMethod yX1_cells ∈ wsA := iA_0 (List.mem_of_getElem? (i := 35) rfl)
theorem qA_36 : Cond.selects RX1 yX1_cells yX1_cells ∈ wsA := iA_0 (List.mem_of_getElem? (i := 36) rfl)
theorem qA_37 : Cond.initialized RX1 ∈ wsA := iA_0 (List.mem_of_getElem? (i := 37) rfl)
theorem qA_38 : Cond.code yX1_cells cX1_cells 1 (some .int) ∈ wsA := iA_0 (List.mem_of_getElem? (i := 38) rfl)
theorem qA_39 : Cond.fieldLink RX1 23 "AcousticCamera$Grid" "columns" "I" ∈ wsA := iA_0 (List.mem_of_getElem? (i := 39) rfl)
theorem qA_40 : Cond.fieldLink RX1 27 "AcousticCamera$Grid" "rows" "I" ∈ wsA := iA_0 (List.mem_of_getElem? (i := 40) rfl)
theorem qA_41 : Cond.methodLink RX0 61 yX0_rowStart ∈ wsA := iA_0 (List.mem_of_getElem? (i := 41) rfl)
theorem qA_42 : Cond.static yX0_rowStart ∈ wsA := iA_0 (List.mem_of_getElem? (i := 42) rfl)
theorem qA_43 : Cond.code yX0_rowStart cX0_rowStart 1 (some .int) ∈ wsA := iA_0 (List.mem_of_getElem? (i := 43) rfl)
theorem qA_44 : Cond.methodLink RX0 77 yX8_blockPowerOf ∈ wsA := iA_0 (List.mem_of_getElem? (i := 44) rfl)
theorem qA_45 : Cond.instanceMethod yX8_blockPowerOf ∈ wsA := iA_0 (List.mem_of_getElem? (i := 45) rfl)
theorem qA_46 : Cond.selects RX8 yX8_blockPowerOf yX8_blockPowerOf ∈ wsA := iA_0 (List.mem_of_getElem? (i := 46) rfl)
theorem qA_47 : Cond.initialized RX8 ∈ wsA := iA_0 (List.mem_of_getElem? (i := 47) rfl)
theorem qA_48 : Cond.code yX8_blockPowerOf cX8_blockPowerOf 8 none ∈ wsA := iA_0 (List.mem_of_getElem? (i := 48) rfl)
theorem qA_49 : Cond.methodLink RX8 99 Lib.Math.min.name ∈ wsA := iA_0 (List.mem_of_getElem? (i := 49) rfl)
theorem qA_50 : Cond.static Lib.Math.min.name ∈ wsA := iA_0 (List.mem_of_getElem? (i := 50) rfl)
theorem qA_51 : Cond.code Lib.Math.min.name Lib.Math.min.code 2 (some .int) ∈ wsA := iA_0 (List.mem_of_getElem? (i := 51) rfl)
theorem qA_52 : Cond.fieldLink RX8 43 "AcousticCamera$State" "beam" "LAcousticCamera$Wides;" ∈ wsA := iA_0 (List.mem_of_getElem? (i := 52) rfl)
theorem qA_53 : Cond.methodLink RX8 125 yX8_windowOf ∈ wsA := iA_0 (List.mem_of_getElem? (i := 53) rfl)
theorem qA_54 : Cond.instanceMethod yX8_windowOf ∈ wsA := iA_0 (List.mem_of_getElem? (i := 54) rfl)
theorem qA_55 : Cond.selects RX8 yX8_windowOf yX8_windowOf ∈ wsA := iA_0 (List.mem_of_getElem? (i := 55) rfl)
theorem qA_56 : Cond.code yX8_windowOf cX8_windowOf 2 (some .int) ∈ wsA := iA_0 (List.mem_of_getElem? (i := 56) rfl)
theorem qA_57 : Cond.fieldLink RX8 55 "AcousticCamera$State" "sampleCount" "I" ∈ wsA := iA_0 (List.mem_of_getElem? (i := 57) rfl)
theorem qA_58 : Cond.methodLink RX8 89 Lib.Math.max.name ∈ wsA := iA_0 (List.mem_of_getElem? (i := 58) rfl)
theorem qA_59 : Cond.methodLink RX8 95 yX8_greatestDelay ∈ wsA := iA_0 (List.mem_of_getElem? (i := 59) rfl)
theorem qA_60 : Cond.instanceMethod yX8_greatestDelay ∈ wsA := iA_0 (List.mem_of_getElem? (i := 60) rfl)
theorem qA_61 : Cond.selects RX8 yX8_greatestDelay yX8_greatestDelay ∈ wsA := iA_0 (List.mem_of_getElem? (i := 61) rfl)
theorem qA_62 : Cond.code yX8_greatestDelay cX8_greatestDelay 4 (some .int) ∈ wsA := iA_0 (List.mem_of_getElem? (i := 62) rfl)
theorem qA_63 : Cond.fieldLink RX8 52 "AcousticCamera$State" "micCount" "I" ∈ wsA := iA_0 (List.mem_of_getElem? (i := 63) rfl)
theorem qA_64 : Cond.fieldLink RX8 9 "AcousticCamera$State" "muted" "[Z" ∈ wsA := iA_0 (List.mem_of_getElem? (i := 64) rfl)
theorem qA_65 : Cond.methodLink RX8 132 yX10_clear ∈ wsA := iA_0 (List.mem_of_getElem? (i := 65) rfl)
theorem qA_66 : Cond.instanceMethod yX10_clear ∈ wsA := iA_0 (List.mem_of_getElem? (i := 66) rfl)
theorem qA_67 : Cond.selects RX10 yX10_clear yX10_clear ∈ wsA := iA_0 (List.mem_of_getElem? (i := 67) rfl)
theorem qA_68 : Cond.code yX10_clear cX10_clear 3 none ∈ wsA := iA_0 (List.mem_of_getElem? (i := 68) rfl)
theorem qA_69 : Cond.methodLink RX8 135 yX8_focus ∈ wsA := iA_0 (List.mem_of_getElem? (i := 69) rfl)
theorem qA_70 : Cond.instanceMethod yX8_focus ∈ wsA := iA_0 (List.mem_of_getElem? (i := 70) rfl)
theorem qA_71 : Cond.selects RX8 yX8_focus yX8_focus ∈ wsA := iA_0 (List.mem_of_getElem? (i := 71) rfl)
theorem qA_72 : Cond.code yX8_focus cX8_focus 4 none ∈ wsA := iA_0 (List.mem_of_getElem? (i := 72) rfl)
theorem qA_73 : Cond.fieldLink RX8 39 "AcousticCamera$State" "samples" "LAcousticCamera$Wides;" ∈ wsA := iA_0 (List.mem_of_getElem? (i := 73) rfl)
theorem qA_74 : Cond.fieldLink RX8 105 "AcousticCamera$Wides" "used" "I" ∈ wsA := iA_0 (List.mem_of_getElem? (i := 74) rfl)
theorem qA_75 : Cond.fieldLink RX8 111 "AcousticCamera$Wides" "rows" "[[J" ∈ wsA := iA_0 (List.mem_of_getElem? (i := 75) rfl)
theorem qA_76 : Cond.methodLink RX8 102 yX10_narrow ∈ wsA := iA_0 (List.mem_of_getElem? (i := 76) rfl)
theorem qA_77 : Cond.methodLink RX8 108 yX10_widenTo ∈ wsA := iA_0 (List.mem_of_getElem? (i := 77) rfl)
theorem qA_78 : Cond.instanceMethod yX10_widenTo ∈ wsA := iA_0 (List.mem_of_getElem? (i := 78) rfl)
theorem qA_79 : Cond.selects RX10 yX10_widenTo yX10_widenTo ∈ wsA := iA_0 (List.mem_of_getElem? (i := 79) rfl)
theorem qA_80 : Cond.code yX10_widenTo cX10_widenTo 6 none ∈ wsA := iA_0 (List.mem_of_getElem? (i := 80) rfl)
theorem qA_81 : Cond.constantLong RX10 59 (268435455) ∈ wsA := iA_0 (List.mem_of_getElem? (i := 81) rfl)
theorem qA_82 : Cond.methodLink RX8 115 yX8_weighted ∈ wsA := iA_0 (List.mem_of_getElem? (i := 82) rfl)
theorem qA_83 : Cond.instanceMethod yX8_weighted ∈ wsA := iA_0 (List.mem_of_getElem? (i := 83) rfl)
theorem qA_84 : Cond.selects RX8 yX8_weighted yX8_weighted ∈ wsA := iA_0 (List.mem_of_getElem? (i := 84) rfl)
theorem qA_85 : Cond.code yX8_weighted cX8_weighted 8 (some .long) ∈ wsA := iA_0 (List.mem_of_getElem? (i := 85) rfl)
theorem qA_86 : Cond.fieldLink RX8 15 "AcousticCamera$State" "weights" "[I" ∈ wsA := iA_0 (List.mem_of_getElem? (i := 86) rfl)
theorem qA_87 : Cond.methodLink RX8 122 yX8_placeOf ∈ wsA := iA_0 (List.mem_of_getElem? (i := 87) rfl)
theorem qA_88 : Cond.static yX8_placeOf ∈ wsA := iA_0 (List.mem_of_getElem? (i := 88) rfl)
theorem qA_89 : Cond.code yX8_placeOf cX8_placeOf 2 (some .int) ∈ wsA := iA_0 (List.mem_of_getElem? (i := 89) rfl)
theorem qA_90 : Cond.methodLink RX8 119 yX10_settle ∈ wsA := iA_0 (List.mem_of_getElem? (i := 90) rfl)
theorem qA_91 : Cond.instanceMethod yX10_settle ∈ wsA := iA_0 (List.mem_of_getElem? (i := 91) rfl)
theorem qA_92 : Cond.selects RX10 yX10_settle yX10_settle ∈ wsA := iA_0 (List.mem_of_getElem? (i := 92) rfl)
theorem qA_93 : Cond.code yX10_settle cX10_settle 5 none ∈ wsA := iA_0 (List.mem_of_getElem? (i := 93) rfl)
theorem qA_94 : Cond.methodLink RX10 61 yX10_isBeyondPart ∈ wsA := iA_0 (List.mem_of_getElem? (i := 94) rfl)
theorem qA_95 : Cond.static yX10_isBeyondPart ∈ wsA := iA_0 (List.mem_of_getElem? (i := 95) rfl)
theorem qA_96 : Cond.code yX10_isBeyondPart cX10_isBeyondPart 4 (some .boolean) ∈ wsA := iA_0 (List.mem_of_getElem? (i := 96) rfl)
theorem qA_97 : Cond.constantLong RX10 65 (-1) ∈ wsA := iA_0 (List.mem_of_getElem? (i := 97) rfl)
theorem qA_98 : Cond.methodLink RX10 40 yX10_widenTo ∈ wsA := iA_0 (List.mem_of_getElem? (i := 98) rfl)
theorem qA_99 : Cond.methodLink RX8 139 yX10_addProduct ∈ wsA := iA_0 (List.mem_of_getElem? (i := 99) rfl)
theorem qA_100 : Cond.instanceMethod yX10_addProduct ∈ wsA := iA_1 (List.mem_of_getElem? (i := 0) rfl)
theorem qA_101 : Cond.selects RX10 yX10_addProduct yX10_addProduct ∈ wsA := iA_1 (List.mem_of_getElem? (i := 1) rfl)
theorem qA_102 : Cond.code yX10_addProduct cX10_addProduct 10 none ∈ wsA := iA_1 (List.mem_of_getElem? (i := 2) rfl)
theorem qA_103 : Cond.methodLink RX10 33 yX10_settle ∈ wsA := iA_1 (List.mem_of_getElem? (i := 3) rfl)
theorem qA_104 : Cond.methodLink RX8 143 yX10_divide ∈ wsA := iA_1 (List.mem_of_getElem? (i := 4) rfl)
theorem qA_105 : Cond.instanceMethod yX10_divide ∈ wsA := iA_1 (List.mem_of_getElem? (i := 5) rfl)
theorem qA_106 : Cond.selects RX10 yX10_divide yX10_divide ∈ wsA := iA_1 (List.mem_of_getElem? (i := 6) rfl)
theorem qA_107 : Cond.code yX10_divide cX10_divide 9 none ∈ wsA := iA_1 (List.mem_of_getElem? (i := 7) rfl)
theorem qA_108 : Cond.methodLink RX10 52 yJ9_floorDiv_f86c9 ∈ wsA := iA_1 (List.mem_of_getElem? (i := 8) rfl)
theorem qA_109 : Cond.static yJ9_floorDiv_f86c9 ∈ wsA := iA_1 (List.mem_of_getElem? (i := 9) rfl)
theorem qA_111 : Cond.code yJ9_floorDiv_f86c9 cJ9_floorDiv_f86c9 6 (some .long) ∈ wsA := iA_1 (List.mem_of_getElem? (i := 11) rfl)
theorem qA_112 : Cond.methodLink RX10 56 yJ9_floorMod_f86c9 ∈ wsA := iA_1 (List.mem_of_getElem? (i := 12) rfl)
theorem qA_113 : Cond.static yJ9_floorMod_f86c9 ∈ wsA := iA_1 (List.mem_of_getElem? (i := 13) rfl)
theorem qA_114 : Cond.code yJ9_floorMod_f86c9 cJ9_floorMod_f86c9 6 (some .long) ∈ wsA := iA_1 (List.mem_of_getElem? (i := 14) rfl)
theorem qA_115 : Cond.methodLink RX0 39 yX1_bestIn ∈ wsA := iA_1 (List.mem_of_getElem? (i := 15) rfl)
theorem qA_116 : Cond.instanceMethod yX1_bestIn ∈ wsA := iA_1 (List.mem_of_getElem? (i := 16) rfl)
theorem qA_117 : Cond.selects RX1 yX1_bestIn yX1_bestIn ∈ wsA := iA_1 (List.mem_of_getElem? (i := 17) rfl)
theorem qA_118 : Cond.code yX1_bestIn cX1_bestIn 8 (some .int) ∈ wsA := iA_1 (List.mem_of_getElem? (i := 18) rfl)
theorem qA_119 : Cond.methodLink RX1 65 yX10_compare ∈ wsA := iA_1 (List.mem_of_getElem? (i := 19) rfl)
theorem qA_120 : Cond.instanceMethod yX10_compare ∈ wsA := iA_1 (List.mem_of_getElem? (i := 20) rfl)
theorem qA_121 : Cond.selects RX10 yX10_compare yX10_compare ∈ wsA := iA_1 (List.mem_of_getElem? (i := 21) rfl)
theorem qA_122 : Cond.code yX10_compare cX10_compare 5 (some .int) ∈ wsA := iA_1 (List.mem_of_getElem? (i := 22) rfl)
theorem qA_123 : Cond.methodLink RX10 67 yJ13_compare_74951 ∈ wsA := iA_1 (List.mem_of_getElem? (i := 23) rfl)
theorem qA_124 : Cond.static yJ13_compare_74951 ∈ wsA := iA_1 (List.mem_of_getElem? (i := 24) rfl)
theorem qA_125 : Cond.initialized RJ13 ∈ wsA := iA_1 (List.mem_of_getElem? (i := 25) rfl)
theorem qA_126 : Cond.code yJ13_compare_74951 cJ13_compare_74951 4 (some .int) ∈ wsA := iA_1 (List.mem_of_getElem? (i := 26) rfl)
theorem qA_127 : Cond.code yX0_score cX0_score 9 none ∈ wsA := iA_1 (List.mem_of_getElem? (i := 27) rfl)
theorem qA_128 : Cond.fieldLink RX0 43 "AcousticCamera$Scene" "samples" "I" ∈ wsA := iA_1 (List.mem_of_getElem? (i := 28) rfl)
theorem qA_129 : Cond.methodLink RX0 51 Lib.Math.min.name ∈ wsA := iA_1 (List.mem_of_getElem? (i := 29) rfl)
theorem qA_130 : Cond.static yX11_quotient ∈ wsA := iA_1 (List.mem_of_getElem? (i := 30) rfl)
theorem qA_131 : Cond.initialized RX11 ∈ wsA := iA_1 (List.mem_of_getElem? (i := 31) rfl)
theorem qA_132 : Cond.code yX11_quotient cX11_quotient 4 (some .long) ∈ wsA := iA_1 (List.mem_of_getElem? (i := 32) rfl)
theorem qA_133 : Cond.methodLink RX0 65 yX1_areaAround ∈ wsA := iA_1 (List.mem_of_getElem? (i := 33) rfl)
theorem qA_134 : Cond.instanceMethod yX1_areaAround ∈ wsA := iA_1 (List.mem_of_getElem? (i := 34) rfl)
theorem qA_135 : Cond.selects RX1 yX1_areaAround yX1_areaAround ∈ wsA := iA_1 (List.mem_of_getElem? (i := 35) rfl)
theorem qA_136 : Cond.code yX1_areaAround cX1_areaAround 4 (some (.array .int)) ∈ wsA := iA_1 (List.mem_of_getElem? (i := 36) rfl)
theorem qA_137 : Cond.fieldLink RX1 20 "AcousticCamera$Grid" "around" "[I" ∈ wsA := iA_1 (List.mem_of_getElem? (i := 37) rfl)
theorem qA_138 : Cond.methodLink RX1 57 Lib.Math.max.name ∈ wsA := iA_1 (List.mem_of_getElem? (i := 38) rfl)
theorem qA_139 : Cond.methodLink RX1 62 Lib.Math.min.name ∈ wsA := iA_1 (List.mem_of_getElem? (i := 39) rfl)
theorem qA_140 : Cond.methodLink RX1 47 yX1_columnOf ∈ wsA := iA_1 (List.mem_of_getElem? (i := 40) rfl)
theorem qA_141 : Cond.instanceMethod yX1_columnOf ∈ wsA := iA_1 (List.mem_of_getElem? (i := 41) rfl)
theorem qA_142 : Cond.selects RX1 yX1_columnOf yX1_columnOf ∈ wsA := iA_1 (List.mem_of_getElem? (i := 42) rfl)
theorem qA_143 : Cond.code yX1_columnOf cX1_columnOf 2 (some .int) ∈ wsA := iA_1 (List.mem_of_getElem? (i := 43) rfl)
theorem qA_144 : Cond.static yX11_remainder ∈ wsA := iA_1 (List.mem_of_getElem? (i := 44) rfl)
theorem qA_145 : Cond.code yX11_remainder cX11_remainder 2 (some .int) ∈ wsA := iA_1 (List.mem_of_getElem? (i := 45) rfl)
theorem qA_146 : Cond.methodLink RX1 54 yX1_rowOf ∈ wsA := iA_1 (List.mem_of_getElem? (i := 46) rfl)
theorem qA_147 : Cond.instanceMethod yX1_rowOf ∈ wsA := iA_1 (List.mem_of_getElem? (i := 47) rfl)
theorem qA_148 : Cond.selects RX1 yX1_rowOf yX1_rowOf ∈ wsA := iA_1 (List.mem_of_getElem? (i := 48) rfl)
theorem qA_149 : Cond.code yX1_rowOf cX1_rowOf 2 (some .int) ∈ wsA := iA_1 (List.mem_of_getElem? (i := 49) rfl)
theorem qA_150 : Cond.methodLink RX0 69 yX10_add ∈ wsA := iA_1 (List.mem_of_getElem? (i := 50) rfl)
theorem qA_151 : Cond.instanceMethod yX10_add ∈ wsA := iA_1 (List.mem_of_getElem? (i := 51) rfl)
theorem qA_152 : Cond.selects RX10 yX10_add yX10_add ∈ wsA := iA_1 (List.mem_of_getElem? (i := 52) rfl)
theorem qA_153 : Cond.code yX10_add cX10_add 6 none ∈ wsA := iA_1 (List.mem_of_getElem? (i := 53) rfl)
theorem qA_154 : Cond.code yX0_trackCellIn cX0_trackCellIn 5 (some .int) ∈ wsA := iA_1 (List.mem_of_getElem? (i := 54) rfl)
theorem qA_155 : Cond.code yX1_init cX1_init 1 none ∈ wsA := iA_1 (List.mem_of_getElem? (i := 55) rfl)
theorem qA_156 : Cond.methodLink RX1 3 objectInit ∈ wsA := iA_1 (List.mem_of_getElem? (i := 56) rfl)
theorem qA_157 : Cond.arrayClass .int ∈ wsA := iA_1 (List.mem_of_getElem? (i := 57) rfl)
theorem qA_158 : Cond.fieldLink RX1 9 "AcousticCamera$Grid" "whole" "[I" ∈ wsA := iA_1 (List.mem_of_getElem? (i := 58) rfl)
theorem qA_159 : Cond.classLink RX1 15 "[[I" ∈ wsA := iA_1 (List.mem_of_getElem? (i := 59) rfl)
theorem qA_160 : Cond.fieldLink RX1 17 "AcousticCamera$Grid" "zones" "[[I" ∈ wsA := iA_1 (List.mem_of_getElem? (i := 60) rfl)
theorem qA_161 : Cond.code yX1_clear cX1_clear 1 none ∈ wsA := iA_1 (List.mem_of_getElem? (i := 61) rfl)
theorem qA_162 : Cond.fieldLink RX1 30 "AcousticCamera$Grid" "zoneCount" "I" ∈ wsA := iA_1 (List.mem_of_getElem? (i := 62) rfl)
theorem qA_163 : Cond.code yX1_open cX1_open 3 none ∈ wsA := iA_1 (List.mem_of_getElem? (i := 63) rfl)
theorem qA_164 : Cond.code yX1_centreX cX1_centreX 2 (some .int) ∈ wsA := iA_1 (List.mem_of_getElem? (i := 64) rfl)
theorem qA_165 : Cond.fieldLink RX1 41 "AcousticCamera$Grid" "x" "I" ∈ wsA := iA_1 (List.mem_of_getElem? (i := 65) rfl)
theorem qA_166 : Cond.fieldLink RX1 44 "AcousticCamera$Grid" "size" "I" ∈ wsA := iA_1 (List.mem_of_getElem? (i := 66) rfl)
theorem qA_167 : Cond.code yX1_centreY cX1_centreY 2 (some .int) ∈ wsA := iA_1 (List.mem_of_getElem? (i := 67) rfl)
theorem qA_168 : Cond.fieldLink RX1 51 "AcousticCamera$Grid" "y" "I" ∈ wsA := iA_1 (List.mem_of_getElem? (i := 68) rfl)
theorem qA_169 : Cond.code yX2_init cX2_init 1 none ∈ wsA := iA_1 (List.mem_of_getElem? (i := 69) rfl)
theorem qA_170 : Cond.methodLink RX2 1 objectInit ∈ wsA := iA_1 (List.mem_of_getElem? (i := 70) rfl)
theorem qA_171 : Cond.code yX3_init cX3_init 2 none ∈ wsA := iA_1 (List.mem_of_getElem? (i := 71) rfl)
theorem qA_172 : Cond.methodLink RX3 3 objectInit ∈ wsA := iA_1 (List.mem_of_getElem? (i := 72) rfl)
theorem qA_173 : Cond.fieldLink RX3 9 "AcousticCamera$Parser" "position" "I" ∈ wsA := iA_1 (List.mem_of_getElem? (i := 73) rfl)
theorem qA_174 : Cond.fieldLink RX3 15 "AcousticCamera$Parser" "text" "LAcousticCamera$Text;" ∈ wsA := iA_1 (List.mem_of_getElem? (i := 74) rfl)
theorem qA_175 : Cond.code yX3_parse cX3_parse 4 none ∈ wsA := iA_1 (List.mem_of_getElem? (i := 75) rfl)
theorem qA_176 : Cond.fieldLink RX3 25 "AcousticCamera$Parser" "at" "I" ∈ wsA := iA_1 (List.mem_of_getElem? (i := 76) rfl)
theorem qA_177 : Cond.fieldLink RX3 37 "AcousticCamera$Text" "count" "I" ∈ wsA := iA_1 (List.mem_of_getElem? (i := 77) rfl)
theorem qA_178 : Cond.fieldLink RX3 51 "AcousticCamera$Scene" "micCount" "I" ∈ wsA := iA_1 (List.mem_of_getElem? (i := 78) rfl)
theorem qA_179 : Cond.fieldLink RX3 54 "AcousticCamera$Scene" "grid" "LAcousticCamera$Grid;" ∈ wsA := iA_1 (List.mem_of_getElem? (i := 79) rfl)
theorem qA_180 : Cond.fieldLink RX3 58 "AcousticCamera$Grid" "columns" "I" ∈ wsA := iA_1 (List.mem_of_getElem? (i := 80) rfl)
theorem qA_181 : Cond.fieldLink RX3 63 "AcousticCamera$Parser" "code" "I" ∈ wsA := iA_1 (List.mem_of_getElem? (i := 81) rfl)
theorem qA_182 : Cond.methodLink RX3 19 yX9_cut ∈ wsA := iA_1 (List.mem_of_getElem? (i := 82) rfl)
theorem qA_183 : Cond.instanceMethod yX9_cut ∈ wsA := iA_1 (List.mem_of_getElem? (i := 83) rfl)
theorem qA_184 : Cond.selects RX9 yX9_cut yX9_cut ∈ wsA := iA_1 (List.mem_of_getElem? (i := 84) rfl)
theorem qA_185 : Cond.initialized RX9 ∈ wsA := iA_1 (List.mem_of_getElem? (i := 85) rfl)
theorem qA_186 : Cond.code yX9_cut cX9_cut 4 none ∈ wsA := iA_1 (List.mem_of_getElem? (i := 86) rfl)
theorem qA_187 : Cond.fieldLink RX9 28 "AcousticCamera$Text" "count" "I" ∈ wsA := iA_1 (List.mem_of_getElem? (i := 87) rfl)
theorem qA_188 : Cond.methodLink RX9 31 yX9_cutOne ∈ wsA := iA_1 (List.mem_of_getElem? (i := 88) rfl)
theorem qA_189 : Cond.instanceMethod yX9_cutOne ∈ wsA := iA_1 (List.mem_of_getElem? (i := 89) rfl)
theorem qA_190 : Cond.selects RX9 yX9_cutOne yX9_cutOne ∈ wsA := iA_1 (List.mem_of_getElem? (i := 90) rfl)
theorem qA_191 : Cond.code yX9_cutOne cX9_cutOne 5 (some .int) ∈ wsA := iA_1 (List.mem_of_getElem? (i := 91) rfl)
theorem qA_192 : Cond.fieldLink RX9 9 "AcousticCamera$Text" "bytes" "[I" ∈ wsA := iA_1 (List.mem_of_getElem? (i := 92) rfl)
theorem qA_193 : Cond.methodLink RX9 39 yX9_runEnd ∈ wsA := iA_1 (List.mem_of_getElem? (i := 93) rfl)
theorem qA_194 : Cond.instanceMethod yX9_runEnd ∈ wsA := iA_1 (List.mem_of_getElem? (i := 94) rfl)
theorem qA_195 : Cond.selects RX9 yX9_runEnd yX9_runEnd ∈ wsA := iA_1 (List.mem_of_getElem? (i := 95) rfl)
theorem qA_196 : Cond.code yX9_runEnd cX9_runEnd 6 (some .int) ∈ wsA := iA_1 (List.mem_of_getElem? (i := 96) rfl)
theorem qA_197 : Cond.methodLink RX9 35 yX9_add ∈ wsA := iA_1 (List.mem_of_getElem? (i := 97) rfl)
theorem qA_198 : Cond.instanceMethod yX9_add ∈ wsA := iA_1 (List.mem_of_getElem? (i := 98) rfl)
theorem qA_199 : Cond.selects RX9 yX9_add yX9_add ∈ wsA := iA_1 (List.mem_of_getElem? (i := 99) rfl)
theorem qA_200 : Cond.code yX9_add cX9_add 4 none ∈ wsA := iA_2 (List.mem_of_getElem? (i := 0) rfl)
theorem qA_201 : Cond.fieldLink RX9 15 "AcousticCamera$Text" "kinds" "[I" ∈ wsA := iA_2 (List.mem_of_getElem? (i := 1) rfl)
theorem qA_202 : Cond.fieldLink RX9 18 "AcousticCamera$Text" "starts" "[I" ∈ wsA := iA_2 (List.mem_of_getElem? (i := 2) rfl)
theorem qA_203 : Cond.fieldLink RX9 21 "AcousticCamera$Text" "ends" "[I" ∈ wsA := iA_2 (List.mem_of_getElem? (i := 3) rfl)
theorem qA_204 : Cond.methodLink RX3 28 yX6_clear ∈ wsA := iA_2 (List.mem_of_getElem? (i := 4) rfl)
theorem qA_205 : Cond.instanceMethod yX6_clear ∈ wsA := iA_2 (List.mem_of_getElem? (i := 5) rfl)
theorem qA_206 : Cond.selects RX6 yX6_clear yX6_clear ∈ wsA := iA_2 (List.mem_of_getElem? (i := 6) rfl)
theorem qA_207 : Cond.initialized RX6 ∈ wsA := iA_2 (List.mem_of_getElem? (i := 7) rfl)
theorem qA_208 : Cond.code yX6_clear cX6_clear 1 none ∈ wsA := iA_2 (List.mem_of_getElem? (i := 8) rfl)
theorem qA_209 : Cond.fieldLink RX6 20 "AcousticCamera$Scene" "grid" "LAcousticCamera$Grid;" ∈ wsA := iA_2 (List.mem_of_getElem? (i := 9) rfl)
theorem qA_210 : Cond.fieldLink RX6 53 "AcousticCamera$Scene" "micCount" "I" ∈ wsA := iA_2 (List.mem_of_getElem? (i := 10) rfl)
theorem qA_211 : Cond.fieldLink RX6 57 "AcousticCamera$Scene" "sourceCount" "I" ∈ wsA := iA_2 (List.mem_of_getElem? (i := 11) rfl)
theorem qA_212 : Cond.fieldLink RX6 60 "AcousticCamera$Scene" "wallCount" "I" ∈ wsA := iA_2 (List.mem_of_getElem? (i := 12) rfl)
theorem qA_213 : Cond.fieldLink RX6 63 "AcousticCamera$Scene" "fade" "I" ∈ wsA := iA_2 (List.mem_of_getElem? (i := 13) rfl)
theorem qA_214 : Cond.fieldLink RX6 66 "AcousticCamera$Scene" "tapCount" "I" ∈ wsA := iA_2 (List.mem_of_getElem? (i := 14) rfl)
theorem qA_215 : Cond.fieldLink RX6 69 "AcousticCamera$Scene" "shadeCount" "I" ∈ wsA := iA_2 (List.mem_of_getElem? (i := 15) rfl)
theorem qA_216 : Cond.methodLink RX6 50 yX1_clear ∈ wsA := iA_2 (List.mem_of_getElem? (i := 16) rfl)
theorem qA_217 : Cond.instanceMethod yX1_clear ∈ wsA := iA_2 (List.mem_of_getElem? (i := 17) rfl)
theorem qA_218 : Cond.selects RX1 yX1_clear yX1_clear ∈ wsA := iA_2 (List.mem_of_getElem? (i := 18) rfl)
theorem qA_219 : Cond.methodLink RX3 33 yX3_parseHead ∈ wsA := iA_2 (List.mem_of_getElem? (i := 19) rfl)
theorem qA_220 : Cond.instanceMethod yX3_parseHead ∈ wsA := iA_2 (List.mem_of_getElem? (i := 20) rfl)
theorem qA_221 : Cond.selects RX3 yX3_parseHead yX3_parseHead ∈ wsA := iA_2 (List.mem_of_getElem? (i := 21) rfl)
theorem qA_222 : Cond.initialized RX3 ∈ wsA := iA_2 (List.mem_of_getElem? (i := 22) rfl)
theorem qA_223 : Cond.code yX3_parseHead cX3_parseHead 2 none ∈ wsA := iA_2 (List.mem_of_getElem? (i := 23) rfl)
theorem qA_224 : Cond.fieldLink RX3 78 "AcousticCamera$Scene" "distance" "I" ∈ wsA := iA_2 (List.mem_of_getElem? (i := 24) rfl)
theorem qA_225 : Cond.fieldLink RX3 82 "AcousticCamera$Scene" "step" "I" ∈ wsA := iA_2 (List.mem_of_getElem? (i := 25) rfl)
theorem qA_226 : Cond.fieldLink RX3 86 "AcousticCamera$Scene" "samples" "I" ∈ wsA := iA_2 (List.mem_of_getElem? (i := 26) rfl)
theorem qA_227 : Cond.fieldLink RX3 90 "AcousticCamera$Scene" "limit" "I" ∈ wsA := iA_2 (List.mem_of_getElem? (i := 27) rfl)
theorem qA_228 : Cond.methodLink RX3 68 yX3_takeWord ∈ wsA := iA_2 (List.mem_of_getElem? (i := 28) rfl)
theorem qA_229 : Cond.instanceMethod yX3_takeWord ∈ wsA := iA_2 (List.mem_of_getElem? (i := 29) rfl)
theorem qA_230 : Cond.selects RX3 yX3_takeWord yX3_takeWord ∈ wsA := iA_2 (List.mem_of_getElem? (i := 30) rfl)
theorem qA_231 : Cond.code yX3_takeWord cX3_takeWord 2 none ∈ wsA := iA_2 (List.mem_of_getElem? (i := 31) rfl)
theorem qA_232 : Cond.methodLink RX3 94 yX3_isWord ∈ wsA := iA_2 (List.mem_of_getElem? (i := 32) rfl)
theorem qA_233 : Cond.instanceMethod yX3_isWord ∈ wsA := iA_2 (List.mem_of_getElem? (i := 33) rfl)
theorem qA_234 : Cond.selects RX3 yX3_isWord yX3_isWord ∈ wsA := iA_2 (List.mem_of_getElem? (i := 34) rfl)
theorem qA_235 : Cond.code yX3_isWord cX3_isWord 5 (some .boolean) ∈ wsA := iA_2 (List.mem_of_getElem? (i := 35) rfl)
theorem qA_236 : Cond.fieldLink RX3 266 "AcousticCamera$Text" "starts" "[I" ∈ wsA := iA_2 (List.mem_of_getElem? (i := 36) rfl)
theorem qA_237 : Cond.fieldLink RX3 269 "AcousticCamera$Text" "ends" "[I" ∈ wsA := iA_2 (List.mem_of_getElem? (i := 37) rfl)
theorem qA_238 : Cond.fieldLink RX3 272 "AcousticCamera$Text" "bytes" "[I" ∈ wsA := iA_2 (List.mem_of_getElem? (i := 38) rfl)
theorem qA_239 : Cond.methodLink RX3 40 yX3_kind ∈ wsA := iA_2 (List.mem_of_getElem? (i := 39) rfl)
theorem qA_240 : Cond.instanceMethod yX3_kind ∈ wsA := iA_2 (List.mem_of_getElem? (i := 40) rfl)
theorem qA_241 : Cond.selects RX3 yX3_kind yX3_kind ∈ wsA := iA_2 (List.mem_of_getElem? (i := 41) rfl)
theorem qA_242 : Cond.code yX3_kind cX3_kind 1 (some .int) ∈ wsA := iA_2 (List.mem_of_getElem? (i := 42) rfl)
theorem qA_243 : Cond.fieldLink RX3 263 "AcousticCamera$Text" "kinds" "[I" ∈ wsA := iA_2 (List.mem_of_getElem? (i := 43) rfl)
theorem qA_244 : Cond.methodLink RX3 275 yJ0_length_8abf5 ∈ wsA := iA_2 (List.mem_of_getElem? (i := 44) rfl)
theorem qA_245 : Cond.instanceMethod yJ0_length_8abf5 ∈ wsA := iA_2 (List.mem_of_getElem? (i := 45) rfl)
theorem qA_246 : Cond.selects RJ0 yJ0_length_8abf5 yJ0_length_8abf5 ∈ wsA := iA_2 (List.mem_of_getElem? (i := 46) rfl)
theorem qA_247 : Cond.initialized RJ0 ∈ wsA := iA_2 (List.mem_of_getElem? (i := 47) rfl)
theorem qA_248 : Cond.code yJ0_length_8abf5 cJ0_length_8abf5 1 (some .int) ∈ wsA := iA_2 (List.mem_of_getElem? (i := 48) rfl)
theorem qA_249 : Cond.fieldLink RJ0 9 "java/lang/String" "value" "[B" ∈ wsA := iA_2 (List.mem_of_getElem? (i := 49) rfl)
theorem qA_250 : Cond.methodLink RJ0 335 yJ0_coder_7d493 ∈ wsA := iA_2 (List.mem_of_getElem? (i := 50) rfl)
theorem qA_251 : Cond.instanceMethod yJ0_coder_7d493 ∈ wsA := iA_2 (List.mem_of_getElem? (i := 51) rfl)
theorem qA_252 : Cond.selects RJ0 yJ0_coder_7d493 yJ0_coder_7d493 ∈ wsA := iA_2 (List.mem_of_getElem? (i := 52) rfl)
theorem qA_253 : Cond.code yJ0_coder_7d493 cJ0_coder_7d493 1 (some .byte) ∈ wsA := iA_2 (List.mem_of_getElem? (i := 53) rfl)
theorem qA_254 : Cond.fieldLink RJ0 38 "java/lang/String" "COMPACT_STRINGS" "Z" ∈ wsA := iA_2 (List.mem_of_getElem? (i := 54) rfl)
theorem qA_255 : Cond.fieldLink RJ0 15 "java/lang/String" "coder" "B" ∈ wsA := iA_2 (List.mem_of_getElem? (i := 55) rfl)
theorem qA_256 : Cond.methodLink RX3 280 yJ0_charAt_5068e ∈ wsA := iA_2 (List.mem_of_getElem? (i := 56) rfl)
theorem qA_257 : Cond.instanceMethod yJ0_charAt_5068e ∈ wsA := iA_2 (List.mem_of_getElem? (i := 57) rfl)
theorem qA_258 : Cond.selects RJ0 yJ0_charAt_5068e yJ0_charAt_5068e ∈ wsA := iA_2 (List.mem_of_getElem? (i := 58) rfl)
theorem qA_259 : Cond.code yJ0_charAt_5068e cJ0_charAt_5068e 2 (some .char) ∈ wsA := iA_2 (List.mem_of_getElem? (i := 59) rfl)
theorem qA_260 : Cond.methodLink RJ0 492 yJ0_isLatin1_aae02 ∈ wsA := iA_2 (List.mem_of_getElem? (i := 60) rfl)
theorem qA_261 : Cond.instanceMethod yJ0_isLatin1_aae02 ∈ wsA := iA_2 (List.mem_of_getElem? (i := 61) rfl)
theorem qA_262 : Cond.selects RJ0 yJ0_isLatin1_aae02 yJ0_isLatin1_aae02 ∈ wsA := iA_2 (List.mem_of_getElem? (i := 62) rfl)
theorem qA_263 : Cond.code yJ0_isLatin1_aae02 cJ0_isLatin1_aae02 1 (some .boolean) ∈ wsA := iA_2 (List.mem_of_getElem? (i := 63) rfl)
theorem qA_264 : Cond.methodLink RJ0 495 yJ1_charAt_3b067 ∈ wsA := iA_2 (List.mem_of_getElem? (i := 64) rfl)
theorem qA_265 : Cond.static yJ1_charAt_3b067 ∈ wsA := iA_2 (List.mem_of_getElem? (i := 65) rfl)
theorem qA_266 : Cond.initialized RJ1 ∈ wsA := iA_2 (List.mem_of_getElem? (i := 66) rfl)
theorem qA_267 : Cond.code yJ1_charAt_3b067 cJ1_charAt_3b067 2 (some .char) ∈ wsA := iA_2 (List.mem_of_getElem? (i := 67) rfl)
theorem qA_268 : Cond.methodLink RJ1 9 yJ0_checkIndex_df160 ∈ wsA := iA_2 (List.mem_of_getElem? (i := 68) rfl)
theorem qA_269 : Cond.static yJ0_checkIndex_df160 ∈ wsA := iA_2 (List.mem_of_getElem? (i := 69) rfl)
theorem qA_270 : Cond.code yJ0_checkIndex_df160 cJ0_checkIndex_df160 2 none ∈ wsA := iA_2 (List.mem_of_getElem? (i := 70) rfl)
theorem qA_271 : Cond.fieldLink RJ0 1053 "jdk/internal/util/Preconditions" "SIOOBE_FORMATTER" "Ljava/util/function/BiFunction;" ∈ wsA := iA_2 (List.mem_of_getElem? (i := 71) rfl)
theorem qA_272 : Cond.methodLink RJ0 1059 yJ3_checkIndex_8e157 ∈ wsA := iA_2 (List.mem_of_getElem? (i := 72) rfl)
theorem qA_273 : Cond.static yJ3_checkIndex_8e157 ∈ wsA := iA_2 (List.mem_of_getElem? (i := 73) rfl)
theorem qA_274 : Cond.initialized RJ3 ∈ wsA := iA_2 (List.mem_of_getElem? (i := 74) rfl)
theorem qA_275 : Cond.code yJ3_checkIndex_8e157 cJ3_checkIndex_8e157 3 (some .int) ∈ wsA := iA_2 (List.mem_of_getElem? (i := 75) rfl)
theorem qA_293 : Cond.methodLink RX3 44 yX3_failAt ∈ wsA := iA_2 (List.mem_of_getElem? (i := 93) rfl)
theorem qA_294 : Cond.instanceMethod yX3_failAt ∈ wsA := iA_2 (List.mem_of_getElem? (i := 94) rfl)
theorem qA_295 : Cond.selects RX3 yX3_failAt yX3_failAt ∈ wsA := iA_2 (List.mem_of_getElem? (i := 95) rfl)
theorem qA_296 : Cond.code yX3_failAt cX3_failAt 3 none ∈ wsA := iA_2 (List.mem_of_getElem? (i := 96) rfl)
theorem qA_297 : Cond.classLink RX3 284 "java/lang/IllegalArgumentException" ∈ wsA := iA_2 (List.mem_of_getElem? (i := 97) rfl)
theorem qA_298 : Cond.initialized "java/lang/IllegalArgumentException" ∈ wsA := iA_2 (List.mem_of_getElem? (i := 98) rfl)
theorem qA_299 : Cond.methodLink RX3 74 yX3_number ∈ wsA := iA_2 (List.mem_of_getElem? (i := 99) rfl)
theorem qA_300 : Cond.instanceMethod yX3_number ∈ wsA := iA_3 (List.mem_of_getElem? (i := 0) rfl)
theorem qA_301 : Cond.selects RX3 yX3_number yX3_number ∈ wsA := iA_3 (List.mem_of_getElem? (i := 1) rfl)
theorem qA_302 : Cond.code yX3_number cX3_number 4 (some .int) ∈ wsA := iA_3 (List.mem_of_getElem? (i := 2) rfl)
theorem qA_303 : Cond.methodLink RX3 260 yX3_value ∈ wsA := iA_3 (List.mem_of_getElem? (i := 3) rfl)
theorem qA_304 : Cond.instanceMethod yX3_value ∈ wsA := iA_3 (List.mem_of_getElem? (i := 4) rfl)
theorem qA_305 : Cond.selects RX3 yX3_value yX3_value ∈ wsA := iA_3 (List.mem_of_getElem? (i := 5) rfl)
theorem qA_306 : Cond.code yX3_value cX3_value 3 (some .int) ∈ wsA := iA_3 (List.mem_of_getElem? (i := 6) rfl)
theorem qA_307 : Cond.methodLink RX3 48 yX3_parseLine ∈ wsA := iA_3 (List.mem_of_getElem? (i := 7) rfl)
theorem qA_308 : Cond.instanceMethod yX3_parseLine ∈ wsA := iA_3 (List.mem_of_getElem? (i := 8) rfl)
theorem qA_309 : Cond.selects RX3 yX3_parseLine yX3_parseLine ∈ wsA := iA_3 (List.mem_of_getElem? (i := 9) rfl)
theorem qA_310 : Cond.code yX3_parseLine cX3_parseLine 2 none ∈ wsA := iA_3 (List.mem_of_getElem? (i := 10) rfl)
theorem qA_311 : Cond.fieldLink RX3 119 "AcousticCamera$Scene" "fade" "I" ∈ wsA := iA_3 (List.mem_of_getElem? (i := 11) rfl)
theorem qA_312 : Cond.methodLink RX3 98 yX3_parseMic ∈ wsA := iA_3 (List.mem_of_getElem? (i := 12) rfl)
theorem qA_313 : Cond.instanceMethod yX3_parseMic ∈ wsA := iA_3 (List.mem_of_getElem? (i := 13) rfl)
theorem qA_314 : Cond.selects RX3 yX3_parseMic yX3_parseMic ∈ wsA := iA_3 (List.mem_of_getElem? (i := 14) rfl)
theorem qA_315 : Cond.code yX3_parseMic cX3_parseMic 3 none ∈ wsA := iA_3 (List.mem_of_getElem? (i := 15) rfl)
theorem qA_316 : Cond.fieldLink RX3 150 "AcousticCamera$Scene" "mics" "[LAcousticCamera$Mic;" ∈ wsA := iA_3 (List.mem_of_getElem? (i := 16) rfl)
theorem qA_317 : Cond.fieldLink RX3 157 "AcousticCamera$Mic" "x" "I" ∈ wsA := iA_3 (List.mem_of_getElem? (i := 17) rfl)
theorem qA_318 : Cond.fieldLink RX3 162 "AcousticCamera$Mic" "y" "I" ∈ wsA := iA_3 (List.mem_of_getElem? (i := 18) rfl)
theorem qA_319 : Cond.fieldLink RX3 165 "AcousticCamera$Mic" "gain" "I" ∈ wsA := iA_3 (List.mem_of_getElem? (i := 19) rfl)
theorem qA_320 : Cond.fieldLink RX3 168 "AcousticCamera$Mic" "offset" "I" ∈ wsA := iA_3 (List.mem_of_getElem? (i := 20) rfl)
theorem qA_321 : Cond.methodLink RX3 121 yX3_startLine ∈ wsA := iA_3 (List.mem_of_getElem? (i := 21) rfl)
theorem qA_322 : Cond.instanceMethod yX3_startLine ∈ wsA := iA_3 (List.mem_of_getElem? (i := 22) rfl)
theorem qA_323 : Cond.selects RX3 yX3_startLine yX3_startLine ∈ wsA := iA_3 (List.mem_of_getElem? (i := 23) rfl)
theorem qA_324 : Cond.code yX3_startLine cX3_startLine 3 none ∈ wsA := iA_3 (List.mem_of_getElem? (i := 24) rfl)
theorem qA_325 : Cond.methodLink RX3 154 yX3_signed ∈ wsA := iA_3 (List.mem_of_getElem? (i := 25) rfl)
theorem qA_326 : Cond.instanceMethod yX3_signed ∈ wsA := iA_3 (List.mem_of_getElem? (i := 26) rfl)
theorem qA_327 : Cond.selects RX3 yX3_signed yX3_signed ∈ wsA := iA_3 (List.mem_of_getElem? (i := 27) rfl)
theorem qA_328 : Cond.code yX3_signed cX3_signed 3 (some .int) ∈ wsA := iA_3 (List.mem_of_getElem? (i := 28) rfl)
theorem qA_329 : Cond.methodLink RX3 103 yX3_parseMap ∈ wsA := iA_3 (List.mem_of_getElem? (i := 29) rfl)
theorem qA_330 : Cond.instanceMethod yX3_parseMap ∈ wsA := iA_3 (List.mem_of_getElem? (i := 30) rfl)
theorem qA_331 : Cond.selects RX3 yX3_parseMap yX3_parseMap ∈ wsA := iA_3 (List.mem_of_getElem? (i := 31) rfl)
theorem qA_332 : Cond.code yX3_parseMap cX3_parseMap 4 none ∈ wsA := iA_3 (List.mem_of_getElem? (i := 32) rfl)
theorem qA_333 : Cond.fieldLink RX3 171 "AcousticCamera$Grid" "x" "I" ∈ wsA := iA_3 (List.mem_of_getElem? (i := 33) rfl)
theorem qA_334 : Cond.fieldLink RX3 172 "AcousticCamera$Grid" "y" "I" ∈ wsA := iA_3 (List.mem_of_getElem? (i := 34) rfl)
theorem qA_335 : Cond.fieldLink RX3 173 "AcousticCamera$Grid" "size" "I" ∈ wsA := iA_3 (List.mem_of_getElem? (i := 35) rfl)
theorem qA_336 : Cond.methodLink RX3 176 yX1_open ∈ wsA := iA_3 (List.mem_of_getElem? (i := 36) rfl)
theorem qA_337 : Cond.instanceMethod yX1_open ∈ wsA := iA_3 (List.mem_of_getElem? (i := 37) rfl)
theorem qA_338 : Cond.selects RX1 yX1_open yX1_open ∈ wsA := iA_3 (List.mem_of_getElem? (i := 38) rfl)
theorem qA_339 : Cond.methodLink RX3 109 yX3_parseSource ∈ wsA := iA_3 (List.mem_of_getElem? (i := 39) rfl)
theorem qA_340 : Cond.instanceMethod yX3_parseSource ∈ wsA := iA_3 (List.mem_of_getElem? (i := 40) rfl)
theorem qA_341 : Cond.selects RX3 yX3_parseSource yX3_parseSource ∈ wsA := iA_3 (List.mem_of_getElem? (i := 41) rfl)
theorem qA_342 : Cond.code yX3_parseSource cX3_parseSource 3 none ∈ wsA := iA_3 (List.mem_of_getElem? (i := 42) rfl)
theorem qA_343 : Cond.fieldLink RX3 179 "AcousticCamera$Scene" "sourceCount" "I" ∈ wsA := iA_3 (List.mem_of_getElem? (i := 43) rfl)
theorem qA_344 : Cond.fieldLink RX3 182 "AcousticCamera$Scene" "sources" "[LAcousticCamera$Source;" ∈ wsA := iA_3 (List.mem_of_getElem? (i := 44) rfl)
theorem qA_345 : Cond.fieldLink RX3 189 "AcousticCamera$Source" "shape" "I" ∈ wsA := iA_3 (List.mem_of_getElem? (i := 45) rfl)
theorem qA_346 : Cond.fieldLink RX3 193 "AcousticCamera$Source" "x" "I" ∈ wsA := iA_3 (List.mem_of_getElem? (i := 46) rfl)
theorem qA_347 : Cond.fieldLink RX3 194 "AcousticCamera$Source" "y" "I" ∈ wsA := iA_3 (List.mem_of_getElem? (i := 47) rfl)
theorem qA_348 : Cond.fieldLink RX3 195 "AcousticCamera$Source" "vx" "I" ∈ wsA := iA_3 (List.mem_of_getElem? (i := 48) rfl)
theorem qA_349 : Cond.fieldLink RX3 198 "AcousticCamera$Source" "vy" "I" ∈ wsA := iA_3 (List.mem_of_getElem? (i := 49) rfl)
theorem qA_350 : Cond.fieldLink RX3 201 "AcousticCamera$Source" "amp" "I" ∈ wsA := iA_3 (List.mem_of_getElem? (i := 50) rfl)
theorem qA_351 : Cond.fieldLink RX3 204 "AcousticCamera$Source" "period" "I" ∈ wsA := iA_3 (List.mem_of_getElem? (i := 51) rfl)
theorem qA_352 : Cond.fieldLink RX3 207 "AcousticCamera$Source" "phase" "I" ∈ wsA := iA_3 (List.mem_of_getElem? (i := 52) rfl)
theorem qA_353 : Cond.fieldLink RX3 210 "AcousticCamera$Source" "from" "I" ∈ wsA := iA_3 (List.mem_of_getElem? (i := 53) rfl)
theorem qA_354 : Cond.fieldLink RX3 213 "AcousticCamera$Source" "off" "Z" ∈ wsA := iA_3 (List.mem_of_getElem? (i := 54) rfl)
theorem qA_355 : Cond.methodLink RX3 186 yX3_shape ∈ wsA := iA_3 (List.mem_of_getElem? (i := 55) rfl)
theorem qA_356 : Cond.instanceMethod yX3_shape ∈ wsA := iA_3 (List.mem_of_getElem? (i := 56) rfl)
theorem qA_357 : Cond.selects RX3 yX3_shape yX3_shape ∈ wsA := iA_3 (List.mem_of_getElem? (i := 57) rfl)
theorem qA_358 : Cond.code yX3_shape cX3_shape 2 (some .int) ∈ wsA := iA_3 (List.mem_of_getElem? (i := 58) rfl)
theorem qA_359 : Cond.methodLink RX3 114 yX3_parseWall ∈ wsA := iA_3 (List.mem_of_getElem? (i := 59) rfl)
theorem qA_360 : Cond.instanceMethod yX3_parseWall ∈ wsA := iA_3 (List.mem_of_getElem? (i := 60) rfl)
theorem qA_361 : Cond.selects RX3 yX3_parseWall yX3_parseWall ∈ wsA := iA_3 (List.mem_of_getElem? (i := 61) rfl)
theorem qA_362 : Cond.code yX3_parseWall cX3_parseWall 2 none ∈ wsA := iA_3 (List.mem_of_getElem? (i := 62) rfl)
theorem qA_363 : Cond.fieldLink RX3 225 "AcousticCamera$Scene" "wallCount" "I" ∈ wsA := iA_3 (List.mem_of_getElem? (i := 63) rfl)
theorem qA_364 : Cond.fieldLink RX3 228 "AcousticCamera$Scene" "walls" "[I" ∈ wsA := iA_3 (List.mem_of_getElem? (i := 64) rfl)
theorem qA_365 : Cond.fieldLink RX3 232 "AcousticCamera$Scene" "percents" "[I" ∈ wsA := iA_3 (List.mem_of_getElem? (i := 65) rfl)
theorem qA_366 : Cond.methodLink RX3 127 yX3_parseFilter ∈ wsA := iA_3 (List.mem_of_getElem? (i := 66) rfl)
theorem qA_367 : Cond.instanceMethod yX3_parseFilter ∈ wsA := iA_3 (List.mem_of_getElem? (i := 67) rfl)
theorem qA_368 : Cond.selects RX3 yX3_parseFilter yX3_parseFilter ∈ wsA := iA_3 (List.mem_of_getElem? (i := 68) rfl)
theorem qA_369 : Cond.code yX3_parseFilter cX3_parseFilter 3 none ∈ wsA := iA_3 (List.mem_of_getElem? (i := 69) rfl)
theorem qA_370 : Cond.fieldLink RX3 235 "AcousticCamera$Scene" "tapCount" "I" ∈ wsA := iA_3 (List.mem_of_getElem? (i := 70) rfl)
theorem qA_371 : Cond.methodLink RX3 238 yX6_addTap ∈ wsA := iA_3 (List.mem_of_getElem? (i := 71) rfl)
theorem qA_372 : Cond.instanceMethod yX6_addTap ∈ wsA := iA_3 (List.mem_of_getElem? (i := 72) rfl)
theorem qA_373 : Cond.selects RX6 yX6_addTap yX6_addTap ∈ wsA := iA_3 (List.mem_of_getElem? (i := 73) rfl)
theorem qA_374 : Cond.code yX6_addTap cX6_addTap 2 none ∈ wsA := iA_3 (List.mem_of_getElem? (i := 74) rfl)
theorem qA_375 : Cond.fieldLink RX6 37 "AcousticCamera$Scene" "taps" "[I" ∈ wsA := iA_3 (List.mem_of_getElem? (i := 75) rfl)
theorem qA_376 : Cond.methodLink RX3 241 yX3_failAsTooMany ∈ wsA := iA_3 (List.mem_of_getElem? (i := 76) rfl)
theorem qA_377 : Cond.instanceMethod yX3_failAsTooMany ∈ wsA := iA_3 (List.mem_of_getElem? (i := 77) rfl)
theorem qA_378 : Cond.selects RX3 yX3_failAsTooMany yX3_failAsTooMany ∈ wsA := iA_3 (List.mem_of_getElem? (i := 78) rfl)
theorem qA_379 : Cond.code yX3_failAsTooMany cX3_failAsTooMany 2 none ∈ wsA := iA_3 (List.mem_of_getElem? (i := 79) rfl)
theorem qA_380 : Cond.methodLink RX3 132 yX3_parseClock ∈ wsA := iA_3 (List.mem_of_getElem? (i := 80) rfl)
theorem qA_381 : Cond.instanceMethod yX3_parseClock ∈ wsA := iA_3 (List.mem_of_getElem? (i := 81) rfl)
theorem qA_382 : Cond.selects RX3 yX3_parseClock yX3_parseClock ∈ wsA := iA_3 (List.mem_of_getElem? (i := 82) rfl)
theorem qA_383 : Cond.code yX3_parseClock cX3_parseClock 3 none ∈ wsA := iA_3 (List.mem_of_getElem? (i := 83) rfl)
theorem qA_384 : Cond.methodLink RX3 137 yX3_parseZone ∈ wsA := iA_3 (List.mem_of_getElem? (i := 84) rfl)
theorem qA_385 : Cond.instanceMethod yX3_parseZone ∈ wsA := iA_3 (List.mem_of_getElem? (i := 85) rfl)
theorem qA_386 : Cond.selects RX3 yX3_parseZone yX3_parseZone ∈ wsA := iA_3 (List.mem_of_getElem? (i := 86) rfl)
theorem qA_387 : Cond.code yX3_parseZone cX3_parseZone 3 none ∈ wsA := iA_3 (List.mem_of_getElem? (i := 87) rfl)
theorem qA_388 : Cond.fieldLink RX3 244 "AcousticCamera$Grid" "zoneCount" "I" ∈ wsA := iA_3 (List.mem_of_getElem? (i := 88) rfl)
theorem qA_389 : Cond.fieldLink RX3 247 "AcousticCamera$Grid" "zones" "[[I" ∈ wsA := iA_3 (List.mem_of_getElem? (i := 89) rfl)
theorem qA_390 : Cond.fieldLink RX3 251 "AcousticCamera$Grid" "rows" "I" ∈ wsA := iA_3 (List.mem_of_getElem? (i := 90) rfl)
theorem qA_391 : Cond.methodLink RX3 142 yX3_parseShade ∈ wsA := iA_3 (List.mem_of_getElem? (i := 91) rfl)
theorem qA_392 : Cond.instanceMethod yX3_parseShade ∈ wsA := iA_3 (List.mem_of_getElem? (i := 92) rfl)
theorem qA_393 : Cond.selects RX3 yX3_parseShade yX3_parseShade ∈ wsA := iA_3 (List.mem_of_getElem? (i := 93) rfl)
theorem qA_394 : Cond.code yX3_parseShade cX3_parseShade 3 none ∈ wsA := iA_3 (List.mem_of_getElem? (i := 94) rfl)
theorem qA_395 : Cond.fieldLink RX3 254 "AcousticCamera$Scene" "shadeCount" "I" ∈ wsA := iA_3 (List.mem_of_getElem? (i := 95) rfl)
theorem qA_396 : Cond.methodLink RX3 257 yX6_addShade ∈ wsA := iA_3 (List.mem_of_getElem? (i := 96) rfl)
theorem qA_397 : Cond.instanceMethod yX6_addShade ∈ wsA := iA_3 (List.mem_of_getElem? (i := 97) rfl)
theorem qA_398 : Cond.selects RX6 yX6_addShade yX6_addShade ∈ wsA := iA_3 (List.mem_of_getElem? (i := 98) rfl)
theorem qA_399 : Cond.code yX6_addShade cX6_addShade 2 none ∈ wsA := iA_3 (List.mem_of_getElem? (i := 99) rfl)
theorem qA_400 : Cond.fieldLink RX6 40 "AcousticCamera$Scene" "shades" "[I" ∈ wsA := iA_4 (List.mem_of_getElem? (i := 0) rfl)
theorem qA_401 : Cond.methodLink RX3 147 yX3_parseOff ∈ wsA := iA_4 (List.mem_of_getElem? (i := 1) rfl)
theorem qA_402 : Cond.instanceMethod yX3_parseOff ∈ wsA := iA_4 (List.mem_of_getElem? (i := 2) rfl)
theorem qA_403 : Cond.selects RX3 yX3_parseOff yX3_parseOff ∈ wsA := iA_4 (List.mem_of_getElem? (i := 3) rfl)
theorem qA_404 : Cond.code yX3_parseOff cX3_parseOff 3 none ∈ wsA := iA_4 (List.mem_of_getElem? (i := 4) rfl)
theorem qA_405 : Cond.code yX4_init cX4_init 1 none ∈ wsA := iA_4 (List.mem_of_getElem? (i := 5) rfl)
theorem qA_406 : Cond.methodLink RX4 3 objectInit ∈ wsA := iA_4 (List.mem_of_getElem? (i := 6) rfl)
theorem qA_407 : Cond.classLink RX4 9 RX10 ∈ wsA := iA_4 (List.mem_of_getElem? (i := 7) rfl)
theorem qA_408 : Cond.fieldLink RX4 14 "AcousticCamera$PowerMap" "of" "LAcousticCamera$Wides;" ∈ wsA := iA_4 (List.mem_of_getElem? (i := 8) rfl)
theorem qA_409 : Cond.fieldLink RX4 20 "AcousticCamera$PowerMap" "peakCells" "[I" ∈ wsA := iA_4 (List.mem_of_getElem? (i := 9) rfl)
theorem qA_410 : Cond.fieldLink RX4 24 "AcousticCamera$PowerMap" "peakPowers" "LAcousticCamera$Wides;" ∈ wsA := iA_4 (List.mem_of_getElem? (i := 10) rfl)
theorem qA_411 : Cond.methodLink RX4 11 yX10_init ∈ wsA := iA_4 (List.mem_of_getElem? (i := 11) rfl)
theorem qA_412 : Cond.code yX4_measure cX4_measure 5 none ∈ wsA := iA_4 (List.mem_of_getElem? (i := 12) rfl)
theorem qA_413 : Cond.fieldLink RX4 30 "AcousticCamera$Scene" "grid" "LAcousticCamera$Grid;" ∈ wsA := iA_4 (List.mem_of_getElem? (i := 13) rfl)
theorem qA_414 : Cond.fieldLink RX4 42 "AcousticCamera$Scene" "delays" "[[I" ∈ wsA := iA_4 (List.mem_of_getElem? (i := 14) rfl)
theorem qA_415 : Cond.fieldLink RX4 56 "AcousticCamera$Grid" "whole" "[I" ∈ wsA := iA_4 (List.mem_of_getElem? (i := 15) rfl)
theorem qA_416 : Cond.fieldLink RX4 63 "AcousticCamera$PowerMap" "best" "I" ∈ wsA := iA_4 (List.mem_of_getElem? (i := 16) rfl)
theorem qA_417 : Cond.fieldLink RX4 67 "AcousticCamera$PowerMap" "peakCount" "I" ∈ wsA := iA_4 (List.mem_of_getElem? (i := 17) rfl)
theorem qA_418 : Cond.methodLink RX4 27 yX10_narrow ∈ wsA := iA_4 (List.mem_of_getElem? (i := 18) rfl)
theorem qA_419 : Cond.methodLink RX4 36 yX1_cells ∈ wsA := iA_4 (List.mem_of_getElem? (i := 19) rfl)
theorem qA_420 : Cond.methodLink RX4 46 yX8_windowOf ∈ wsA := iA_4 (List.mem_of_getElem? (i := 20) rfl)
theorem qA_421 : Cond.methodLink RX4 52 yX8_blockPowerOf ∈ wsA := iA_4 (List.mem_of_getElem? (i := 21) rfl)
theorem qA_422 : Cond.methodLink RX4 59 yX1_bestIn ∈ wsA := iA_4 (List.mem_of_getElem? (i := 22) rfl)
theorem qA_423 : Cond.methodLink RX4 70 yX4_standsOut ∈ wsA := iA_4 (List.mem_of_getElem? (i := 23) rfl)
theorem qA_424 : Cond.instanceMethod yX4_standsOut ∈ wsA := iA_4 (List.mem_of_getElem? (i := 24) rfl)
theorem qA_425 : Cond.selects RX4 yX4_standsOut yX4_standsOut ∈ wsA := iA_4 (List.mem_of_getElem? (i := 25) rfl)
theorem qA_426 : Cond.initialized RX4 ∈ wsA := iA_4 (List.mem_of_getElem? (i := 26) rfl)
theorem qA_427 : Cond.code yX4_standsOut cX4_standsOut 7 (some .boolean) ∈ wsA := iA_4 (List.mem_of_getElem? (i := 27) rfl)
theorem qA_428 : Cond.fieldLink RX4 85 "AcousticCamera$Grid" "columns" "I" ∈ wsA := iA_4 (List.mem_of_getElem? (i := 28) rfl)
theorem qA_429 : Cond.methodLink RX4 92 yX1_areaAround ∈ wsA := iA_4 (List.mem_of_getElem? (i := 29) rfl)
theorem qA_430 : Cond.methodLink RX4 78 yX10_compare ∈ wsA := iA_4 (List.mem_of_getElem? (i := 30) rfl)
theorem qA_431 : Cond.methodLink RX4 74 yX10_set ∈ wsA := iA_4 (List.mem_of_getElem? (i := 31) rfl)
theorem qA_432 : Cond.instanceMethod yX10_set ∈ wsA := iA_4 (List.mem_of_getElem? (i := 32) rfl)
theorem qA_433 : Cond.selects RX10 yX10_set yX10_set ∈ wsA := iA_4 (List.mem_of_getElem? (i := 33) rfl)
theorem qA_434 : Cond.code yX10_set cX10_set 4 none ∈ wsA := iA_4 (List.mem_of_getElem? (i := 34) rfl)
theorem qA_435 : Cond.methodLink RX10 29 yX10_clear ∈ wsA := iA_4 (List.mem_of_getElem? (i := 35) rfl)
theorem qA_436 : Cond.methodLink RX10 36 yX10_add ∈ wsA := iA_4 (List.mem_of_getElem? (i := 36) rfl)
theorem qA_437 : Cond.code yX4_second cX4_second 4 (some .int) ∈ wsA := iA_4 (List.mem_of_getElem? (i := 37) rfl)
theorem qA_438 : Cond.code yX4_sumIn cX4_sumIn 7 none ∈ wsA := iA_4 (List.mem_of_getElem? (i := 38) rfl)
theorem qA_439 : Cond.methodLink RX4 82 yX10_clear ∈ wsA := iA_4 (List.mem_of_getElem? (i := 39) rfl)
theorem qA_440 : Cond.methodLink RX4 88 yX10_add ∈ wsA := iA_4 (List.mem_of_getElem? (i := 40) rfl)
theorem qA_441 : Cond.code yX4_peakRanked cX4_peakRanked 3 (some .int) ∈ wsA := iA_4 (List.mem_of_getElem? (i := 41) rfl)
theorem qA_442 : Cond.methodLink RX4 96 yX10_ranked ∈ wsA := iA_4 (List.mem_of_getElem? (i := 42) rfl)
theorem qA_443 : Cond.instanceMethod yX10_ranked ∈ wsA := iA_4 (List.mem_of_getElem? (i := 43) rfl)
theorem qA_444 : Cond.selects RX10 yX10_ranked yX10_ranked ∈ wsA := iA_4 (List.mem_of_getElem? (i := 44) rfl)
theorem qA_445 : Cond.code yX10_ranked cX10_ranked 7 (some .int) ∈ wsA := iA_4 (List.mem_of_getElem? (i := 45) rfl)
theorem qA_446 : Cond.methodLink RX10 82 yX10_compare ∈ wsA := iA_4 (List.mem_of_getElem? (i := 46) rfl)
theorem qA_447 : Cond.code yX4_digit cX4_digit 5 (some .int) ∈ wsA := iA_4 (List.mem_of_getElem? (i := 47) rfl)
theorem qA_448 : Cond.methodLink RX4 99 yX10_isZero ∈ wsA := iA_4 (List.mem_of_getElem? (i := 48) rfl)
theorem qA_449 : Cond.instanceMethod yX10_isZero ∈ wsA := iA_4 (List.mem_of_getElem? (i := 49) rfl)
theorem qA_450 : Cond.selects RX10 yX10_isZero yX10_isZero ∈ wsA := iA_4 (List.mem_of_getElem? (i := 50) rfl)
theorem qA_451 : Cond.code yX10_isZero cX10_isZero 5 (some .boolean) ∈ wsA := iA_4 (List.mem_of_getElem? (i := 51) rfl)
theorem qA_452 : Cond.code yX5_init cX5_init 1 none ∈ wsA := iA_4 (List.mem_of_getElem? (i := 52) rfl)
theorem qA_453 : Cond.methodLink RX5 3 objectInit ∈ wsA := iA_4 (List.mem_of_getElem? (i := 53) rfl)
theorem qA_454 : Cond.classLink RX5 9 "[[I" ∈ wsA := iA_4 (List.mem_of_getElem? (i := 54) rfl)
theorem qA_455 : Cond.fieldLink RX5 11 "AcousticCamera$Recorder" "heard" "[[I" ∈ wsA := iA_4 (List.mem_of_getElem? (i := 55) rfl)
theorem qA_456 : Cond.classLink RX5 16 RX7 ∈ wsA := iA_4 (List.mem_of_getElem? (i := 56) rfl)
theorem qA_457 : Cond.instantiable RX7 10 ∈ wsA := iA_4 (List.mem_of_getElem? (i := 57) rfl)
theorem qA_458 : Cond.initialized RX7 ∈ wsA := iA_4 (List.mem_of_getElem? (i := 58) rfl)
theorem qA_459 : Cond.fieldLink RX5 19 "AcousticCamera$Recorder" "probe" "LAcousticCamera$Source;" ∈ wsA := iA_4 (List.mem_of_getElem? (i := 59) rfl)
theorem qA_460 : Cond.instanceMethod yX7_init ∈ wsA := iA_4 (List.mem_of_getElem? (i := 60) rfl)
theorem qA_461 : Cond.code yX7_init cX7_init 1 none ∈ wsA := iA_4 (List.mem_of_getElem? (i := 61) rfl)
theorem qA_462 : Cond.methodLink RX7 3 objectInit ∈ wsA := iA_4 (List.mem_of_getElem? (i := 62) rfl)
theorem qA_463 : Cond.code yX5_record cX5_record 6 none ∈ wsA := iA_4 (List.mem_of_getElem? (i := 63) rfl)
theorem qA_464 : Cond.fieldLink RX5 26 "AcousticCamera$Scene" "sourceCount" "I" ∈ wsA := iA_4 (List.mem_of_getElem? (i := 64) rfl)
theorem qA_465 : Cond.fieldLink RX5 32 "AcousticCamera$State" "on" "[Z" ∈ wsA := iA_4 (List.mem_of_getElem? (i := 65) rfl)
theorem qA_466 : Cond.fieldLink RX5 38 "AcousticCamera$Scene" "sources" "[LAcousticCamera$Source;" ∈ wsA := iA_4 (List.mem_of_getElem? (i := 66) rfl)
theorem qA_467 : Cond.fieldLink RX5 42 "AcousticCamera$Scene" "samples" "I" ∈ wsA := iA_4 (List.mem_of_getElem? (i := 67) rfl)
theorem qA_468 : Cond.fieldLink RX5 45 "AcousticCamera$State" "x" "[I" ∈ wsA := iA_4 (List.mem_of_getElem? (i := 68) rfl)
theorem qA_469 : Cond.fieldLink RX5 49 "AcousticCamera$State" "vx" "[I" ∈ wsA := iA_4 (List.mem_of_getElem? (i := 69) rfl)
theorem qA_470 : Cond.fieldLink RX5 56 "AcousticCamera$State" "y" "[I" ∈ wsA := iA_4 (List.mem_of_getElem? (i := 70) rfl)
theorem qA_471 : Cond.fieldLink RX5 59 "AcousticCamera$State" "vy" "[I" ∈ wsA := iA_4 (List.mem_of_getElem? (i := 71) rfl)
theorem qA_472 : Cond.methodLink RX5 23 yX5_silence ∈ wsA := iA_4 (List.mem_of_getElem? (i := 72) rfl)
theorem qA_473 : Cond.instanceMethod yX5_silence ∈ wsA := iA_4 (List.mem_of_getElem? (i := 73) rfl)
theorem qA_474 : Cond.selects RX5 yX5_silence yX5_silence ∈ wsA := iA_4 (List.mem_of_getElem? (i := 74) rfl)
theorem qA_475 : Cond.initialized RX5 ∈ wsA := iA_4 (List.mem_of_getElem? (i := 75) rfl)
theorem qA_476 : Cond.code yX5_silence cX5_silence 2 none ∈ wsA := iA_4 (List.mem_of_getElem? (i := 76) rfl)
theorem qA_477 : Cond.methodLink RX5 92 yJ7_fill_53178 ∈ wsA := iA_4 (List.mem_of_getElem? (i := 77) rfl)
theorem qA_478 : Cond.static yJ7_fill_53178 ∈ wsA := iA_4 (List.mem_of_getElem? (i := 78) rfl)
theorem qA_479 : Cond.initialized RJ7 ∈ wsA := iA_4 (List.mem_of_getElem? (i := 79) rfl)
theorem qA_480 : Cond.code yJ7_fill_53178 cJ7_fill_53178 4 none ∈ wsA := iA_4 (List.mem_of_getElem? (i := 80) rfl)
theorem qA_481 : Cond.static yX11_moved ∈ wsA := iA_4 (List.mem_of_getElem? (i := 81) rfl)
theorem qA_482 : Cond.code yX11_moved cX11_moved 3 (some .int) ∈ wsA := iA_4 (List.mem_of_getElem? (i := 82) rfl)
theorem qA_483 : Cond.methodLink RX5 62 yX5_hear ∈ wsA := iA_4 (List.mem_of_getElem? (i := 83) rfl)
theorem qA_484 : Cond.instanceMethod yX5_hear ∈ wsA := iA_4 (List.mem_of_getElem? (i := 84) rfl)
theorem qA_485 : Cond.selects RX5 yX5_hear yX5_hear ∈ wsA := iA_4 (List.mem_of_getElem? (i := 85) rfl)
theorem qA_486 : Cond.code yX5_hear cX5_hear 11 none ∈ wsA := iA_4 (List.mem_of_getElem? (i := 86) rfl)
theorem qA_487 : Cond.fieldLink RX5 98 "AcousticCamera$Scene" "micCount" "I" ∈ wsA := iA_4 (List.mem_of_getElem? (i := 87) rfl)
theorem qA_488 : Cond.fieldLink RX5 101 "AcousticCamera$Scene" "mics" "[LAcousticCamera$Mic;" ∈ wsA := iA_4 (List.mem_of_getElem? (i := 88) rfl)
theorem qA_489 : Cond.fieldLink RX5 113 "AcousticCamera$Scene" "wallCount" "I" ∈ wsA := iA_4 (List.mem_of_getElem? (i := 89) rfl)
theorem qA_490 : Cond.fieldLink RX5 116 "AcousticCamera$Scene" "walls" "[I" ∈ wsA := iA_4 (List.mem_of_getElem? (i := 90) rfl)
theorem qA_491 : Cond.fieldLink RX5 119 "AcousticCamera$Scene" "percents" "[I" ∈ wsA := iA_4 (List.mem_of_getElem? (i := 91) rfl)
theorem qA_492 : Cond.methodLink RX5 105 yX6_delayFrom ∈ wsA := iA_4 (List.mem_of_getElem? (i := 92) rfl)
theorem qA_493 : Cond.instanceMethod yX6_delayFrom ∈ wsA := iA_4 (List.mem_of_getElem? (i := 93) rfl)
theorem qA_494 : Cond.selects RX6 yX6_delayFrom yX6_delayFrom ∈ wsA := iA_4 (List.mem_of_getElem? (i := 94) rfl)
theorem qA_495 : Cond.code yX6_delayFrom cX6_delayFrom 7 (some .int) ∈ wsA := iA_4 (List.mem_of_getElem? (i := 95) rfl)
theorem qA_496 : Cond.fieldLink RX6 72 "AcousticCamera$Mic" "x" "I" ∈ wsA := iA_4 (List.mem_of_getElem? (i := 96) rfl)
theorem qA_497 : Cond.fieldLink RX6 75 "AcousticCamera$Mic" "y" "I" ∈ wsA := iA_4 (List.mem_of_getElem? (i := 97) rfl)
theorem qA_498 : Cond.fieldLink RX6 78 "AcousticCamera$Scene" "distance" "I" ∈ wsA := iA_4 (List.mem_of_getElem? (i := 98) rfl)
theorem qA_499 : Cond.fieldLink RX6 85 "AcousticCamera$Scene" "step" "I" ∈ wsA := iA_4 (List.mem_of_getElem? (i := 99) rfl)
theorem qA_500 : Cond.static yX11_root ∈ wsA := iA_5 (List.mem_of_getElem? (i := 0) rfl)
theorem qA_501 : Cond.code yX11_root cX11_root 4 (some .int) ∈ wsA := iA_5 (List.mem_of_getElem? (i := 1) rfl)
theorem qA_502 : Cond.methodLink RX5 109 yX5_arriving ∈ wsA := iA_5 (List.mem_of_getElem? (i := 2) rfl)
theorem qA_503 : Cond.static yX5_arriving ∈ wsA := iA_5 (List.mem_of_getElem? (i := 3) rfl)
theorem qA_504 : Cond.code yX5_arriving cX5_arriving 5 (some .int) ∈ wsA := iA_5 (List.mem_of_getElem? (i := 4) rfl)
theorem qA_505 : Cond.fieldLink RX5 125 "AcousticCamera$Scene" "fade" "I" ∈ wsA := iA_5 (List.mem_of_getElem? (i := 5) rfl)
theorem qA_506 : Cond.methodLink RX5 122 yX7_valueAt ∈ wsA := iA_5 (List.mem_of_getElem? (i := 6) rfl)
theorem qA_507 : Cond.instanceMethod yX7_valueAt ∈ wsA := iA_5 (List.mem_of_getElem? (i := 7) rfl)
theorem qA_508 : Cond.selects RX7 yX7_valueAt yX7_valueAt ∈ wsA := iA_5 (List.mem_of_getElem? (i := 8) rfl)
theorem qA_509 : Cond.code yX7_valueAt cX7_valueAt 3 (some .int) ∈ wsA := iA_5 (List.mem_of_getElem? (i := 9) rfl)
theorem qA_510 : Cond.fieldLink RX7 9 "AcousticCamera$Source" "from" "I" ∈ wsA := iA_5 (List.mem_of_getElem? (i := 10) rfl)
theorem qA_511 : Cond.fieldLink RX7 15 "AcousticCamera$Source" "phase" "I" ∈ wsA := iA_5 (List.mem_of_getElem? (i := 11) rfl)
theorem qA_512 : Cond.fieldLink RX7 18 "AcousticCamera$Source" "period" "I" ∈ wsA := iA_5 (List.mem_of_getElem? (i := 12) rfl)
theorem qA_513 : Cond.fieldLink RX7 25 "AcousticCamera$Source" "shape" "I" ∈ wsA := iA_5 (List.mem_of_getElem? (i := 13) rfl)
theorem qA_514 : Cond.fieldLink RX7 28 "AcousticCamera$Source" "amp" "I" ∈ wsA := iA_5 (List.mem_of_getElem? (i := 14) rfl)
theorem qA_515 : Cond.methodLink RX7 31 Lib.Math.abs.name ∈ wsA := iA_5 (List.mem_of_getElem? (i := 15) rfl)
theorem qA_516 : Cond.static Lib.Math.abs.name ∈ wsA := iA_5 (List.mem_of_getElem? (i := 16) rfl)
theorem qA_517 : Cond.code Lib.Math.abs.name Lib.Math.abs.code 1 (some .int) ∈ wsA := iA_5 (List.mem_of_getElem? (i := 17) rfl)
theorem qA_518 : Cond.constant RX7 41 (104729) ∈ wsA := iA_5 (List.mem_of_getElem? (i := 18) rfl)
theorem qA_519 : Cond.methodLink RX5 66 yX5_finish ∈ wsA := iA_5 (List.mem_of_getElem? (i := 19) rfl)
theorem qA_520 : Cond.instanceMethod yX5_finish ∈ wsA := iA_5 (List.mem_of_getElem? (i := 20) rfl)
theorem qA_521 : Cond.selects RX5 yX5_finish yX5_finish ∈ wsA := iA_5 (List.mem_of_getElem? (i := 21) rfl)
theorem qA_522 : Cond.code yX5_finish cX5_finish 6 none ∈ wsA := iA_5 (List.mem_of_getElem? (i := 22) rfl)
theorem qA_523 : Cond.fieldLink RX5 132 "AcousticCamera$State" "samples" "LAcousticCamera$Wides;" ∈ wsA := iA_5 (List.mem_of_getElem? (i := 23) rfl)
theorem qA_524 : Cond.fieldLink RX5 140 "AcousticCamera$Scene" "tapCount" "I" ∈ wsA := iA_5 (List.mem_of_getElem? (i := 24) rfl)
theorem qA_525 : Cond.fieldLink RX5 154 "AcousticCamera$Scene" "limit" "I" ∈ wsA := iA_5 (List.mem_of_getElem? (i := 25) rfl)
theorem qA_526 : Cond.methodLink RX5 157 Lib.Math.min.name ∈ wsA := iA_5 (List.mem_of_getElem? (i := 26) rfl)
theorem qA_527 : Cond.methodLink RX5 162 Lib.Math.max.name ∈ wsA := iA_5 (List.mem_of_getElem? (i := 27) rfl)
theorem qA_528 : Cond.fieldLink RX5 169 "AcousticCamera$State" "timesCleaned" "I" ∈ wsA := iA_5 (List.mem_of_getElem? (i := 28) rfl)
theorem qA_529 : Cond.methodLink RX5 135 yX10_narrow ∈ wsA := iA_5 (List.mem_of_getElem? (i := 29) rfl)
theorem qA_530 : Cond.methodLink RX5 143 yX5_filtered ∈ wsA := iA_5 (List.mem_of_getElem? (i := 30) rfl)
theorem qA_531 : Cond.instanceMethod yX5_filtered ∈ wsA := iA_5 (List.mem_of_getElem? (i := 31) rfl)
theorem qA_532 : Cond.selects RX5 yX5_filtered yX5_filtered ∈ wsA := iA_5 (List.mem_of_getElem? (i := 32) rfl)
theorem qA_533 : Cond.code yX5_filtered cX5_filtered 6 (some .int) ∈ wsA := iA_5 (List.mem_of_getElem? (i := 33) rfl)
theorem qA_534 : Cond.fieldLink RX5 172 "AcousticCamera$Scene" "taps" "[I" ∈ wsA := iA_5 (List.mem_of_getElem? (i := 34) rfl)
theorem qA_535 : Cond.methodLink RX5 147 yX5_raw ∈ wsA := iA_5 (List.mem_of_getElem? (i := 35) rfl)
theorem qA_536 : Cond.instanceMethod yX5_raw ∈ wsA := iA_5 (List.mem_of_getElem? (i := 36) rfl)
theorem qA_537 : Cond.selects RX5 yX5_raw yX5_raw ∈ wsA := iA_5 (List.mem_of_getElem? (i := 37) rfl)
theorem qA_538 : Cond.code yX5_raw cX5_raw 5 (some .int) ∈ wsA := iA_5 (List.mem_of_getElem? (i := 38) rfl)
theorem qA_539 : Cond.fieldLink RX5 175 "AcousticCamera$Mic" "offset" "I" ∈ wsA := iA_5 (List.mem_of_getElem? (i := 39) rfl)
theorem qA_540 : Cond.fieldLink RX5 180 "AcousticCamera$Mic" "gain" "I" ∈ wsA := iA_5 (List.mem_of_getElem? (i := 40) rfl)
theorem qA_541 : Cond.methodLink RX5 150 yX8_placeOf ∈ wsA := iA_5 (List.mem_of_getElem? (i := 41) rfl)
theorem qA_542 : Cond.methodLink RX5 165 yX10_put ∈ wsA := iA_5 (List.mem_of_getElem? (i := 42) rfl)
theorem qA_543 : Cond.instanceMethod yX10_put ∈ wsA := iA_5 (List.mem_of_getElem? (i := 43) rfl)
theorem qA_544 : Cond.selects RX10 yX10_put yX10_put ∈ wsA := iA_5 (List.mem_of_getElem? (i := 44) rfl)
theorem qA_545 : Cond.code yX10_put cX10_put 3 none ∈ wsA := iA_5 (List.mem_of_getElem? (i := 45) rfl)
theorem qA_546 : Cond.code yX5_recordPoint cX5_recordPoint 8 none ∈ wsA := iA_5 (List.mem_of_getElem? (i := 46) rfl)
theorem qA_547 : Cond.fieldLink RX5 70 "AcousticCamera$Source" "shape" "I" ∈ wsA := iA_5 (List.mem_of_getElem? (i := 47) rfl)
theorem qA_548 : Cond.fieldLink RX5 73 "AcousticCamera$Source" "amp" "I" ∈ wsA := iA_5 (List.mem_of_getElem? (i := 48) rfl)
theorem qA_549 : Cond.fieldLink RX5 76 "AcousticCamera$Source" "period" "I" ∈ wsA := iA_5 (List.mem_of_getElem? (i := 49) rfl)
theorem qA_550 : Cond.fieldLink RX5 79 "AcousticCamera$Scene" "grid" "LAcousticCamera$Grid;" ∈ wsA := iA_5 (List.mem_of_getElem? (i := 50) rfl)
theorem qA_551 : Cond.methodLink RX5 83 yX1_centreX ∈ wsA := iA_5 (List.mem_of_getElem? (i := 51) rfl)
theorem qA_552 : Cond.instanceMethod yX1_centreX ∈ wsA := iA_5 (List.mem_of_getElem? (i := 52) rfl)
theorem qA_553 : Cond.selects RX1 yX1_centreX yX1_centreX ∈ wsA := iA_5 (List.mem_of_getElem? (i := 53) rfl)
theorem qA_554 : Cond.methodLink RX5 89 yX1_centreY ∈ wsA := iA_5 (List.mem_of_getElem? (i := 54) rfl)
theorem qA_555 : Cond.instanceMethod yX1_centreY ∈ wsA := iA_5 (List.mem_of_getElem? (i := 55) rfl)
theorem qA_556 : Cond.selects RX1 yX1_centreY yX1_centreY ∈ wsA := iA_5 (List.mem_of_getElem? (i := 56) rfl)
theorem qA_557 : Cond.code yX6_init cX6_init 2 none ∈ wsA := iA_5 (List.mem_of_getElem? (i := 57) rfl)
theorem qA_558 : Cond.methodLink RX6 3 objectInit ∈ wsA := iA_5 (List.mem_of_getElem? (i := 58) rfl)
theorem qA_559 : Cond.classLink RX6 9 RX2 ∈ wsA := iA_5 (List.mem_of_getElem? (i := 59) rfl)
theorem qA_560 : Cond.fieldLink RX6 11 "AcousticCamera$Scene" "mics" "[LAcousticCamera$Mic;" ∈ wsA := iA_5 (List.mem_of_getElem? (i := 60) rfl)
theorem qA_561 : Cond.classLink RX6 17 RX1 ∈ wsA := iA_5 (List.mem_of_getElem? (i := 61) rfl)
theorem qA_562 : Cond.instantiable RX1 9 ∈ wsA := iA_5 (List.mem_of_getElem? (i := 62) rfl)
theorem qA_563 : Cond.classLink RX6 24 RX7 ∈ wsA := iA_5 (List.mem_of_getElem? (i := 63) rfl)
theorem qA_564 : Cond.fieldLink RX6 26 "AcousticCamera$Scene" "sources" "[LAcousticCamera$Source;" ∈ wsA := iA_5 (List.mem_of_getElem? (i := 64) rfl)
theorem qA_565 : Cond.fieldLink RX6 30 "AcousticCamera$Scene" "walls" "[I" ∈ wsA := iA_5 (List.mem_of_getElem? (i := 65) rfl)
theorem qA_566 : Cond.fieldLink RX6 34 "AcousticCamera$Scene" "percents" "[I" ∈ wsA := iA_5 (List.mem_of_getElem? (i := 66) rfl)
theorem qA_567 : Cond.classLink RX6 43 "[[I" ∈ wsA := iA_5 (List.mem_of_getElem? (i := 67) rfl)
theorem qA_568 : Cond.fieldLink RX6 45 "AcousticCamera$Scene" "delays" "[[I" ∈ wsA := iA_5 (List.mem_of_getElem? (i := 68) rfl)
theorem qA_569 : Cond.instantiable RX2 4 ∈ wsA := iA_5 (List.mem_of_getElem? (i := 69) rfl)
theorem qA_570 : Cond.initialized RX2 ∈ wsA := iA_5 (List.mem_of_getElem? (i := 70) rfl)
theorem qA_571 : Cond.instanceMethod yX1_init ∈ wsA := iA_5 (List.mem_of_getElem? (i := 71) rfl)
theorem qA_572 : Cond.instanceMethod yX2_init ∈ wsA := iA_5 (List.mem_of_getElem? (i := 72) rfl)
theorem qA_573 : Cond.code yX6_delaysFrom cX6_delaysFrom 5 none ∈ wsA := iA_5 (List.mem_of_getElem? (i := 73) rfl)
theorem qA_574 : Cond.methodLink RX6 92 yX6_delayFrom ∈ wsA := iA_5 (List.mem_of_getElem? (i := 74) rfl)
theorem qA_575 : Cond.code yX6_measureDelays cX6_measureDelays 2 none ∈ wsA := iA_5 (List.mem_of_getElem? (i := 75) rfl)
theorem qA_576 : Cond.methodLink RX6 96 yX1_cells ∈ wsA := iA_5 (List.mem_of_getElem? (i := 76) rfl)
theorem qA_577 : Cond.methodLink RX6 100 yX1_centreX ∈ wsA := iA_5 (List.mem_of_getElem? (i := 77) rfl)
theorem qA_578 : Cond.methodLink RX6 103 yX1_centreY ∈ wsA := iA_5 (List.mem_of_getElem? (i := 78) rfl)
theorem qA_579 : Cond.methodLink RX6 106 yX6_delaysFrom ∈ wsA := iA_5 (List.mem_of_getElem? (i := 79) rfl)
theorem qA_580 : Cond.instanceMethod yX6_delaysFrom ∈ wsA := iA_5 (List.mem_of_getElem? (i := 80) rfl)
theorem qA_581 : Cond.selects RX6 yX6_delaysFrom yX6_delaysFrom ∈ wsA := iA_5 (List.mem_of_getElem? (i := 81) rfl)
theorem qA_582 : Cond.code yX8_init cX8_init 1 none ∈ wsA := iA_5 (List.mem_of_getElem? (i := 82) rfl)
theorem qA_583 : Cond.methodLink RX8 3 objectInit ∈ wsA := iA_5 (List.mem_of_getElem? (i := 83) rfl)
theorem qA_584 : Cond.arrayClass .boolean ∈ wsA := iA_5 (List.mem_of_getElem? (i := 84) rfl)
theorem qA_585 : Cond.fieldLink RX8 19 "AcousticCamera$State" "on" "[Z" ∈ wsA := iA_5 (List.mem_of_getElem? (i := 85) rfl)
theorem qA_586 : Cond.fieldLink RX8 22 "AcousticCamera$State" "x" "[I" ∈ wsA := iA_5 (List.mem_of_getElem? (i := 86) rfl)
theorem qA_587 : Cond.fieldLink RX8 25 "AcousticCamera$State" "y" "[I" ∈ wsA := iA_5 (List.mem_of_getElem? (i := 87) rfl)
theorem qA_588 : Cond.fieldLink RX8 28 "AcousticCamera$State" "vx" "[I" ∈ wsA := iA_5 (List.mem_of_getElem? (i := 88) rfl)
theorem qA_589 : Cond.fieldLink RX8 31 "AcousticCamera$State" "vy" "[I" ∈ wsA := iA_5 (List.mem_of_getElem? (i := 89) rfl)
theorem qA_590 : Cond.classLink RX8 34 RX10 ∈ wsA := iA_5 (List.mem_of_getElem? (i := 90) rfl)
theorem qA_591 : Cond.methodLink RX8 36 yX10_init ∈ wsA := iA_5 (List.mem_of_getElem? (i := 91) rfl)
theorem qA_592 : Cond.code yX8_begin cX8_begin 4 none ∈ wsA := iA_5 (List.mem_of_getElem? (i := 92) rfl)
theorem qA_593 : Cond.fieldLink RX8 46 "AcousticCamera$Scene" "micCount" "I" ∈ wsA := iA_5 (List.mem_of_getElem? (i := 93) rfl)
theorem qA_594 : Cond.fieldLink RX8 53 "AcousticCamera$Scene" "samples" "I" ∈ wsA := iA_5 (List.mem_of_getElem? (i := 94) rfl)
theorem qA_595 : Cond.fieldLink RX8 58 "AcousticCamera$Scene" "shadeCount" "I" ∈ wsA := iA_5 (List.mem_of_getElem? (i := 95) rfl)
theorem qA_596 : Cond.fieldLink RX8 61 "AcousticCamera$Scene" "shades" "[I" ∈ wsA := iA_5 (List.mem_of_getElem? (i := 96) rfl)
theorem qA_597 : Cond.fieldLink RX8 64 "AcousticCamera$Scene" "sources" "[LAcousticCamera$Source;" ∈ wsA := iA_5 (List.mem_of_getElem? (i := 97) rfl)
theorem qA_598 : Cond.fieldLink RX8 68 "AcousticCamera$Source" "off" "Z" ∈ wsA := iA_5 (List.mem_of_getElem? (i := 98) rfl)
theorem qA_599 : Cond.fieldLink RX8 74 "AcousticCamera$Source" "x" "I" ∈ wsA := iA_5 (List.mem_of_getElem? (i := 99) rfl)
theorem qA_600 : Cond.fieldLink RX8 76 "AcousticCamera$Source" "y" "I" ∈ wsA := iA_6 (List.mem_of_getElem? (i := 0) rfl)
theorem qA_601 : Cond.fieldLink RX8 78 "AcousticCamera$Source" "vx" "I" ∈ wsA := iA_6 (List.mem_of_getElem? (i := 1) rfl)
theorem qA_602 : Cond.fieldLink RX8 80 "AcousticCamera$Source" "vy" "I" ∈ wsA := iA_6 (List.mem_of_getElem? (i := 2) rfl)
theorem qA_603 : Cond.code yX8_copyFrom cX8_copyFrom 3 none ∈ wsA := iA_6 (List.mem_of_getElem? (i := 3) rfl)
theorem qA_604 : Cond.fieldLink RX8 82 "AcousticCamera$State" "timesCleaned" "I" ∈ wsA := iA_6 (List.mem_of_getElem? (i := 4) rfl)
theorem qA_605 : Cond.methodLink RX8 85 yX10_copyFrom ∈ wsA := iA_6 (List.mem_of_getElem? (i := 5) rfl)
theorem qA_606 : Cond.instanceMethod yX10_copyFrom ∈ wsA := iA_6 (List.mem_of_getElem? (i := 6) rfl)
theorem qA_607 : Cond.selects RX10 yX10_copyFrom yX10_copyFrom ∈ wsA := iA_6 (List.mem_of_getElem? (i := 7) rfl)
theorem qA_608 : Cond.code yX10_copyFrom cX10_copyFrom 3 none ∈ wsA := iA_6 (List.mem_of_getElem? (i := 8) rfl)
theorem qA_609 : Cond.methodLink RX10 43 Lib.Math.min.name ∈ wsA := iA_6 (List.mem_of_getElem? (i := 9) rfl)
theorem qA_610 : Cond.methodLink RX10 46 arraycopyName ∈ wsA := iA_6 (List.mem_of_getElem? (i := 10) rfl)
theorem qA_611 : Cond.native arraycopyName ∈ wsA := iA_6 (List.mem_of_getElem? (i := 11) rfl)
theorem qA_612 : Cond.static arraycopyName ∈ wsA := iA_6 (List.mem_of_getElem? (i := 12) rfl)
theorem qA_613 : Cond.initialized "java/lang/System" ∈ wsA := iA_6 (List.mem_of_getElem? (i := 13) rfl)
theorem qA_614 : Cond.code yX8_activeMics cX8_activeMics 3 (some .int) ∈ wsA := iA_6 (List.mem_of_getElem? (i := 14) rfl)
theorem qA_615 : Cond.code yX8_activeWeight cX8_activeWeight 3 (some .int) ∈ wsA := iA_6 (List.mem_of_getElem? (i := 15) rfl)
theorem qA_616 : Cond.code yX8_smallestDelay cX8_smallestDelay 4 (some .int) ∈ wsA := iA_6 (List.mem_of_getElem? (i := 16) rfl)
theorem qA_617 : Cond.code yX8_powerOf cX8_powerOf 4 none ∈ wsA := iA_6 (List.mem_of_getElem? (i := 17) rfl)
theorem qA_618 : Cond.methodLink RX8 128 yX8_blockPowerOf ∈ wsA := iA_6 (List.mem_of_getElem? (i := 18) rfl)
theorem qA_619 : Cond.code yX8_productSum cX8_productSum 7 none ∈ wsA := iA_6 (List.mem_of_getElem? (i := 19) rfl)
theorem qA_620 : Cond.code yX8_subtractBeam cX8_subtractBeam 8 none ∈ wsA := iA_6 (List.mem_of_getElem? (i := 20) rfl)
theorem qA_621 : Cond.methodLink RX8 147 yX8_activeWeight ∈ wsA := iA_6 (List.mem_of_getElem? (i := 21) rfl)
theorem qA_622 : Cond.instanceMethod yX8_activeWeight ∈ wsA := iA_6 (List.mem_of_getElem? (i := 22) rfl)
theorem qA_623 : Cond.selects RX8 yX8_activeWeight yX8_activeWeight ∈ wsA := iA_6 (List.mem_of_getElem? (i := 23) rfl)
theorem qA_624 : Cond.methodLink RX8 151 yX10_multiply ∈ wsA := iA_6 (List.mem_of_getElem? (i := 24) rfl)
theorem qA_625 : Cond.instanceMethod yX10_multiply ∈ wsA := iA_6 (List.mem_of_getElem? (i := 25) rfl)
theorem qA_626 : Cond.selects RX10 yX10_multiply yX10_multiply ∈ wsA := iA_6 (List.mem_of_getElem? (i := 26) rfl)
theorem qA_627 : Cond.code yX10_multiply cX10_multiply 4 none ∈ wsA := iA_6 (List.mem_of_getElem? (i := 27) rfl)
theorem qA_628 : Cond.methodLink RX8 154 yX10_add ∈ wsA := iA_6 (List.mem_of_getElem? (i := 28) rfl)
theorem qA_629 : Cond.code yX9_init cX9_init 1 none ∈ wsA := iA_6 (List.mem_of_getElem? (i := 29) rfl)
theorem qA_630 : Cond.methodLink RX9 3 objectInit ∈ wsA := iA_6 (List.mem_of_getElem? (i := 30) rfl)
theorem qA_631 : Cond.code yX9_addWord cX9_addWord 3 none ∈ wsA := iA_6 (List.mem_of_getElem? (i := 31) rfl)
theorem qA_632 : Cond.fieldLink RX9 24 "AcousticCamera$Text" "length" "I" ∈ wsA := iA_6 (List.mem_of_getElem? (i := 32) rfl)
theorem qA_633 : Cond.code yX10_value cX10_value 5 (some .long) ∈ wsA := iA_6 (List.mem_of_getElem? (i := 33) rfl)
theorem qA_634 : Cond.code yX10_ratio cX10_ratio 6 (some .float) ∈ wsA := iA_6 (List.mem_of_getElem? (i := 34) rfl)
theorem qA_635 : Cond.constantFloat RX10 81 (1300234240) ∈ wsA := iA_6 (List.mem_of_getElem? (i := 35) rfl)
theorem qA_636 : Cond.methodLink RX10 73 yX10_leading ∈ wsA := iA_6 (List.mem_of_getElem? (i := 36) rfl)
theorem qA_637 : Cond.instanceMethod yX10_leading ∈ wsA := iA_6 (List.mem_of_getElem? (i := 37) rfl)
theorem qA_638 : Cond.selects RX10 yX10_leading yX10_leading ∈ wsA := iA_6 (List.mem_of_getElem? (i := 38) rfl)
theorem qA_639 : Cond.code yX10_leading cX10_leading 7 (some .float) ∈ wsA := iA_6 (List.mem_of_getElem? (i := 39) rfl)
theorem qA_640 : Cond.methodLink RX10 77 yX10_partsBelow ∈ wsA := iA_6 (List.mem_of_getElem? (i := 40) rfl)
theorem qA_641 : Cond.instanceMethod yX10_partsBelow ∈ wsA := iA_6 (List.mem_of_getElem? (i := 41) rfl)
theorem qA_642 : Cond.selects RX10 yX10_partsBelow yX10_partsBelow ∈ wsA := iA_6 (List.mem_of_getElem? (i := 42) rfl)
theorem qA_643 : Cond.code yX10_partsBelow cX10_partsBelow 3 (some .int) ∈ wsA := iA_6 (List.mem_of_getElem? (i := 43) rfl)
theorem qA_645 : Cond.methodLink RX11 1 objectInit ∈ wsA := iA_6 (List.mem_of_getElem? (i := 45) rfl)
theorem qA_646 : Cond.classLink RX11 7 RX9 ∈ wsA := iA_6 (List.mem_of_getElem? (i := 46) rfl)
theorem qA_647 : Cond.instantiable RX9 6 ∈ wsA := iA_6 (List.mem_of_getElem? (i := 47) rfl)
theorem qA_648 : Cond.fieldLink RX11 10 "AcousticCamera" "text" "LAcousticCamera$Text;" ∈ wsA := iA_6 (List.mem_of_getElem? (i := 48) rfl)
theorem qA_649 : Cond.classLink RX11 16 RX3 ∈ wsA := iA_6 (List.mem_of_getElem? (i := 49) rfl)
theorem qA_650 : Cond.instantiable RX3 4 ∈ wsA := iA_6 (List.mem_of_getElem? (i := 50) rfl)
theorem qA_651 : Cond.fieldLink RX11 21 "AcousticCamera" "parser" "LAcousticCamera$Parser;" ∈ wsA := iA_6 (List.mem_of_getElem? (i := 51) rfl)
theorem qA_652 : Cond.classLink RX11 25 RX5 ∈ wsA := iA_6 (List.mem_of_getElem? (i := 52) rfl)
theorem qA_653 : Cond.instantiable RX5 2 ∈ wsA := iA_6 (List.mem_of_getElem? (i := 53) rfl)
theorem qA_654 : Cond.fieldLink RX11 28 "AcousticCamera" "recorder" "LAcousticCamera$Recorder;" ∈ wsA := iA_6 (List.mem_of_getElem? (i := 54) rfl)
theorem qA_655 : Cond.classLink RX11 32 RX0 ∈ wsA := iA_6 (List.mem_of_getElem? (i := 55) rfl)
theorem qA_656 : Cond.instantiable RX0 1 ∈ wsA := iA_6 (List.mem_of_getElem? (i := 56) rfl)
theorem qA_657 : Cond.fieldLink RX11 35 "AcousticCamera" "blocks" "LAcousticCamera$Blocks;" ∈ wsA := iA_6 (List.mem_of_getElem? (i := 57) rfl)
theorem qA_658 : Cond.classLink RX11 39 RX4 ∈ wsA := iA_6 (List.mem_of_getElem? (i := 58) rfl)
theorem qA_659 : Cond.instantiable RX4 6 ∈ wsA := iA_6 (List.mem_of_getElem? (i := 59) rfl)
theorem qA_660 : Cond.fieldLink RX11 42 "AcousticCamera" "powers" "LAcousticCamera$PowerMap;" ∈ wsA := iA_6 (List.mem_of_getElem? (i := 60) rfl)
theorem qA_661 : Cond.fieldLink RX11 46 "AcousticCamera" "trialPowers" "LAcousticCamera$PowerMap;" ∈ wsA := iA_6 (List.mem_of_getElem? (i := 61) rfl)
theorem qA_662 : Cond.classLink RX11 49 RX8 ∈ wsA := iA_6 (List.mem_of_getElem? (i := 62) rfl)
theorem qA_663 : Cond.instantiable RX8 12 ∈ wsA := iA_6 (List.mem_of_getElem? (i := 63) rfl)
theorem qA_664 : Cond.fieldLink RX11 52 "AcousticCamera" "now" "LAcousticCamera$State;" ∈ wsA := iA_6 (List.mem_of_getElem? (i := 64) rfl)
theorem qA_665 : Cond.fieldLink RX11 56 "AcousticCamera" "trial" "LAcousticCamera$State;" ∈ wsA := iA_6 (List.mem_of_getElem? (i := 65) rfl)
theorem qA_666 : Cond.fieldLink RX11 59 "AcousticCamera" "past" "[LAcousticCamera$State;" ∈ wsA := iA_6 (List.mem_of_getElem? (i := 66) rfl)
theorem qA_667 : Cond.fieldLink RX11 63 "AcousticCamera" "slots" "[LAcousticCamera$State;" ∈ wsA := iA_6 (List.mem_of_getElem? (i := 67) rfl)
theorem qA_668 : Cond.fieldLink RX11 66 "AcousticCamera" "saved" "[Z" ∈ wsA := iA_6 (List.mem_of_getElem? (i := 68) rfl)
theorem qA_669 : Cond.fieldLink RX11 70 "AcousticCamera" "pointDelays" "[I" ∈ wsA := iA_6 (List.mem_of_getElem? (i := 69) rfl)
theorem qA_670 : Cond.classLink RX11 74 RX10 ∈ wsA := iA_6 (List.mem_of_getElem? (i := 70) rfl)
theorem qA_671 : Cond.fieldLink RX11 79 "AcousticCamera" "numbers" "LAcousticCamera$Wides;" ∈ wsA := iA_6 (List.mem_of_getElem? (i := 71) rfl)
theorem qA_672 : Cond.fieldLink RX11 83 "AcousticCamera" "mapText" "[I" ∈ wsA := iA_6 (List.mem_of_getElem? (i := 72) rfl)
theorem qA_673 : Cond.classLink RX11 86 RX6 ∈ wsA := iA_6 (List.mem_of_getElem? (i := 73) rfl)
theorem qA_674 : Cond.instantiable RX6 18 ∈ wsA := iA_6 (List.mem_of_getElem? (i := 74) rfl)
theorem qA_675 : Cond.fieldLink RX11 89 "AcousticCamera" "scene" "LAcousticCamera$Scene;" ∈ wsA := iA_6 (List.mem_of_getElem? (i := 75) rfl)
theorem qA_676 : Cond.fieldLink RX11 93 "AcousticCamera" "spare" "LAcousticCamera$Scene;" ∈ wsA := iA_6 (List.mem_of_getElem? (i := 76) rfl)
theorem qA_677 : Cond.instanceMethod yX9_init ∈ wsA := iA_6 (List.mem_of_getElem? (i := 77) rfl)
theorem qA_678 : Cond.methodLink RX11 18 yX3_init ∈ wsA := iA_6 (List.mem_of_getElem? (i := 78) rfl)
theorem qA_679 : Cond.instanceMethod yX3_init ∈ wsA := iA_6 (List.mem_of_getElem? (i := 79) rfl)
theorem qA_680 : Cond.instanceMethod yX5_init ∈ wsA := iA_6 (List.mem_of_getElem? (i := 80) rfl)
theorem qA_681 : Cond.instanceMethod yX0_init ∈ wsA := iA_6 (List.mem_of_getElem? (i := 81) rfl)
theorem qA_682 : Cond.instanceMethod yX4_init ∈ wsA := iA_6 (List.mem_of_getElem? (i := 82) rfl)
theorem qA_683 : Cond.instanceMethod yX8_init ∈ wsA := iA_6 (List.mem_of_getElem? (i := 83) rfl)
theorem qA_684 : Cond.methodLink RX11 76 yX10_init ∈ wsA := iA_6 (List.mem_of_getElem? (i := 84) rfl)
theorem qA_685 : Cond.methodLink RX11 88 yX6_init ∈ wsA := iA_6 (List.mem_of_getElem? (i := 85) rfl)
theorem qA_686 : Cond.instanceMethod yX6_init ∈ wsA := iA_6 (List.mem_of_getElem? (i := 86) rfl)
theorem qA_688 : Cond.fieldLink RX11 96 "AcousticCamera$Text" "length" "I" ∈ wsA := iA_6 (List.mem_of_getElem? (i := 88) rfl)
theorem qA_689 : Cond.methodLink RX11 100 yX9_addWord ∈ wsA := iA_6 (List.mem_of_getElem? (i := 89) rfl)
theorem qA_690 : Cond.instanceMethod yX9_addWord ∈ wsA := iA_6 (List.mem_of_getElem? (i := 90) rfl)
theorem qA_691 : Cond.selects RX9 yX9_addWord yX9_addWord ∈ wsA := iA_6 (List.mem_of_getElem? (i := 91) rfl)
theorem qA_692 : Cond.code yX11_load cX11_load 3 (some .int) ∈ wsA := iA_6 (List.mem_of_getElem? (i := 92) rfl)
theorem qA_693 : Cond.classLink RX11 103 "java/lang/IndexOutOfBoundsException" ∈ wsA := iA_6 (List.mem_of_getElem? (i := 93) rfl)
theorem qA_694 : Cond.initialized "java/lang/IndexOutOfBoundsException" ∈ wsA := iA_6 (List.mem_of_getElem? (i := 94) rfl)
theorem qA_695 : Cond.fieldLink RX11 113 "AcousticCamera$Scene" "grid" "LAcousticCamera$Grid;" ∈ wsA := iA_6 (List.mem_of_getElem? (i := 95) rfl)
theorem qA_696 : Cond.methodLink RX11 106 yX3_parse ∈ wsA := iA_6 (List.mem_of_getElem? (i := 96) rfl)
theorem qA_697 : Cond.instanceMethod yX3_parse ∈ wsA := iA_6 (List.mem_of_getElem? (i := 97) rfl)
theorem qA_698 : Cond.selects RX3 yX3_parse yX3_parse ∈ wsA := iA_6 (List.mem_of_getElem? (i := 98) rfl)
theorem qA_699 : Cond.methodLink RX11 110 yX11_begin ∈ wsA := iA_6 (List.mem_of_getElem? (i := 99) rfl)
theorem qA_700 : Cond.instanceMethod yX11_begin ∈ wsA := iA_7 (List.mem_of_getElem? (i := 0) rfl)
theorem qA_701 : Cond.selects RX11 yX11_begin yX11_begin ∈ wsA := iA_7 (List.mem_of_getElem? (i := 1) rfl)
theorem qA_702 : Cond.code yX11_begin cX11_begin 2 none ∈ wsA := iA_7 (List.mem_of_getElem? (i := 2) rfl)
theorem qA_703 : Cond.fieldLink RX11 406 "AcousticCamera" "pastCount" "I" ∈ wsA := iA_7 (List.mem_of_getElem? (i := 3) rfl)
theorem qA_704 : Cond.fieldLink RX11 412 "AcousticCamera$PowerMap" "known" "Z" ∈ wsA := iA_7 (List.mem_of_getElem? (i := 4) rfl)
theorem qA_705 : Cond.methodLink RX11 419 yX6_measureDelays ∈ wsA := iA_7 (List.mem_of_getElem? (i := 5) rfl)
theorem qA_706 : Cond.instanceMethod yX6_measureDelays ∈ wsA := iA_7 (List.mem_of_getElem? (i := 6) rfl)
theorem qA_707 : Cond.selects RX6 yX6_measureDelays yX6_measureDelays ∈ wsA := iA_7 (List.mem_of_getElem? (i := 7) rfl)
theorem qA_708 : Cond.methodLink RX11 422 yX8_begin ∈ wsA := iA_7 (List.mem_of_getElem? (i := 8) rfl)
theorem qA_709 : Cond.instanceMethod yX8_begin ∈ wsA := iA_7 (List.mem_of_getElem? (i := 9) rfl)
theorem qA_710 : Cond.selects RX8 yX8_begin yX8_begin ∈ wsA := iA_7 (List.mem_of_getElem? (i := 10) rfl)
theorem qA_711 : Cond.methodLink RX11 387 yX5_record ∈ wsA := iA_7 (List.mem_of_getElem? (i := 11) rfl)
theorem qA_712 : Cond.instanceMethod yX5_record ∈ wsA := iA_7 (List.mem_of_getElem? (i := 12) rfl)
theorem qA_713 : Cond.selects RX5 yX5_record yX5_record ∈ wsA := iA_7 (List.mem_of_getElem? (i := 13) rfl)
theorem qA_714 : Cond.methodLink RX11 117 yX1_cells ∈ wsA := iA_7 (List.mem_of_getElem? (i := 14) rfl)
theorem qA_716 : Cond.fieldLink RX11 123 "AcousticCamera$Parser" "code" "I" ∈ wsA := iA_7 (List.mem_of_getElem? (i := 16) rfl)
theorem qA_718 : Cond.fieldLink RX11 126 "AcousticCamera$Parser" "position" "I" ∈ wsA := iA_7 (List.mem_of_getElem? (i := 18) rfl)
theorem qA_721 : Cond.fieldLink RX11 129 "AcousticCamera$Scene" "micCount" "I" ∈ wsA := iA_7 (List.mem_of_getElem? (i := 21) rfl)
theorem qA_722 : Cond.code yX11_micAt cX11_micAt 3 (some .int) ∈ wsA := iA_7 (List.mem_of_getElem? (i := 22) rfl)
theorem qA_723 : Cond.fieldLink RX11 142 "AcousticCamera$Scene" "mics" "[LAcousticCamera$Mic;" ∈ wsA := iA_7 (List.mem_of_getElem? (i := 23) rfl)
theorem qA_724 : Cond.fieldLink RX11 146 "AcousticCamera$Mic" "x" "I" ∈ wsA := iA_7 (List.mem_of_getElem? (i := 24) rfl)
theorem qA_725 : Cond.fieldLink RX11 151 "AcousticCamera$Mic" "y" "I" ∈ wsA := iA_7 (List.mem_of_getElem? (i := 25) rfl)
theorem qA_726 : Cond.fieldLink RX11 154 "AcousticCamera$Mic" "gain" "I" ∈ wsA := iA_7 (List.mem_of_getElem? (i := 26) rfl)
theorem qA_727 : Cond.fieldLink RX11 157 "AcousticCamera$State" "weights" "[I" ∈ wsA := iA_7 (List.mem_of_getElem? (i := 27) rfl)
theorem qA_728 : Cond.methodLink RX11 132 yX11_needCamera ∈ wsA := iA_7 (List.mem_of_getElem? (i := 28) rfl)
theorem qA_729 : Cond.instanceMethod yX11_needCamera ∈ wsA := iA_7 (List.mem_of_getElem? (i := 29) rfl)
theorem qA_730 : Cond.selects RX11 yX11_needCamera yX11_needCamera ∈ wsA := iA_7 (List.mem_of_getElem? (i := 30) rfl)
theorem qA_731 : Cond.code yX11_needCamera cX11_needCamera 1 none ∈ wsA := iA_7 (List.mem_of_getElem? (i := 31) rfl)
theorem qA_732 : Cond.classLink RX11 397 "java/lang/IllegalStateException" ∈ wsA := iA_7 (List.mem_of_getElem? (i := 32) rfl)
theorem qA_733 : Cond.initialized "java/lang/IllegalStateException" ∈ wsA := iA_7 (List.mem_of_getElem? (i := 33) rfl)
theorem qA_734 : Cond.methodLink RX11 135 yX11_needMic ∈ wsA := iA_7 (List.mem_of_getElem? (i := 34) rfl)
theorem qA_735 : Cond.instanceMethod yX11_needMic ∈ wsA := iA_7 (List.mem_of_getElem? (i := 35) rfl)
theorem qA_736 : Cond.selects RX11 yX11_needMic yX11_needMic ∈ wsA := iA_7 (List.mem_of_getElem? (i := 36) rfl)
theorem qA_737 : Cond.code yX11_needMic cX11_needMic 2 none ∈ wsA := iA_7 (List.mem_of_getElem? (i := 37) rfl)
theorem qA_738 : Cond.methodLink RX11 281 yX11_needIndex ∈ wsA := iA_7 (List.mem_of_getElem? (i := 38) rfl)
theorem qA_739 : Cond.static yX11_needIndex ∈ wsA := iA_7 (List.mem_of_getElem? (i := 39) rfl)
theorem qA_740 : Cond.code yX11_needIndex cX11_needIndex 2 none ∈ wsA := iA_7 (List.mem_of_getElem? (i := 40) rfl)
theorem qA_741 : Cond.methodLink RX11 138 yX11_needRange ∈ wsA := iA_7 (List.mem_of_getElem? (i := 41) rfl)
theorem qA_742 : Cond.static yX11_needRange ∈ wsA := iA_7 (List.mem_of_getElem? (i := 42) rfl)
theorem qA_743 : Cond.code yX11_needRange cX11_needRange 3 none ∈ wsA := iA_7 (List.mem_of_getElem? (i := 43) rfl)
theorem qA_744 : Cond.classLink RX11 416 "java/lang/IllegalArgumentException" ∈ wsA := iA_7 (List.mem_of_getElem? (i := 44) rfl)
theorem qA_745 : Cond.code yX11_isMuted cX11_isMuted 2 (some .boolean) ∈ wsA := iA_7 (List.mem_of_getElem? (i := 45) rfl)
theorem qA_746 : Cond.fieldLink RX11 160 "AcousticCamera$State" "muted" "[Z" ∈ wsA := iA_7 (List.mem_of_getElem? (i := 46) rfl)
theorem qA_748 : Cond.fieldLink RX11 163 "AcousticCamera$Grid" "columns" "I" ∈ wsA := iA_7 (List.mem_of_getElem? (i := 48) rfl)
theorem qA_750 : Cond.fieldLink RX11 166 "AcousticCamera$Grid" "rows" "I" ∈ wsA := iA_7 (List.mem_of_getElem? (i := 50) rfl)
theorem qA_751 : Cond.code yX11_cellAt cX11_cellAt 3 (some .int) ∈ wsA := iA_7 (List.mem_of_getElem? (i := 51) rfl)
theorem qA_752 : Cond.methodLink RX11 169 yX11_needCell ∈ wsA := iA_7 (List.mem_of_getElem? (i := 52) rfl)
theorem qA_753 : Cond.instanceMethod yX11_needCell ∈ wsA := iA_7 (List.mem_of_getElem? (i := 53) rfl)
theorem qA_754 : Cond.selects RX11 yX11_needCell yX11_needCell ∈ wsA := iA_7 (List.mem_of_getElem? (i := 54) rfl)
theorem qA_755 : Cond.code yX11_needCell cX11_needCell 2 none ∈ wsA := iA_7 (List.mem_of_getElem? (i := 55) rfl)
theorem qA_756 : Cond.methodLink RX11 172 yX1_centreX ∈ wsA := iA_7 (List.mem_of_getElem? (i := 56) rfl)
theorem qA_757 : Cond.methodLink RX11 176 yX1_centreY ∈ wsA := iA_7 (List.mem_of_getElem? (i := 57) rfl)
theorem qA_759 : Cond.fieldLink RX11 179 "AcousticCamera$Scene" "sourceCount" "I" ∈ wsA := iA_7 (List.mem_of_getElem? (i := 59) rfl)
theorem qA_760 : Cond.code yX11_sourceAt cX11_sourceAt 4 (some .int) ∈ wsA := iA_7 (List.mem_of_getElem? (i := 60) rfl)
theorem qA_761 : Cond.fieldLink RX11 185 "AcousticCamera$Scene" "samples" "I" ∈ wsA := iA_7 (List.mem_of_getElem? (i := 61) rfl)
theorem qA_762 : Cond.fieldLink RX11 188 "AcousticCamera$State" "x" "[I" ∈ wsA := iA_7 (List.mem_of_getElem? (i := 62) rfl)
theorem qA_763 : Cond.fieldLink RX11 190 "AcousticCamera$State" "vx" "[I" ∈ wsA := iA_7 (List.mem_of_getElem? (i := 63) rfl)
theorem qA_764 : Cond.fieldLink RX11 197 "AcousticCamera$State" "y" "[I" ∈ wsA := iA_7 (List.mem_of_getElem? (i := 64) rfl)
theorem qA_765 : Cond.fieldLink RX11 199 "AcousticCamera$State" "vy" "[I" ∈ wsA := iA_7 (List.mem_of_getElem? (i := 65) rfl)
theorem qA_766 : Cond.methodLink RX11 182 yX11_needSource ∈ wsA := iA_7 (List.mem_of_getElem? (i := 66) rfl)
theorem qA_767 : Cond.instanceMethod yX11_needSource ∈ wsA := iA_7 (List.mem_of_getElem? (i := 67) rfl)
theorem qA_768 : Cond.selects RX11 yX11_needSource yX11_needSource ∈ wsA := iA_7 (List.mem_of_getElem? (i := 68) rfl)
theorem qA_769 : Cond.code yX11_needSource cX11_needSource 2 none ∈ wsA := iA_7 (List.mem_of_getElem? (i := 69) rfl)
theorem qA_770 : Cond.methodLink RX11 193 yX11_moved ∈ wsA := iA_7 (List.mem_of_getElem? (i := 70) rfl)
theorem qA_771 : Cond.code yX11_isOn cX11_isOn 2 (some .boolean) ∈ wsA := iA_7 (List.mem_of_getElem? (i := 71) rfl)
theorem qA_772 : Cond.fieldLink RX11 202 "AcousticCamera$State" "on" "[Z" ∈ wsA := iA_7 (List.mem_of_getElem? (i := 72) rfl)
theorem qA_773 : Cond.code yX11_waveAt cX11_waveAt 3 (some .int) ∈ wsA := iA_7 (List.mem_of_getElem? (i := 73) rfl)
theorem qA_774 : Cond.fieldLink RX11 205 "AcousticCamera$Scene" "sources" "[LAcousticCamera$Source;" ∈ wsA := iA_7 (List.mem_of_getElem? (i := 74) rfl)
theorem qA_775 : Cond.methodLink RX11 209 yX7_valueAt ∈ wsA := iA_7 (List.mem_of_getElem? (i := 75) rfl)
theorem qA_777 : Cond.code yX11_delay cX11_delay 3 (some .int) ∈ wsA := iA_7 (List.mem_of_getElem? (i := 77) rfl)
theorem qA_778 : Cond.fieldLink RX11 214 "AcousticCamera$Scene" "delays" "[[I" ∈ wsA := iA_7 (List.mem_of_getElem? (i := 78) rfl)
theorem qA_779 : Cond.code yX11_delayTo cX11_delayTo 4 (some .int) ∈ wsA := iA_7 (List.mem_of_getElem? (i := 79) rfl)
theorem qA_780 : Cond.methodLink RX11 218 yX6_delayFrom ∈ wsA := iA_7 (List.mem_of_getElem? (i := 80) rfl)
theorem qA_781 : Cond.code yX11_spread cX11_spread 3 (some .int) ∈ wsA := iA_7 (List.mem_of_getElem? (i := 81) rfl)
theorem qA_782 : Cond.methodLink RX11 222 yX8_greatestDelay ∈ wsA := iA_7 (List.mem_of_getElem? (i := 82) rfl)
theorem qA_783 : Cond.methodLink RX11 226 yX8_smallestDelay ∈ wsA := iA_7 (List.mem_of_getElem? (i := 83) rfl)
theorem qA_784 : Cond.instanceMethod yX8_smallestDelay ∈ wsA := iA_7 (List.mem_of_getElem? (i := 84) rfl)
theorem qA_785 : Cond.selects RX8 yX8_smallestDelay yX8_smallestDelay ∈ wsA := iA_7 (List.mem_of_getElem? (i := 85) rfl)
theorem qA_786 : Cond.code yX11_window cX11_window 2 (some .int) ∈ wsA := iA_7 (List.mem_of_getElem? (i := 86) rfl)
theorem qA_787 : Cond.methodLink RX11 229 yX8_windowOf ∈ wsA := iA_7 (List.mem_of_getElem? (i := 87) rfl)
theorem qA_788 : Cond.code yX11_sample cX11_sample 3 (some .int) ∈ wsA := iA_7 (List.mem_of_getElem? (i := 88) rfl)
theorem qA_789 : Cond.fieldLink RX11 232 "AcousticCamera$State" "samples" "LAcousticCamera$Wides;" ∈ wsA := iA_7 (List.mem_of_getElem? (i := 89) rfl)
theorem qA_790 : Cond.methodLink RX11 234 yX8_placeOf ∈ wsA := iA_7 (List.mem_of_getElem? (i := 90) rfl)
theorem qA_791 : Cond.methodLink RX11 238 yX10_value ∈ wsA := iA_7 (List.mem_of_getElem? (i := 91) rfl)
theorem qA_792 : Cond.instanceMethod yX10_value ∈ wsA := iA_7 (List.mem_of_getElem? (i := 92) rfl)
theorem qA_793 : Cond.selects RX10 yX10_value yX10_value ∈ wsA := iA_7 (List.mem_of_getElem? (i := 93) rfl)
theorem qA_794 : Cond.code yX11_beam cX11_beam 3 (some .int) ∈ wsA := iA_7 (List.mem_of_getElem? (i := 94) rfl)
theorem qA_795 : Cond.fieldLink RX11 246 "AcousticCamera$State" "beam" "LAcousticCamera$Wides;" ∈ wsA := iA_7 (List.mem_of_getElem? (i := 95) rfl)
theorem qA_796 : Cond.methodLink RX11 242 yX8_focus ∈ wsA := iA_7 (List.mem_of_getElem? (i := 96) rfl)
theorem qA_797 : Cond.code yX11_power cX11_power 2 (some .long) ∈ wsA := iA_7 (List.mem_of_getElem? (i := 97) rfl)
theorem qA_798 : Cond.fieldLink RX11 253 "AcousticCamera$PowerMap" "of" "LAcousticCamera$Wides;" ∈ wsA := iA_7 (List.mem_of_getElem? (i := 98) rfl)
theorem qA_799 : Cond.methodLink RX11 249 yX11_powersNow ∈ wsA := iA_7 (List.mem_of_getElem? (i := 99) rfl)
theorem qA_800 : Cond.instanceMethod yX11_powersNow ∈ wsA := iA_8 (List.mem_of_getElem? (i := 0) rfl)
theorem qA_801 : Cond.selects RX11 yX11_powersNow yX11_powersNow ∈ wsA := iA_8 (List.mem_of_getElem? (i := 1) rfl)
theorem qA_802 : Cond.code yX11_powersNow cX11_powersNow 1 (some (.object "AcousticCamera$PowerMap")) ∈ wsA := iA_8 (List.mem_of_getElem? (i := 2) rfl)
theorem qA_803 : Cond.methodLink RX11 425 yX4_measure ∈ wsA := iA_8 (List.mem_of_getElem? (i := 3) rfl)
theorem qA_804 : Cond.instanceMethod yX4_measure ∈ wsA := iA_8 (List.mem_of_getElem? (i := 4) rfl)
theorem qA_805 : Cond.selects RX4 yX4_measure yX4_measure ∈ wsA := iA_8 (List.mem_of_getElem? (i := 5) rfl)
theorem qA_806 : Cond.code yX11_powerAt cX11_powerAt 3 (some .long) ∈ wsA := iA_8 (List.mem_of_getElem? (i := 6) rfl)
theorem qA_807 : Cond.methodLink RX11 256 yX6_delaysFrom ∈ wsA := iA_8 (List.mem_of_getElem? (i := 7) rfl)
theorem qA_808 : Cond.methodLink RX11 260 yX8_powerOf ∈ wsA := iA_8 (List.mem_of_getElem? (i := 8) rfl)
theorem qA_809 : Cond.instanceMethod yX8_powerOf ∈ wsA := iA_8 (List.mem_of_getElem? (i := 9) rfl)
theorem qA_810 : Cond.selects RX8 yX8_powerOf yX8_powerOf ∈ wsA := iA_8 (List.mem_of_getElem? (i := 10) rfl)
theorem qA_811 : Cond.code yX11_best cX11_best 1 (some .int) ∈ wsA := iA_8 (List.mem_of_getElem? (i := 11) rfl)
theorem qA_812 : Cond.fieldLink RX11 264 "AcousticCamera$PowerMap" "best" "I" ∈ wsA := iA_8 (List.mem_of_getElem? (i := 12) rfl)
theorem qA_813 : Cond.code yX11_bestPower cX11_bestPower 2 (some .long) ∈ wsA := iA_8 (List.mem_of_getElem? (i := 13) rfl)
theorem qA_814 : Cond.code yX11_meanPower cX11_meanPower 1 (some .long) ∈ wsA := iA_8 (List.mem_of_getElem? (i := 14) rfl)
theorem qA_815 : Cond.fieldLink RX11 267 "AcousticCamera$Grid" "whole" "[I" ∈ wsA := iA_8 (List.mem_of_getElem? (i := 15) rfl)
theorem qA_816 : Cond.methodLink RX11 270 yX4_sumIn ∈ wsA := iA_8 (List.mem_of_getElem? (i := 16) rfl)
theorem qA_817 : Cond.instanceMethod yX4_sumIn ∈ wsA := iA_8 (List.mem_of_getElem? (i := 17) rfl)
theorem qA_818 : Cond.selects RX4 yX4_sumIn yX4_sumIn ∈ wsA := iA_8 (List.mem_of_getElem? (i := 18) rfl)
theorem qA_819 : Cond.methodLink RX11 274 yX10_divide ∈ wsA := iA_8 (List.mem_of_getElem? (i := 19) rfl)
theorem qA_820 : Cond.code yX11_peaks cX11_peaks 1 (some .int) ∈ wsA := iA_8 (List.mem_of_getElem? (i := 20) rfl)
theorem qA_821 : Cond.fieldLink RX11 278 "AcousticCamera$PowerMap" "peakCount" "I" ∈ wsA := iA_8 (List.mem_of_getElem? (i := 21) rfl)
theorem qA_822 : Cond.code yX11_peakAt cX11_peakAt 3 (some .int) ∈ wsA := iA_8 (List.mem_of_getElem? (i := 22) rfl)
theorem qA_823 : Cond.methodLink RX11 284 yX4_peakRanked ∈ wsA := iA_8 (List.mem_of_getElem? (i := 23) rfl)
theorem qA_824 : Cond.instanceMethod yX4_peakRanked ∈ wsA := iA_8 (List.mem_of_getElem? (i := 24) rfl)
theorem qA_825 : Cond.selects RX4 yX4_peakRanked yX4_peakRanked ∈ wsA := iA_8 (List.mem_of_getElem? (i := 25) rfl)
theorem qA_826 : Cond.code yX11_isPeak cX11_isPeak 2 (some .boolean) ∈ wsA := iA_8 (List.mem_of_getElem? (i := 26) rfl)
theorem qA_827 : Cond.methodLink RX11 287 yX4_standsOut ∈ wsA := iA_8 (List.mem_of_getElem? (i := 27) rfl)
theorem qA_828 : Cond.code yX11_zonePower cX11_zonePower 2 (some .long) ∈ wsA := iA_8 (List.mem_of_getElem? (i := 28) rfl)
theorem qA_829 : Cond.fieldLink RX11 291 "AcousticCamera$Grid" "zoneCount" "I" ∈ wsA := iA_8 (List.mem_of_getElem? (i := 29) rfl)
theorem qA_830 : Cond.fieldLink RX11 294 "AcousticCamera$Grid" "zones" "[[I" ∈ wsA := iA_8 (List.mem_of_getElem? (i := 30) rfl)
theorem qA_831 : Cond.code yX11_zoneBest cX11_zoneBest 2 (some .int) ∈ wsA := iA_8 (List.mem_of_getElem? (i := 31) rfl)
theorem qA_832 : Cond.methodLink RX11 297 yX1_bestIn ∈ wsA := iA_8 (List.mem_of_getElem? (i := 32) rfl)
theorem qA_833 : Cond.code yX11_contrast cX11_contrast 3 (some .float) ∈ wsA := iA_8 (List.mem_of_getElem? (i := 33) rfl)
theorem qA_834 : Cond.methodLink RX11 301 yX4_second ∈ wsA := iA_8 (List.mem_of_getElem? (i := 34) rfl)
theorem qA_835 : Cond.instanceMethod yX4_second ∈ wsA := iA_8 (List.mem_of_getElem? (i := 35) rfl)
theorem qA_836 : Cond.selects RX4 yX4_second yX4_second ∈ wsA := iA_8 (List.mem_of_getElem? (i := 36) rfl)
theorem qA_837 : Cond.methodLink RX11 304 yX10_ratio ∈ wsA := iA_8 (List.mem_of_getElem? (i := 37) rfl)
theorem qA_838 : Cond.instanceMethod yX10_ratio ∈ wsA := iA_8 (List.mem_of_getElem? (i := 38) rfl)
theorem qA_839 : Cond.selects RX10 yX10_ratio yX10_ratio ∈ wsA := iA_8 (List.mem_of_getElem? (i := 39) rfl)
theorem qA_840 : Cond.code yX11_alias cX11_alias 4 (some .int) ∈ wsA := iA_8 (List.mem_of_getElem? (i := 40) rfl)
theorem qA_841 : Cond.methodLink RX11 308 yX11_confusion ∈ wsA := iA_8 (List.mem_of_getElem? (i := 41) rfl)
theorem qA_842 : Cond.instanceMethod yX11_confusion ∈ wsA := iA_8 (List.mem_of_getElem? (i := 42) rfl)
theorem qA_843 : Cond.selects RX11 yX11_confusion yX11_confusion ∈ wsA := iA_8 (List.mem_of_getElem? (i := 43) rfl)
theorem qA_844 : Cond.code yX11_confusion cX11_confusion 11 (some .int) ∈ wsA := iA_8 (List.mem_of_getElem? (i := 44) rfl)
theorem qA_845 : Cond.methodLink RX11 323 Lib.Math.max.name ∈ wsA := iA_8 (List.mem_of_getElem? (i := 45) rfl)
theorem qA_846 : Cond.methodLink RX11 434 yX11_remainder ∈ wsA := iA_8 (List.mem_of_getElem? (i := 46) rfl)
theorem qA_847 : Cond.code yX11_isAlias cX11_isAlias 4 (some .boolean) ∈ wsA := iA_8 (List.mem_of_getElem? (i := 47) rfl)
theorem qA_848 : Cond.methodLink RX11 311 yX11_marksAlias ∈ wsA := iA_8 (List.mem_of_getElem? (i := 48) rfl)
theorem qA_849 : Cond.instanceMethod yX11_marksAlias ∈ wsA := iA_8 (List.mem_of_getElem? (i := 49) rfl)
theorem qA_850 : Cond.selects RX11 yX11_marksAlias yX11_marksAlias ∈ wsA := iA_8 (List.mem_of_getElem? (i := 50) rfl)
theorem qA_851 : Cond.code yX11_marksAlias cX11_marksAlias 6 (some .boolean) ∈ wsA := iA_8 (List.mem_of_getElem? (i := 51) rfl)
theorem qA_852 : Cond.methodLink RX11 431 yX8_activeMics ∈ wsA := iA_8 (List.mem_of_getElem? (i := 52) rfl)
theorem qA_853 : Cond.instanceMethod yX8_activeMics ∈ wsA := iA_8 (List.mem_of_getElem? (i := 53) rfl)
theorem qA_854 : Cond.selects RX8 yX8_activeMics yX8_activeMics ∈ wsA := iA_8 (List.mem_of_getElem? (i := 54) rfl)
theorem qA_855 : Cond.code yX11_aliases cX11_aliases 6 (some .int) ∈ wsA := iA_8 (List.mem_of_getElem? (i := 55) rfl)
theorem qA_856 : Cond.code yX11_blockPower cX11_blockPower 4 (some .long) ∈ wsA := iA_8 (List.mem_of_getElem? (i := 56) rfl)
theorem qA_857 : Cond.methodLink RX11 315 yX8_blockPowerOf ∈ wsA := iA_8 (List.mem_of_getElem? (i := 57) rfl)
theorem qA_858 : Cond.code yX11_blockBest cX11_blockBest 3 (some .int) ∈ wsA := iA_8 (List.mem_of_getElem? (i := 58) rfl)
theorem qA_859 : Cond.methodLink RX11 319 yX0_bestOf ∈ wsA := iA_8 (List.mem_of_getElem? (i := 59) rfl)
theorem qA_860 : Cond.instanceMethod yX0_bestOf ∈ wsA := iA_8 (List.mem_of_getElem? (i := 60) rfl)
theorem qA_861 : Cond.selects RX0 yX0_bestOf yX0_bestOf ∈ wsA := iA_8 (List.mem_of_getElem? (i := 61) rfl)
theorem qA_862 : Cond.code yX11_path cX11_path 6 (some .int) ∈ wsA := iA_8 (List.mem_of_getElem? (i := 62) rfl)
theorem qA_863 : Cond.code yX11_trackScore cX11_trackScore 2 (some .long) ∈ wsA := iA_8 (List.mem_of_getElem? (i := 63) rfl)
theorem qA_864 : Cond.fieldLink RX11 332 "AcousticCamera$Blocks" "scores" "LAcousticCamera$Wides;" ∈ wsA := iA_8 (List.mem_of_getElem? (i := 64) rfl)
theorem qA_865 : Cond.methodLink RX11 328 yX0_score ∈ wsA := iA_8 (List.mem_of_getElem? (i := 65) rfl)
theorem qA_866 : Cond.instanceMethod yX0_score ∈ wsA := iA_8 (List.mem_of_getElem? (i := 66) rfl)
theorem qA_867 : Cond.selects RX0 yX0_score yX0_score ∈ wsA := iA_8 (List.mem_of_getElem? (i := 67) rfl)
theorem qA_868 : Cond.methodLink RX11 335 yX0_trackCellIn ∈ wsA := iA_8 (List.mem_of_getElem? (i := 68) rfl)
theorem qA_869 : Cond.instanceMethod yX0_trackCellIn ∈ wsA := iA_8 (List.mem_of_getElem? (i := 69) rfl)
theorem qA_870 : Cond.selects RX0 yX0_trackCellIn yX0_trackCellIn ∈ wsA := iA_8 (List.mem_of_getElem? (i := 70) rfl)
theorem qA_871 : Cond.code yX11_trackCell cX11_trackCell 4 (some .int) ∈ wsA := iA_8 (List.mem_of_getElem? (i := 71) rfl)
theorem qA_872 : Cond.methodLink RX11 339 yX11_quotient ∈ wsA := iA_8 (List.mem_of_getElem? (i := 72) rfl)
theorem qA_873 : Cond.code yX11_movingPower cX11_movingPower 4 (some .long) ∈ wsA := iA_8 (List.mem_of_getElem? (i := 73) rfl)
theorem qA_874 : Cond.methodLink RX11 343 yX11_powerOnTheMove ∈ wsA := iA_8 (List.mem_of_getElem? (i := 74) rfl)
theorem qA_875 : Cond.instanceMethod yX11_powerOnTheMove ∈ wsA := iA_8 (List.mem_of_getElem? (i := 75) rfl)
theorem qA_876 : Cond.selects RX11 yX11_powerOnTheMove yX11_powerOnTheMove ∈ wsA := iA_8 (List.mem_of_getElem? (i := 76) rfl)
theorem qA_877 : Cond.code yX11_powerOnTheMove cX11_powerOnTheMove 8 none ∈ wsA := iA_8 (List.mem_of_getElem? (i := 77) rfl)
theorem qA_878 : Cond.methodLink RX11 437 yX10_clear ∈ wsA := iA_8 (List.mem_of_getElem? (i := 78) rfl)
theorem qA_879 : Cond.methodLink RX11 440 yX10_addProduct ∈ wsA := iA_8 (List.mem_of_getElem? (i := 79) rfl)
theorem qA_880 : Cond.code yX11_bestVelocity cX11_bestVelocity 7 (some .int) ∈ wsA := iA_8 (List.mem_of_getElem? (i := 80) rfl)
theorem qA_881 : Cond.methodLink RX11 347 yX10_compare ∈ wsA := iA_8 (List.mem_of_getElem? (i := 81) rfl)
theorem qA_882 : Cond.methodLink RX11 350 yX10_set ∈ wsA := iA_8 (List.mem_of_getElem? (i := 82) rfl)
theorem qA_883 : Cond.code yX11_correlation cX11_correlation 4 (some .long) ∈ wsA := iA_8 (List.mem_of_getElem? (i := 83) rfl)
theorem qA_884 : Cond.methodLink RX11 354 yX8_productSum ∈ wsA := iA_8 (List.mem_of_getElem? (i := 84) rfl)
theorem qA_885 : Cond.instanceMethod yX8_productSum ∈ wsA := iA_8 (List.mem_of_getElem? (i := 85) rfl)
theorem qA_886 : Cond.selects RX8 yX8_productSum yX8_productSum ∈ wsA := iA_8 (List.mem_of_getElem? (i := 86) rfl)
theorem qA_887 : Cond.code yX11_bestLag cX11_bestLag 6 (some .int) ∈ wsA := iA_8 (List.mem_of_getElem? (i := 87) rfl)
theorem qA_888 : Cond.code yX11_level cX11_level 2 (some .long) ∈ wsA := iA_8 (List.mem_of_getElem? (i := 88) rfl)
theorem qA_889 : Cond.methodLink RX11 358 yX11_measureLevel ∈ wsA := iA_8 (List.mem_of_getElem? (i := 89) rfl)
theorem qA_890 : Cond.instanceMethod yX11_measureLevel ∈ wsA := iA_8 (List.mem_of_getElem? (i := 90) rfl)
theorem qA_891 : Cond.selects RX11 yX11_measureLevel yX11_measureLevel ∈ wsA := iA_8 (List.mem_of_getElem? (i := 91) rfl)
theorem qA_892 : Cond.code yX11_measureLevel cX11_measureLevel 2 none ∈ wsA := iA_8 (List.mem_of_getElem? (i := 92) rfl)
theorem qA_893 : Cond.code yX11_loudest cX11_loudest 3 (some .int) ∈ wsA := iA_8 (List.mem_of_getElem? (i := 93) rfl)
theorem qA_894 : Cond.methodLink RX11 361 yX10_ranked ∈ wsA := iA_8 (List.mem_of_getElem? (i := 94) rfl)
theorem qA_895 : Cond.code yX11_writeMap cX11_writeMap 3 (some .int) ∈ wsA := iA_8 (List.mem_of_getElem? (i := 95) rfl)
theorem qA_896 : Cond.fieldLink RX11 364 "AcousticCamera" "mapLength" "I" ∈ wsA := iA_8 (List.mem_of_getElem? (i := 96) rfl)
theorem qA_897 : Cond.methodLink RX11 367 yX1_columnOf ∈ wsA := iA_8 (List.mem_of_getElem? (i := 97) rfl)
theorem qA_898 : Cond.methodLink RX11 370 yX11_addMapByte ∈ wsA := iA_8 (List.mem_of_getElem? (i := 98) rfl)
theorem qA_899 : Cond.instanceMethod yX11_addMapByte ∈ wsA := iA_8 (List.mem_of_getElem? (i := 99) rfl)
theorem qA_900 : Cond.selects RX11 yX11_addMapByte yX11_addMapByte ∈ wsA := iA_9 (List.mem_of_getElem? (i := 0) rfl)
theorem qA_901 : Cond.code yX11_addMapByte cX11_addMapByte 2 none ∈ wsA := iA_9 (List.mem_of_getElem? (i := 1) rfl)
theorem qA_902 : Cond.methodLink RX11 373 yX4_digit ∈ wsA := iA_9 (List.mem_of_getElem? (i := 2) rfl)
theorem qA_903 : Cond.instanceMethod yX4_digit ∈ wsA := iA_9 (List.mem_of_getElem? (i := 3) rfl)
theorem qA_904 : Cond.selects RX4 yX4_digit yX4_digit ∈ wsA := iA_9 (List.mem_of_getElem? (i := 4) rfl)
theorem qA_905 : Cond.code yX11_mapByte cX11_mapByte 2 (some .int) ∈ wsA := iA_9 (List.mem_of_getElem? (i := 5) rfl)
theorem qA_906 : Cond.code yX11_pointBest cX11_pointBest 3 (some .int) ∈ wsA := iA_9 (List.mem_of_getElem? (i := 6) rfl)
theorem qA_907 : Cond.methodLink RX11 377 yX11_recordPoint ∈ wsA := iA_9 (List.mem_of_getElem? (i := 7) rfl)
theorem qA_908 : Cond.instanceMethod yX11_recordPoint ∈ wsA := iA_9 (List.mem_of_getElem? (i := 8) rfl)
theorem qA_909 : Cond.selects RX11 yX11_recordPoint yX11_recordPoint ∈ wsA := iA_9 (List.mem_of_getElem? (i := 9) rfl)
theorem qA_910 : Cond.code yX11_recordPoint cX11_recordPoint 3 none ∈ wsA := iA_9 (List.mem_of_getElem? (i := 10) rfl)
theorem qA_911 : Cond.methodLink RX11 383 yX8_copyFrom ∈ wsA := iA_9 (List.mem_of_getElem? (i := 11) rfl)
theorem qA_912 : Cond.instanceMethod yX8_copyFrom ∈ wsA := iA_9 (List.mem_of_getElem? (i := 12) rfl)
theorem qA_913 : Cond.selects RX8 yX8_copyFrom yX8_copyFrom ∈ wsA := iA_9 (List.mem_of_getElem? (i := 13) rfl)
theorem qA_914 : Cond.methodLink RX11 428 yX5_recordPoint ∈ wsA := iA_9 (List.mem_of_getElem? (i := 14) rfl)
theorem qA_915 : Cond.instanceMethod yX5_recordPoint ∈ wsA := iA_9 (List.mem_of_getElem? (i := 15) rfl)
theorem qA_916 : Cond.selects RX5 yX5_recordPoint yX5_recordPoint ∈ wsA := iA_9 (List.mem_of_getElem? (i := 16) rfl)
theorem qA_917 : Cond.methodLink RX11 380 yX11_trialBest ∈ wsA := iA_9 (List.mem_of_getElem? (i := 17) rfl)
theorem qA_918 : Cond.instanceMethod yX11_trialBest ∈ wsA := iA_9 (List.mem_of_getElem? (i := 18) rfl)
theorem qA_919 : Cond.selects RX11 yX11_trialBest yX11_trialBest ∈ wsA := iA_9 (List.mem_of_getElem? (i := 19) rfl)
theorem qA_920 : Cond.code yX11_trialBest cX11_trialBest 1 (some .int) ∈ wsA := iA_9 (List.mem_of_getElem? (i := 20) rfl)
theorem qA_921 : Cond.code yX11_pointPower cX11_pointPower 4 (some .long) ∈ wsA := iA_9 (List.mem_of_getElem? (i := 21) rfl)
theorem qA_922 : Cond.code yX11_bestWithout cX11_bestWithout 2 (some .int) ∈ wsA := iA_9 (List.mem_of_getElem? (i := 22) rfl)
theorem qA_923 : Cond.code yX11_bestIfOff cX11_bestIfOff 2 (some .int) ∈ wsA := iA_9 (List.mem_of_getElem? (i := 23) rfl)
theorem qA_924 : Cond.code yX11_mute cX11_mute 4 (some .boolean) ∈ wsA := iA_9 (List.mem_of_getElem? (i := 24) rfl)
theorem qA_925 : Cond.methodLink RX11 391 yX11_keepForUndo ∈ wsA := iA_9 (List.mem_of_getElem? (i := 25) rfl)
theorem qA_926 : Cond.instanceMethod yX11_keepForUndo ∈ wsA := iA_9 (List.mem_of_getElem? (i := 26) rfl)
theorem qA_927 : Cond.selects RX11 yX11_keepForUndo yX11_keepForUndo ∈ wsA := iA_9 (List.mem_of_getElem? (i := 27) rfl)
theorem qA_928 : Cond.code yX11_keepForUndo cX11_keepForUndo 1 none ∈ wsA := iA_9 (List.mem_of_getElem? (i := 28) rfl)
theorem qA_929 : Cond.fieldLink RX11 409 "AcousticCamera" "newest" "I" ∈ wsA := iA_9 (List.mem_of_getElem? (i := 29) rfl)
theorem qA_930 : Cond.code yX11_setWeight cX11_setWeight 4 (some .int) ∈ wsA := iA_9 (List.mem_of_getElem? (i := 30) rfl)
theorem qA_931 : Cond.code yX11_setOn cX11_setOn 4 (some .boolean) ∈ wsA := iA_9 (List.mem_of_getElem? (i := 31) rfl)
theorem qA_932 : Cond.code yX11_moveSource cX11_moveSource 4 (some .int) ∈ wsA := iA_9 (List.mem_of_getElem? (i := 32) rfl)
theorem qA_933 : Cond.code yX11_setVelocity cX11_setVelocity 4 (some .int) ∈ wsA := iA_9 (List.mem_of_getElem? (i := 33) rfl)
theorem qA_934 : Cond.code yX11_clean cX11_clean 3 (some .int) ∈ wsA := iA_9 (List.mem_of_getElem? (i := 34) rfl)
theorem qA_935 : Cond.methodLink RX11 394 yX8_activeWeight ∈ wsA := iA_9 (List.mem_of_getElem? (i := 35) rfl)
theorem qA_936 : Cond.methodLink RX11 400 yX8_subtractBeam ∈ wsA := iA_9 (List.mem_of_getElem? (i := 36) rfl)
theorem qA_937 : Cond.instanceMethod yX8_subtractBeam ∈ wsA := iA_9 (List.mem_of_getElem? (i := 37) rfl)
theorem qA_938 : Cond.selects RX8 yX8_subtractBeam yX8_subtractBeam ∈ wsA := iA_9 (List.mem_of_getElem? (i := 38) rfl)
theorem qA_939 : Cond.code yX11_cleaned cX11_cleaned 1 (some .int) ∈ wsA := iA_9 (List.mem_of_getElem? (i := 39) rfl)
theorem qA_940 : Cond.fieldLink RX11 403 "AcousticCamera$State" "timesCleaned" "I" ∈ wsA := iA_9 (List.mem_of_getElem? (i := 40) rfl)
theorem qA_941 : Cond.code yX11_undo cX11_undo 1 (some .int) ∈ wsA := iA_9 (List.mem_of_getElem? (i := 41) rfl)
theorem qA_943 : Cond.code yX11_save cX11_save 2 (some .int) ∈ wsA := iA_9 (List.mem_of_getElem? (i := 43) rfl)
theorem qA_944 : Cond.code yX11_restore cX11_restore 2 (some .int) ∈ wsA := iA_9 (List.mem_of_getElem? (i := 44) rfl)
theorem qA_946 : Cond.classLink RL 13 "java/lang/IndexOutOfBoundsException" ∈ wsA := iA_9 (List.mem_of_getElem? (i := 46) rfl)
theorem qA_947 : Cond.classLink RL 15 "java/lang/IllegalArgumentException" ∈ wsA := iA_9 (List.mem_of_getElem? (i := 47) rfl)
theorem qA_948 : Cond.methodLink RL 7 yX11_load ∈ wsA := iA_9 (List.mem_of_getElem? (i := 48) rfl)
theorem qA_949 : Cond.instanceMethod yX11_load ∈ wsA := iA_9 (List.mem_of_getElem? (i := 49) rfl)
theorem qA_950 : Cond.selects RX11 yX11_load yX11_load ∈ wsA := iA_9 (List.mem_of_getElem? (i := 50) rfl)
theorem qA_952 : Cond.classLink RL 21 "java/lang/IllegalStateException" ∈ wsA := iA_9 (List.mem_of_getElem? (i := 52) rfl)
theorem qA_953 : Cond.methodLink RL 17 yX11_micAt ∈ wsA := iA_9 (List.mem_of_getElem? (i := 53) rfl)
theorem qA_954 : Cond.instanceMethod yX11_micAt ∈ wsA := iA_9 (List.mem_of_getElem? (i := 54) rfl)
theorem qA_955 : Cond.selects RX11 yX11_micAt yX11_micAt ∈ wsA := iA_9 (List.mem_of_getElem? (i := 55) rfl)
theorem qA_957 : Cond.methodLink RL 23 yX11_isMuted ∈ wsA := iA_9 (List.mem_of_getElem? (i := 57) rfl)
theorem qA_958 : Cond.instanceMethod yX11_isMuted ∈ wsA := iA_9 (List.mem_of_getElem? (i := 58) rfl)
theorem qA_959 : Cond.selects RX11 yX11_isMuted yX11_isMuted ∈ wsA := iA_9 (List.mem_of_getElem? (i := 59) rfl)
theorem qA_961 : Cond.methodLink RL 27 yX11_cellAt ∈ wsA := iA_9 (List.mem_of_getElem? (i := 61) rfl)
theorem qA_962 : Cond.instanceMethod yX11_cellAt ∈ wsA := iA_9 (List.mem_of_getElem? (i := 62) rfl)
theorem qA_963 : Cond.selects RX11 yX11_cellAt yX11_cellAt ∈ wsA := iA_9 (List.mem_of_getElem? (i := 63) rfl)
theorem qA_965 : Cond.methodLink RL 30 yX11_sourceAt ∈ wsA := iA_9 (List.mem_of_getElem? (i := 65) rfl)
theorem qA_966 : Cond.instanceMethod yX11_sourceAt ∈ wsA := iA_9 (List.mem_of_getElem? (i := 66) rfl)
theorem qA_967 : Cond.selects RX11 yX11_sourceAt yX11_sourceAt ∈ wsA := iA_9 (List.mem_of_getElem? (i := 67) rfl)
theorem qA_969 : Cond.methodLink RL 34 yX11_isOn ∈ wsA := iA_9 (List.mem_of_getElem? (i := 69) rfl)
theorem qA_970 : Cond.instanceMethod yX11_isOn ∈ wsA := iA_9 (List.mem_of_getElem? (i := 70) rfl)
theorem qA_971 : Cond.selects RX11 yX11_isOn yX11_isOn ∈ wsA := iA_9 (List.mem_of_getElem? (i := 71) rfl)
theorem qA_973 : Cond.methodLink RL 37 yX11_waveAt ∈ wsA := iA_9 (List.mem_of_getElem? (i := 73) rfl)
theorem qA_974 : Cond.instanceMethod yX11_waveAt ∈ wsA := iA_9 (List.mem_of_getElem? (i := 74) rfl)
theorem qA_975 : Cond.selects RX11 yX11_waveAt yX11_waveAt ∈ wsA := iA_9 (List.mem_of_getElem? (i := 75) rfl)
theorem qA_977 : Cond.methodLink RL 40 yX11_delay ∈ wsA := iA_9 (List.mem_of_getElem? (i := 77) rfl)
theorem qA_978 : Cond.instanceMethod yX11_delay ∈ wsA := iA_9 (List.mem_of_getElem? (i := 78) rfl)
theorem qA_979 : Cond.selects RX11 yX11_delay yX11_delay ∈ wsA := iA_9 (List.mem_of_getElem? (i := 79) rfl)
theorem qA_981 : Cond.methodLink RL 43 yX11_delayTo ∈ wsA := iA_9 (List.mem_of_getElem? (i := 81) rfl)
theorem qA_982 : Cond.instanceMethod yX11_delayTo ∈ wsA := iA_9 (List.mem_of_getElem? (i := 82) rfl)
theorem qA_983 : Cond.selects RX11 yX11_delayTo yX11_delayTo ∈ wsA := iA_9 (List.mem_of_getElem? (i := 83) rfl)
theorem qA_985 : Cond.methodLink RL 46 yX11_spread ∈ wsA := iA_9 (List.mem_of_getElem? (i := 85) rfl)
theorem qA_986 : Cond.instanceMethod yX11_spread ∈ wsA := iA_9 (List.mem_of_getElem? (i := 86) rfl)
theorem qA_987 : Cond.selects RX11 yX11_spread yX11_spread ∈ wsA := iA_9 (List.mem_of_getElem? (i := 87) rfl)
theorem qA_989 : Cond.methodLink RL 49 yX11_window ∈ wsA := iA_9 (List.mem_of_getElem? (i := 89) rfl)
theorem qA_990 : Cond.instanceMethod yX11_window ∈ wsA := iA_9 (List.mem_of_getElem? (i := 90) rfl)
theorem qA_991 : Cond.selects RX11 yX11_window yX11_window ∈ wsA := iA_9 (List.mem_of_getElem? (i := 91) rfl)
theorem qA_993 : Cond.methodLink RL 52 yX11_sample ∈ wsA := iA_9 (List.mem_of_getElem? (i := 93) rfl)
theorem qA_994 : Cond.instanceMethod yX11_sample ∈ wsA := iA_9 (List.mem_of_getElem? (i := 94) rfl)
theorem qA_995 : Cond.selects RX11 yX11_sample yX11_sample ∈ wsA := iA_9 (List.mem_of_getElem? (i := 95) rfl)
theorem qA_997 : Cond.methodLink RL 55 yX11_beam ∈ wsA := iA_9 (List.mem_of_getElem? (i := 97) rfl)
theorem qA_998 : Cond.instanceMethod yX11_beam ∈ wsA := iA_9 (List.mem_of_getElem? (i := 98) rfl)
theorem qA_999 : Cond.selects RX11 yX11_beam yX11_beam ∈ wsA := iA_9 (List.mem_of_getElem? (i := 99) rfl)
theorem qA_1001 : Cond.methodLink RL 58 yX11_power ∈ wsA := iA_10 (List.mem_of_getElem? (i := 1) rfl)
theorem qA_1002 : Cond.instanceMethod yX11_power ∈ wsA := iA_10 (List.mem_of_getElem? (i := 2) rfl)
theorem qA_1003 : Cond.selects RX11 yX11_power yX11_power ∈ wsA := iA_10 (List.mem_of_getElem? (i := 3) rfl)
theorem qA_1005 : Cond.methodLink RL 62 yX11_powerAt ∈ wsA := iA_10 (List.mem_of_getElem? (i := 5) rfl)
theorem qA_1006 : Cond.instanceMethod yX11_powerAt ∈ wsA := iA_10 (List.mem_of_getElem? (i := 6) rfl)
theorem qA_1007 : Cond.selects RX11 yX11_powerAt yX11_powerAt ∈ wsA := iA_10 (List.mem_of_getElem? (i := 7) rfl)
theorem qA_1009 : Cond.methodLink RL 66 yX11_best ∈ wsA := iA_10 (List.mem_of_getElem? (i := 9) rfl)
theorem qA_1010 : Cond.instanceMethod yX11_best ∈ wsA := iA_10 (List.mem_of_getElem? (i := 10) rfl)
theorem qA_1011 : Cond.selects RX11 yX11_best yX11_best ∈ wsA := iA_10 (List.mem_of_getElem? (i := 11) rfl)
theorem qA_1013 : Cond.methodLink RL 70 yX11_bestPower ∈ wsA := iA_10 (List.mem_of_getElem? (i := 13) rfl)
theorem qA_1014 : Cond.instanceMethod yX11_bestPower ∈ wsA := iA_10 (List.mem_of_getElem? (i := 14) rfl)
theorem qA_1015 : Cond.selects RX11 yX11_bestPower yX11_bestPower ∈ wsA := iA_10 (List.mem_of_getElem? (i := 15) rfl)
theorem qA_1017 : Cond.methodLink RL 74 yX11_meanPower ∈ wsA := iA_10 (List.mem_of_getElem? (i := 17) rfl)
theorem qA_1018 : Cond.instanceMethod yX11_meanPower ∈ wsA := iA_10 (List.mem_of_getElem? (i := 18) rfl)
theorem qA_1019 : Cond.selects RX11 yX11_meanPower yX11_meanPower ∈ wsA := iA_10 (List.mem_of_getElem? (i := 19) rfl)
theorem qA_1021 : Cond.methodLink RL 77 yX11_peaks ∈ wsA := iA_10 (List.mem_of_getElem? (i := 21) rfl)
theorem qA_1022 : Cond.instanceMethod yX11_peaks ∈ wsA := iA_10 (List.mem_of_getElem? (i := 22) rfl)
theorem qA_1023 : Cond.selects RX11 yX11_peaks yX11_peaks ∈ wsA := iA_10 (List.mem_of_getElem? (i := 23) rfl)
theorem qA_1025 : Cond.methodLink RL 80 yX11_peakAt ∈ wsA := iA_10 (List.mem_of_getElem? (i := 25) rfl)
theorem qA_1026 : Cond.instanceMethod yX11_peakAt ∈ wsA := iA_10 (List.mem_of_getElem? (i := 26) rfl)
theorem qA_1027 : Cond.selects RX11 yX11_peakAt yX11_peakAt ∈ wsA := iA_10 (List.mem_of_getElem? (i := 27) rfl)
theorem qA_1029 : Cond.methodLink RL 83 yX11_isPeak ∈ wsA := iA_10 (List.mem_of_getElem? (i := 29) rfl)
theorem qA_1030 : Cond.instanceMethod yX11_isPeak ∈ wsA := iA_10 (List.mem_of_getElem? (i := 30) rfl)
theorem qA_1031 : Cond.selects RX11 yX11_isPeak yX11_isPeak ∈ wsA := iA_10 (List.mem_of_getElem? (i := 31) rfl)
theorem qA_1033 : Cond.methodLink RL 86 yX11_zonePower ∈ wsA := iA_10 (List.mem_of_getElem? (i := 33) rfl)
theorem qA_1034 : Cond.instanceMethod yX11_zonePower ∈ wsA := iA_10 (List.mem_of_getElem? (i := 34) rfl)
theorem qA_1035 : Cond.selects RX11 yX11_zonePower yX11_zonePower ∈ wsA := iA_10 (List.mem_of_getElem? (i := 35) rfl)
theorem qA_1037 : Cond.methodLink RL 89 yX11_zoneBest ∈ wsA := iA_10 (List.mem_of_getElem? (i := 37) rfl)
theorem qA_1038 : Cond.instanceMethod yX11_zoneBest ∈ wsA := iA_10 (List.mem_of_getElem? (i := 38) rfl)
theorem qA_1039 : Cond.selects RX11 yX11_zoneBest yX11_zoneBest ∈ wsA := iA_10 (List.mem_of_getElem? (i := 39) rfl)
theorem qA_1041 : Cond.methodLink RL 92 yX11_contrast ∈ wsA := iA_10 (List.mem_of_getElem? (i := 41) rfl)
theorem qA_1042 : Cond.instanceMethod yX11_contrast ∈ wsA := iA_10 (List.mem_of_getElem? (i := 42) rfl)
theorem qA_1043 : Cond.selects RX11 yX11_contrast yX11_contrast ∈ wsA := iA_10 (List.mem_of_getElem? (i := 43) rfl)
theorem qA_1045 : Cond.methodLink RL 96 yX11_alias ∈ wsA := iA_10 (List.mem_of_getElem? (i := 45) rfl)
theorem qA_1046 : Cond.instanceMethod yX11_alias ∈ wsA := iA_10 (List.mem_of_getElem? (i := 46) rfl)
theorem qA_1047 : Cond.selects RX11 yX11_alias yX11_alias ∈ wsA := iA_10 (List.mem_of_getElem? (i := 47) rfl)
theorem qA_1049 : Cond.methodLink RL 99 yX11_isAlias ∈ wsA := iA_10 (List.mem_of_getElem? (i := 49) rfl)
theorem qA_1050 : Cond.instanceMethod yX11_isAlias ∈ wsA := iA_10 (List.mem_of_getElem? (i := 50) rfl)
theorem qA_1051 : Cond.selects RX11 yX11_isAlias yX11_isAlias ∈ wsA := iA_10 (List.mem_of_getElem? (i := 51) rfl)
theorem qA_1053 : Cond.methodLink RL 103 yX11_aliases ∈ wsA := iA_10 (List.mem_of_getElem? (i := 53) rfl)
theorem qA_1054 : Cond.instanceMethod yX11_aliases ∈ wsA := iA_10 (List.mem_of_getElem? (i := 54) rfl)
theorem qA_1055 : Cond.selects RX11 yX11_aliases yX11_aliases ∈ wsA := iA_10 (List.mem_of_getElem? (i := 55) rfl)
theorem qA_1057 : Cond.methodLink RL 106 yX11_blockPower ∈ wsA := iA_10 (List.mem_of_getElem? (i := 57) rfl)
theorem qA_1058 : Cond.instanceMethod yX11_blockPower ∈ wsA := iA_10 (List.mem_of_getElem? (i := 58) rfl)
theorem qA_1059 : Cond.selects RX11 yX11_blockPower yX11_blockPower ∈ wsA := iA_10 (List.mem_of_getElem? (i := 59) rfl)
theorem qA_1061 : Cond.methodLink RL 110 yX11_blockBest ∈ wsA := iA_10 (List.mem_of_getElem? (i := 61) rfl)
theorem qA_1062 : Cond.instanceMethod yX11_blockBest ∈ wsA := iA_10 (List.mem_of_getElem? (i := 62) rfl)
theorem qA_1063 : Cond.selects RX11 yX11_blockBest yX11_blockBest ∈ wsA := iA_10 (List.mem_of_getElem? (i := 63) rfl)
theorem qA_1065 : Cond.methodLink RL 113 yX11_path ∈ wsA := iA_10 (List.mem_of_getElem? (i := 65) rfl)
theorem qA_1066 : Cond.instanceMethod yX11_path ∈ wsA := iA_10 (List.mem_of_getElem? (i := 66) rfl)
theorem qA_1067 : Cond.selects RX11 yX11_path yX11_path ∈ wsA := iA_10 (List.mem_of_getElem? (i := 67) rfl)
theorem qA_1069 : Cond.methodLink RL 116 yX11_trackScore ∈ wsA := iA_10 (List.mem_of_getElem? (i := 69) rfl)
theorem qA_1070 : Cond.instanceMethod yX11_trackScore ∈ wsA := iA_10 (List.mem_of_getElem? (i := 70) rfl)
theorem qA_1071 : Cond.selects RX11 yX11_trackScore yX11_trackScore ∈ wsA := iA_10 (List.mem_of_getElem? (i := 71) rfl)
theorem qA_1073 : Cond.methodLink RL 119 yX11_trackCell ∈ wsA := iA_10 (List.mem_of_getElem? (i := 73) rfl)
theorem qA_1074 : Cond.instanceMethod yX11_trackCell ∈ wsA := iA_10 (List.mem_of_getElem? (i := 74) rfl)
theorem qA_1075 : Cond.selects RX11 yX11_trackCell yX11_trackCell ∈ wsA := iA_10 (List.mem_of_getElem? (i := 75) rfl)
theorem qA_1077 : Cond.methodLink RL 122 yX11_movingPower ∈ wsA := iA_10 (List.mem_of_getElem? (i := 77) rfl)
theorem qA_1078 : Cond.instanceMethod yX11_movingPower ∈ wsA := iA_10 (List.mem_of_getElem? (i := 78) rfl)
theorem qA_1079 : Cond.selects RX11 yX11_movingPower yX11_movingPower ∈ wsA := iA_10 (List.mem_of_getElem? (i := 79) rfl)
theorem qA_1081 : Cond.methodLink RL 125 yX11_bestVelocity ∈ wsA := iA_10 (List.mem_of_getElem? (i := 81) rfl)
theorem qA_1082 : Cond.instanceMethod yX11_bestVelocity ∈ wsA := iA_10 (List.mem_of_getElem? (i := 82) rfl)
theorem qA_1083 : Cond.selects RX11 yX11_bestVelocity yX11_bestVelocity ∈ wsA := iA_10 (List.mem_of_getElem? (i := 83) rfl)
theorem qA_1085 : Cond.methodLink RL 128 yX11_correlation ∈ wsA := iA_10 (List.mem_of_getElem? (i := 85) rfl)
theorem qA_1086 : Cond.instanceMethod yX11_correlation ∈ wsA := iA_10 (List.mem_of_getElem? (i := 86) rfl)
theorem qA_1087 : Cond.selects RX11 yX11_correlation yX11_correlation ∈ wsA := iA_10 (List.mem_of_getElem? (i := 87) rfl)
theorem qA_1089 : Cond.methodLink RL 131 yX11_bestLag ∈ wsA := iA_10 (List.mem_of_getElem? (i := 89) rfl)
theorem qA_1090 : Cond.instanceMethod yX11_bestLag ∈ wsA := iA_10 (List.mem_of_getElem? (i := 90) rfl)
theorem qA_1091 : Cond.selects RX11 yX11_bestLag yX11_bestLag ∈ wsA := iA_10 (List.mem_of_getElem? (i := 91) rfl)
theorem qA_1093 : Cond.methodLink RL 134 yX11_level ∈ wsA := iA_10 (List.mem_of_getElem? (i := 93) rfl)
theorem qA_1094 : Cond.instanceMethod yX11_level ∈ wsA := iA_10 (List.mem_of_getElem? (i := 94) rfl)
theorem qA_1095 : Cond.selects RX11 yX11_level yX11_level ∈ wsA := iA_10 (List.mem_of_getElem? (i := 95) rfl)
theorem qA_1097 : Cond.methodLink RL 137 yX11_loudest ∈ wsA := iA_10 (List.mem_of_getElem? (i := 97) rfl)
theorem qA_1098 : Cond.instanceMethod yX11_loudest ∈ wsA := iA_10 (List.mem_of_getElem? (i := 98) rfl)
theorem qA_1099 : Cond.selects RX11 yX11_loudest yX11_loudest ∈ wsA := iA_10 (List.mem_of_getElem? (i := 99) rfl)
theorem qA_1101 : Cond.methodLink RL 140 yX11_writeMap ∈ wsA := iA_11 (List.mem_of_getElem? (i := 1) rfl)
theorem qA_1102 : Cond.instanceMethod yX11_writeMap ∈ wsA := iA_11 (List.mem_of_getElem? (i := 2) rfl)
theorem qA_1103 : Cond.selects RX11 yX11_writeMap yX11_writeMap ∈ wsA := iA_11 (List.mem_of_getElem? (i := 3) rfl)
theorem qA_1105 : Cond.methodLink RL 143 yX11_mapByte ∈ wsA := iA_11 (List.mem_of_getElem? (i := 5) rfl)
theorem qA_1106 : Cond.instanceMethod yX11_mapByte ∈ wsA := iA_11 (List.mem_of_getElem? (i := 6) rfl)
theorem qA_1107 : Cond.selects RX11 yX11_mapByte yX11_mapByte ∈ wsA := iA_11 (List.mem_of_getElem? (i := 7) rfl)
theorem qA_1109 : Cond.methodLink RL 146 yX11_pointBest ∈ wsA := iA_11 (List.mem_of_getElem? (i := 9) rfl)
theorem qA_1110 : Cond.instanceMethod yX11_pointBest ∈ wsA := iA_11 (List.mem_of_getElem? (i := 10) rfl)
theorem qA_1111 : Cond.selects RX11 yX11_pointBest yX11_pointBest ∈ wsA := iA_11 (List.mem_of_getElem? (i := 11) rfl)
theorem qA_1113 : Cond.methodLink RL 149 yX11_pointPower ∈ wsA := iA_11 (List.mem_of_getElem? (i := 13) rfl)
theorem qA_1114 : Cond.instanceMethod yX11_pointPower ∈ wsA := iA_11 (List.mem_of_getElem? (i := 14) rfl)
theorem qA_1115 : Cond.selects RX11 yX11_pointPower yX11_pointPower ∈ wsA := iA_11 (List.mem_of_getElem? (i := 15) rfl)
theorem qA_1117 : Cond.methodLink RL 152 yX11_bestWithout ∈ wsA := iA_11 (List.mem_of_getElem? (i := 17) rfl)
theorem qA_1118 : Cond.instanceMethod yX11_bestWithout ∈ wsA := iA_11 (List.mem_of_getElem? (i := 18) rfl)
theorem qA_1119 : Cond.selects RX11 yX11_bestWithout yX11_bestWithout ∈ wsA := iA_11 (List.mem_of_getElem? (i := 19) rfl)
theorem qA_1121 : Cond.methodLink RL 155 yX11_bestIfOff ∈ wsA := iA_11 (List.mem_of_getElem? (i := 21) rfl)
theorem qA_1122 : Cond.instanceMethod yX11_bestIfOff ∈ wsA := iA_11 (List.mem_of_getElem? (i := 22) rfl)
theorem qA_1123 : Cond.selects RX11 yX11_bestIfOff yX11_bestIfOff ∈ wsA := iA_11 (List.mem_of_getElem? (i := 23) rfl)
theorem qA_1125 : Cond.methodLink RL 158 yX11_mute ∈ wsA := iA_11 (List.mem_of_getElem? (i := 25) rfl)
theorem qA_1126 : Cond.instanceMethod yX11_mute ∈ wsA := iA_11 (List.mem_of_getElem? (i := 26) rfl)
theorem qA_1127 : Cond.selects RX11 yX11_mute yX11_mute ∈ wsA := iA_11 (List.mem_of_getElem? (i := 27) rfl)
theorem qA_1129 : Cond.methodLink RL 162 yX11_setWeight ∈ wsA := iA_11 (List.mem_of_getElem? (i := 29) rfl)
theorem qA_1130 : Cond.instanceMethod yX11_setWeight ∈ wsA := iA_11 (List.mem_of_getElem? (i := 30) rfl)
theorem qA_1131 : Cond.selects RX11 yX11_setWeight yX11_setWeight ∈ wsA := iA_11 (List.mem_of_getElem? (i := 31) rfl)
theorem qA_1133 : Cond.methodLink RL 165 yX11_setOn ∈ wsA := iA_11 (List.mem_of_getElem? (i := 33) rfl)
theorem qA_1134 : Cond.instanceMethod yX11_setOn ∈ wsA := iA_11 (List.mem_of_getElem? (i := 34) rfl)
theorem qA_1135 : Cond.selects RX11 yX11_setOn yX11_setOn ∈ wsA := iA_11 (List.mem_of_getElem? (i := 35) rfl)
theorem qA_1137 : Cond.methodLink RL 168 yX11_moveSource ∈ wsA := iA_11 (List.mem_of_getElem? (i := 37) rfl)
theorem qA_1138 : Cond.instanceMethod yX11_moveSource ∈ wsA := iA_11 (List.mem_of_getElem? (i := 38) rfl)
theorem qA_1139 : Cond.selects RX11 yX11_moveSource yX11_moveSource ∈ wsA := iA_11 (List.mem_of_getElem? (i := 39) rfl)
theorem qA_1141 : Cond.methodLink RL 171 yX11_setVelocity ∈ wsA := iA_11 (List.mem_of_getElem? (i := 41) rfl)
theorem qA_1142 : Cond.instanceMethod yX11_setVelocity ∈ wsA := iA_11 (List.mem_of_getElem? (i := 42) rfl)
theorem qA_1143 : Cond.selects RX11 yX11_setVelocity yX11_setVelocity ∈ wsA := iA_11 (List.mem_of_getElem? (i := 43) rfl)
theorem qA_1145 : Cond.methodLink RL 174 yX11_clean ∈ wsA := iA_11 (List.mem_of_getElem? (i := 45) rfl)
theorem qA_1146 : Cond.instanceMethod yX11_clean ∈ wsA := iA_11 (List.mem_of_getElem? (i := 46) rfl)
theorem qA_1147 : Cond.selects RX11 yX11_clean yX11_clean ∈ wsA := iA_11 (List.mem_of_getElem? (i := 47) rfl)
theorem qA_1149 : Cond.methodLink RL 177 yX11_cleaned ∈ wsA := iA_11 (List.mem_of_getElem? (i := 49) rfl)
theorem qA_1150 : Cond.instanceMethod yX11_cleaned ∈ wsA := iA_11 (List.mem_of_getElem? (i := 50) rfl)
theorem qA_1151 : Cond.selects RX11 yX11_cleaned yX11_cleaned ∈ wsA := iA_11 (List.mem_of_getElem? (i := 51) rfl)
theorem qA_1153 : Cond.methodLink RL 180 yX11_undo ∈ wsA := iA_11 (List.mem_of_getElem? (i := 53) rfl)
theorem qA_1154 : Cond.instanceMethod yX11_undo ∈ wsA := iA_11 (List.mem_of_getElem? (i := 54) rfl)
theorem qA_1155 : Cond.selects RX11 yX11_undo yX11_undo ∈ wsA := iA_11 (List.mem_of_getElem? (i := 55) rfl)
theorem qA_1157 : Cond.methodLink RL 183 yX11_save ∈ wsA := iA_11 (List.mem_of_getElem? (i := 57) rfl)
theorem qA_1158 : Cond.instanceMethod yX11_save ∈ wsA := iA_11 (List.mem_of_getElem? (i := 58) rfl)
theorem qA_1159 : Cond.selects RX11 yX11_save yX11_save ∈ wsA := iA_11 (List.mem_of_getElem? (i := 59) rfl)
theorem qA_1161 : Cond.methodLink RL 186 yX11_restore ∈ wsA := iA_11 (List.mem_of_getElem? (i := 61) rfl)
theorem qA_1162 : Cond.instanceMethod yX11_restore ∈ wsA := iA_11 (List.mem_of_getElem? (i := 62) rfl)
theorem qA_1163 : Cond.selects RX11 yX11_restore yX11_restore ∈ wsA := iA_11 (List.mem_of_getElem? (i := 63) rfl)
theorem gaIn {c0 cw : Cond} {L : List Cond} (hL : ∀ w ∈ L, w ∈ wsA) (hc : cw ∈ wsA) : GoodIn (c0 :: wsA) (L ++ (cw :: wsA)) := by
  intro w hw
  have hm : w ∈ wsA := by
    rcases List.mem_append.mp hw with h | h
    · exact hL w h
    · rcases List.mem_cons.mp h with rfl | h
      · exact hc
      · exact h
  exact ⟨List.mem_cons_of_mem _ hm, good_of_word (gA w hm)⟩
theorem gaC {c0 cw : Cond} (hc : cw ∈ wsA) : GoodIn (c0 :: wsA) (cw :: wsA) := gaIn (L := []) (fun _ h => absurd h List.not_mem_nil) hc
theorem gaV {c0 cw : Cond} {own C : String} {idx : Nat} {y : MethodName} (h1 : Cond.methodLink own idx y ∈ wsA) (h2 : Cond.instanceMethod y ∈ wsA) (h3 : Cond.selects C y y ∈ wsA) (h4 : Cond.initialized C ∈ wsA) (hc : cw ∈ wsA) : GoodIn (c0 :: wsA) (wsV own idx C y (cw :: wsA)) :=
  gaIn (List.forall_mem_cons.mpr ⟨h1, List.forall_mem_cons.mpr ⟨h2, List.forall_mem_cons.mpr ⟨h3, List.forall_mem_cons.mpr ⟨h4, fun _ h => absurd h List.not_mem_nil⟩⟩⟩⟩) hc
theorem gaS {c0 cw : Cond} {own : String} {idx : Nat} {y : MethodName} (h1 : Cond.methodLink own idx y ∈ wsA) (h2 : Cond.static y ∈ wsA) (h3 : Cond.initialized own ∈ wsA) (hc : cw ∈ wsA) : GoodIn (c0 :: wsA) (wsS own idx y (cw :: wsA)) :=
  gaIn (List.forall_mem_cons.mpr ⟨h1, List.forall_mem_cons.mpr ⟨h2, List.forall_mem_cons.mpr ⟨h3, fun _ h => absurd h List.not_mem_nil⟩⟩⟩) hc
end
section
/-! 02s.law.lean.txt -/
theorem dL_load_0 : decode cL_load 0 = .ok (.aload_n 2, 1) := ybd_44 (by decide +kernel)
theorem dL_load_1 : decode cL_load 1 = .ok (.iconst 0, 1) := ybd_3 (by decide +kernel)
theorem dL_load_2 : decode cL_load 2 = .ok (.aload_n 0, 1) := ybd_42 (by decide +kernel)
theorem dL_load_3 : decode cL_load 3 = .ok (.iload_n 1, 1) := ybd_27 (by decide +kernel)
theorem dL_load_4 : decode cL_load 4 = .ok (.invokevirtual 7, 3) := ybd_182 0 7 (by decide +kernel) rfl
theorem dL_load_7 : decode cL_load 7 = .ok (.i2l, 1) := ybd_133 (by decide +kernel)
theorem dL_load_8 : decode cL_load 8 = .ok (.lastore, 1) := ybd_80 (by decide +kernel)
theorem dL_load_9 : decode cL_load 9 = .ok (.goto 9, 3) := ybd_167 0 9 (by decide +kernel) (by decide +kernel)
theorem dL_load_12 : decode cL_load 12 = .ok (.astore_n 3, 1) := ybd_78 (by decide +kernel)
theorem dL_load_13 : decode cL_load 13 = .ok (.iconst 1, 1) := ybd_4 (by decide +kernel)
theorem dL_load_14 : decode cL_load 14 = .ok (.ireturn, 1) := ybd_172 (by decide +kernel)
theorem dL_load_15 : decode cL_load 15 = .ok (.astore_n 3, 1) := ybd_78 (by decide +kernel)
theorem dL_load_16 : decode cL_load 16 = .ok (.iconst 2, 1) := ybd_5 (by decide +kernel)
theorem dL_load_17 : decode cL_load 17 = .ok (.ireturn, 1) := ybd_172 (by decide +kernel)
theorem dL_load_18 : decode cL_load 18 = .ok (.iconst 0, 1) := ybd_3 (by decide +kernel)
theorem dL_load_19 : decode cL_load 19 = .ok (.ireturn, 1) := ybd_172 (by decide +kernel)
theorem dL_micAt_0 : decode cL_micAt 0 = .ok (.aload_n 3, 1) := ybd_45 (by decide +kernel)
theorem dL_micAt_1 : decode cL_micAt 1 = .ok (.iconst 0, 1) := ybd_3 (by decide +kernel)
theorem dL_micAt_2 : decode cL_micAt 2 = .ok (.aload_n 0, 1) := ybd_42 (by decide +kernel)
theorem dL_micAt_3 : decode cL_micAt 3 = .ok (.iload_n 1, 1) := ybd_27 (by decide +kernel)
theorem dL_micAt_4 : decode cL_micAt 4 = .ok (.iload_n 2, 1) := ybd_28 (by decide +kernel)
theorem dL_micAt_5 : decode cL_micAt 5 = .ok (.invokevirtual 17, 3) := ybd_182 0 17 (by decide +kernel) rfl
theorem dL_micAt_8 : decode cL_micAt 8 = .ok (.i2l, 1) := ybd_133 (by decide +kernel)
theorem dL_micAt_9 : decode cL_micAt 9 = .ok (.lastore, 1) := ybd_80 (by decide +kernel)
theorem dL_micAt_10 : decode cL_micAt 10 = .ok (.goto 15, 3) := ybd_167 0 15 (by decide +kernel) (by decide +kernel)
theorem dL_micAt_13 : decode cL_micAt 13 = .ok (.astore 4, 2) := ybd_58 4 (by decide +kernel) rfl
theorem dL_micAt_15 : decode cL_micAt 15 = .ok (.iconst 1, 1) := ybd_4 (by decide +kernel)
theorem dL_micAt_16 : decode cL_micAt 16 = .ok (.ireturn, 1) := ybd_172 (by decide +kernel)
theorem dL_micAt_17 : decode cL_micAt 17 = .ok (.astore 4, 2) := ybd_58 4 (by decide +kernel) rfl
theorem dL_micAt_19 : decode cL_micAt 19 = .ok (.iconst 2, 1) := ybd_5 (by decide +kernel)
theorem dL_micAt_20 : decode cL_micAt 20 = .ok (.ireturn, 1) := ybd_172 (by decide +kernel)
theorem dL_micAt_21 : decode cL_micAt 21 = .ok (.astore 4, 2) := ybd_58 4 (by decide +kernel) rfl
theorem dL_micAt_23 : decode cL_micAt 23 = .ok (.iconst 3, 1) := ybd_6 (by decide +kernel)
theorem dL_micAt_24 : decode cL_micAt 24 = .ok (.ireturn, 1) := ybd_172 (by decide +kernel)
theorem dL_micAt_25 : decode cL_micAt 25 = .ok (.iconst 0, 1) := ybd_3 (by decide +kernel)
theorem dL_micAt_26 : decode cL_micAt 26 = .ok (.ireturn, 1) := ybd_172 (by decide +kernel)
theorem dL_isMuted_0 : decode cL_isMuted 0 = .ok (.aload_n 2, 1) := ybd_44 (by decide +kernel)
theorem dL_isMuted_1 : decode cL_isMuted 1 = .ok (.iconst 0, 1) := ybd_3 (by decide +kernel)
theorem dL_isMuted_2 : decode cL_isMuted 2 = .ok (.aload_n 0, 1) := ybd_42 (by decide +kernel)
theorem dL_isMuted_3 : decode cL_isMuted 3 = .ok (.iload_n 1, 1) := ybd_27 (by decide +kernel)
theorem dL_isMuted_4 : decode cL_isMuted 4 = .ok (.invokevirtual 23, 3) := ybd_182 0 23 (by decide +kernel) rfl
theorem dL_isMuted_7 : decode cL_isMuted 7 = .ok (.ifCond .eq 7, 3) := ybd_153 0 7 (by decide +kernel) (by decide +kernel)
theorem dL_isMuted_10 : decode cL_isMuted 10 = .ok (.lconst 1, 1) := ybd_10 (by decide +kernel)
theorem dL_isMuted_11 : decode cL_isMuted 11 = .ok (.goto 4, 3) := ybd_167 0 4 (by decide +kernel) (by decide +kernel)
theorem dL_isMuted_14 : decode cL_isMuted 14 = .ok (.lconst 0, 1) := ybd_9 (by decide +kernel)
theorem dL_isMuted_15 : decode cL_isMuted 15 = .ok (.lastore, 1) := ybd_80 (by decide +kernel)
theorem dL_isMuted_16 : decode cL_isMuted 16 = .ok (.goto 9, 3) := ybd_167 0 9 (by decide +kernel) (by decide +kernel)
theorem dL_isMuted_19 : decode cL_isMuted 19 = .ok (.astore_n 3, 1) := ybd_78 (by decide +kernel)
theorem dL_isMuted_20 : decode cL_isMuted 20 = .ok (.iconst 1, 1) := ybd_4 (by decide +kernel)
theorem dL_isMuted_21 : decode cL_isMuted 21 = .ok (.ireturn, 1) := ybd_172 (by decide +kernel)
theorem dL_isMuted_22 : decode cL_isMuted 22 = .ok (.astore_n 3, 1) := ybd_78 (by decide +kernel)
theorem dL_isMuted_23 : decode cL_isMuted 23 = .ok (.iconst 2, 1) := ybd_5 (by decide +kernel)
theorem dL_isMuted_24 : decode cL_isMuted 24 = .ok (.ireturn, 1) := ybd_172 (by decide +kernel)
theorem dL_isMuted_25 : decode cL_isMuted 25 = .ok (.iconst 0, 1) := ybd_3 (by decide +kernel)
theorem dL_isMuted_26 : decode cL_isMuted 26 = .ok (.ireturn, 1) := ybd_172 (by decide +kernel)
theorem dL_cellAt_0 : decode cL_cellAt 0 = .ok (.aload_n 3, 1) := ybd_45 (by decide +kernel)
theorem dL_cellAt_1 : decode cL_cellAt 1 = .ok (.iconst 0, 1) := ybd_3 (by decide +kernel)
theorem dL_cellAt_2 : decode cL_cellAt 2 = .ok (.aload_n 0, 1) := ybd_42 (by decide +kernel)
theorem dL_cellAt_3 : decode cL_cellAt 3 = .ok (.iload_n 1, 1) := ybd_27 (by decide +kernel)
theorem dL_cellAt_4 : decode cL_cellAt 4 = .ok (.iload_n 2, 1) := ybd_28 (by decide +kernel)
theorem dL_cellAt_5 : decode cL_cellAt 5 = .ok (.invokevirtual 27, 3) := ybd_182 0 27 (by decide +kernel) rfl
theorem dL_cellAt_8 : decode cL_cellAt 8 = .ok (.i2l, 1) := ybd_133 (by decide +kernel)
theorem dL_cellAt_9 : decode cL_cellAt 9 = .ok (.lastore, 1) := ybd_80 (by decide +kernel)
theorem dL_cellAt_10 : decode cL_cellAt 10 = .ok (.goto 15, 3) := ybd_167 0 15 (by decide +kernel) (by decide +kernel)
theorem dL_cellAt_13 : decode cL_cellAt 13 = .ok (.astore 4, 2) := ybd_58 4 (by decide +kernel) rfl
theorem dL_cellAt_15 : decode cL_cellAt 15 = .ok (.iconst 1, 1) := ybd_4 (by decide +kernel)
theorem dL_cellAt_16 : decode cL_cellAt 16 = .ok (.ireturn, 1) := ybd_172 (by decide +kernel)
theorem dL_cellAt_17 : decode cL_cellAt 17 = .ok (.astore 4, 2) := ybd_58 4 (by decide +kernel) rfl
theorem dL_cellAt_19 : decode cL_cellAt 19 = .ok (.iconst 2, 1) := ybd_5 (by decide +kernel)
theorem dL_cellAt_20 : decode cL_cellAt 20 = .ok (.ireturn, 1) := ybd_172 (by decide +kernel)
theorem dL_cellAt_21 : decode cL_cellAt 21 = .ok (.astore 4, 2) := ybd_58 4 (by decide +kernel) rfl
theorem dL_cellAt_23 : decode cL_cellAt 23 = .ok (.iconst 3, 1) := ybd_6 (by decide +kernel)
theorem dL_cellAt_24 : decode cL_cellAt 24 = .ok (.ireturn, 1) := ybd_172 (by decide +kernel)
theorem dL_cellAt_25 : decode cL_cellAt 25 = .ok (.iconst 0, 1) := ybd_3 (by decide +kernel)
theorem dL_cellAt_26 : decode cL_cellAt 26 = .ok (.ireturn, 1) := ybd_172 (by decide +kernel)
theorem dL_sourceAt_0 : decode cL_sourceAt 0 = .ok (.aload 4, 2) := ybd_25 4 (by decide +kernel) rfl
theorem dL_sourceAt_2 : decode cL_sourceAt 2 = .ok (.iconst 0, 1) := ybd_3 (by decide +kernel)
theorem dL_sourceAt_3 : decode cL_sourceAt 3 = .ok (.aload_n 0, 1) := ybd_42 (by decide +kernel)
theorem dL_sourceAt_4 : decode cL_sourceAt 4 = .ok (.iload_n 1, 1) := ybd_27 (by decide +kernel)
theorem dL_sourceAt_5 : decode cL_sourceAt 5 = .ok (.iload_n 2, 1) := ybd_28 (by decide +kernel)
theorem dL_sourceAt_6 : decode cL_sourceAt 6 = .ok (.iload_n 3, 1) := ybd_29 (by decide +kernel)
theorem dL_sourceAt_7 : decode cL_sourceAt 7 = .ok (.invokevirtual 30, 3) := ybd_182 0 30 (by decide +kernel) rfl
theorem dL_sourceAt_10 : decode cL_sourceAt 10 = .ok (.i2l, 1) := ybd_133 (by decide +kernel)
theorem dL_sourceAt_11 : decode cL_sourceAt 11 = .ok (.lastore, 1) := ybd_80 (by decide +kernel)
theorem dL_sourceAt_12 : decode cL_sourceAt 12 = .ok (.goto 15, 3) := ybd_167 0 15 (by decide +kernel) (by decide +kernel)
theorem dL_sourceAt_15 : decode cL_sourceAt 15 = .ok (.astore 5, 2) := ybd_58 5 (by decide +kernel) rfl
theorem dL_sourceAt_17 : decode cL_sourceAt 17 = .ok (.iconst 1, 1) := ybd_4 (by decide +kernel)
theorem dL_sourceAt_18 : decode cL_sourceAt 18 = .ok (.ireturn, 1) := ybd_172 (by decide +kernel)
theorem dL_sourceAt_19 : decode cL_sourceAt 19 = .ok (.astore 5, 2) := ybd_58 5 (by decide +kernel) rfl
theorem dL_sourceAt_21 : decode cL_sourceAt 21 = .ok (.iconst 2, 1) := ybd_5 (by decide +kernel)
theorem dL_sourceAt_22 : decode cL_sourceAt 22 = .ok (.ireturn, 1) := ybd_172 (by decide +kernel)
theorem dL_sourceAt_23 : decode cL_sourceAt 23 = .ok (.astore 5, 2) := ybd_58 5 (by decide +kernel) rfl
theorem dL_sourceAt_25 : decode cL_sourceAt 25 = .ok (.iconst 3, 1) := ybd_6 (by decide +kernel)
theorem dL_sourceAt_26 : decode cL_sourceAt 26 = .ok (.ireturn, 1) := ybd_172 (by decide +kernel)
theorem dL_sourceAt_27 : decode cL_sourceAt 27 = .ok (.iconst 0, 1) := ybd_3 (by decide +kernel)
theorem dL_sourceAt_28 : decode cL_sourceAt 28 = .ok (.ireturn, 1) := ybd_172 (by decide +kernel)
theorem dL_isOn_0 : decode cL_isOn 0 = .ok (.aload_n 2, 1) := ybd_44 (by decide +kernel)
theorem dL_isOn_1 : decode cL_isOn 1 = .ok (.iconst 0, 1) := ybd_3 (by decide +kernel)
theorem dL_isOn_2 : decode cL_isOn 2 = .ok (.aload_n 0, 1) := ybd_42 (by decide +kernel)
theorem dL_isOn_3 : decode cL_isOn 3 = .ok (.iload_n 1, 1) := ybd_27 (by decide +kernel)
theorem dL_isOn_4 : decode cL_isOn 4 = .ok (.invokevirtual 34, 3) := ybd_182 0 34 (by decide +kernel) rfl
theorem dL_isOn_7 : decode cL_isOn 7 = .ok (.ifCond .eq 7, 3) := ybd_153 0 7 (by decide +kernel) (by decide +kernel)
theorem dL_isOn_10 : decode cL_isOn 10 = .ok (.lconst 1, 1) := ybd_10 (by decide +kernel)
theorem dL_isOn_11 : decode cL_isOn 11 = .ok (.goto 4, 3) := ybd_167 0 4 (by decide +kernel) (by decide +kernel)
theorem dL_isOn_14 : decode cL_isOn 14 = .ok (.lconst 0, 1) := ybd_9 (by decide +kernel)
theorem dL_isOn_15 : decode cL_isOn 15 = .ok (.lastore, 1) := ybd_80 (by decide +kernel)
theorem dL_isOn_16 : decode cL_isOn 16 = .ok (.goto 9, 3) := ybd_167 0 9 (by decide +kernel) (by decide +kernel)
theorem dL_isOn_19 : decode cL_isOn 19 = .ok (.astore_n 3, 1) := ybd_78 (by decide +kernel)
theorem dL_isOn_20 : decode cL_isOn 20 = .ok (.iconst 1, 1) := ybd_4 (by decide +kernel)
theorem dL_isOn_21 : decode cL_isOn 21 = .ok (.ireturn, 1) := ybd_172 (by decide +kernel)
theorem dL_isOn_22 : decode cL_isOn 22 = .ok (.astore_n 3, 1) := ybd_78 (by decide +kernel)
theorem dL_isOn_23 : decode cL_isOn 23 = .ok (.iconst 2, 1) := ybd_5 (by decide +kernel)
theorem dL_isOn_24 : decode cL_isOn 24 = .ok (.ireturn, 1) := ybd_172 (by decide +kernel)
theorem dL_isOn_25 : decode cL_isOn 25 = .ok (.iconst 0, 1) := ybd_3 (by decide +kernel)
theorem dL_isOn_26 : decode cL_isOn 26 = .ok (.ireturn, 1) := ybd_172 (by decide +kernel)
theorem dL_waveAt_0 : decode cL_waveAt 0 = .ok (.aload_n 3, 1) := ybd_45 (by decide +kernel)
theorem dL_waveAt_1 : decode cL_waveAt 1 = .ok (.iconst 0, 1) := ybd_3 (by decide +kernel)
theorem dL_waveAt_2 : decode cL_waveAt 2 = .ok (.aload_n 0, 1) := ybd_42 (by decide +kernel)
theorem dL_waveAt_3 : decode cL_waveAt 3 = .ok (.iload_n 1, 1) := ybd_27 (by decide +kernel)
theorem dL_waveAt_4 : decode cL_waveAt 4 = .ok (.iload_n 2, 1) := ybd_28 (by decide +kernel)
theorem dL_waveAt_5 : decode cL_waveAt 5 = .ok (.invokevirtual 37, 3) := ybd_182 0 37 (by decide +kernel) rfl
theorem dL_waveAt_8 : decode cL_waveAt 8 = .ok (.i2l, 1) := ybd_133 (by decide +kernel)
theorem dL_waveAt_9 : decode cL_waveAt 9 = .ok (.lastore, 1) := ybd_80 (by decide +kernel)
theorem dL_waveAt_10 : decode cL_waveAt 10 = .ok (.goto 15, 3) := ybd_167 0 15 (by decide +kernel) (by decide +kernel)
theorem dL_waveAt_13 : decode cL_waveAt 13 = .ok (.astore 4, 2) := ybd_58 4 (by decide +kernel) rfl
theorem dL_waveAt_15 : decode cL_waveAt 15 = .ok (.iconst 1, 1) := ybd_4 (by decide +kernel)
theorem dL_waveAt_16 : decode cL_waveAt 16 = .ok (.ireturn, 1) := ybd_172 (by decide +kernel)
theorem dL_waveAt_17 : decode cL_waveAt 17 = .ok (.astore 4, 2) := ybd_58 4 (by decide +kernel) rfl
theorem dL_waveAt_19 : decode cL_waveAt 19 = .ok (.iconst 2, 1) := ybd_5 (by decide +kernel)
theorem dL_waveAt_20 : decode cL_waveAt 20 = .ok (.ireturn, 1) := ybd_172 (by decide +kernel)
theorem dL_waveAt_21 : decode cL_waveAt 21 = .ok (.astore 4, 2) := ybd_58 4 (by decide +kernel) rfl
theorem dL_waveAt_23 : decode cL_waveAt 23 = .ok (.iconst 3, 1) := ybd_6 (by decide +kernel)
theorem dL_waveAt_24 : decode cL_waveAt 24 = .ok (.ireturn, 1) := ybd_172 (by decide +kernel)
theorem dL_waveAt_25 : decode cL_waveAt 25 = .ok (.iconst 0, 1) := ybd_3 (by decide +kernel)
theorem dL_waveAt_26 : decode cL_waveAt 26 = .ok (.ireturn, 1) := ybd_172 (by decide +kernel)
theorem dL_delay_0 : decode cL_delay 0 = .ok (.aload_n 3, 1) := ybd_45 (by decide +kernel)
theorem dL_delay_1 : decode cL_delay 1 = .ok (.iconst 0, 1) := ybd_3 (by decide +kernel)
theorem dL_delay_2 : decode cL_delay 2 = .ok (.aload_n 0, 1) := ybd_42 (by decide +kernel)
theorem dL_delay_3 : decode cL_delay 3 = .ok (.iload_n 1, 1) := ybd_27 (by decide +kernel)
theorem dL_delay_4 : decode cL_delay 4 = .ok (.iload_n 2, 1) := ybd_28 (by decide +kernel)
theorem dL_delay_5 : decode cL_delay 5 = .ok (.invokevirtual 40, 3) := ybd_182 0 40 (by decide +kernel) rfl
theorem dL_delay_8 : decode cL_delay 8 = .ok (.i2l, 1) := ybd_133 (by decide +kernel)
theorem dL_delay_9 : decode cL_delay 9 = .ok (.lastore, 1) := ybd_80 (by decide +kernel)
theorem dL_delay_10 : decode cL_delay 10 = .ok (.goto 11, 3) := ybd_167 0 11 (by decide +kernel) (by decide +kernel)
theorem dL_delay_13 : decode cL_delay 13 = .ok (.astore 4, 2) := ybd_58 4 (by decide +kernel) rfl
theorem dL_delay_15 : decode cL_delay 15 = .ok (.iconst 1, 1) := ybd_4 (by decide +kernel)
theorem dL_delay_16 : decode cL_delay 16 = .ok (.ireturn, 1) := ybd_172 (by decide +kernel)
theorem dL_delay_17 : decode cL_delay 17 = .ok (.astore 4, 2) := ybd_58 4 (by decide +kernel) rfl
theorem dL_delay_19 : decode cL_delay 19 = .ok (.iconst 2, 1) := ybd_5 (by decide +kernel)
theorem dL_delay_20 : decode cL_delay 20 = .ok (.ireturn, 1) := ybd_172 (by decide +kernel)
theorem dL_delay_21 : decode cL_delay 21 = .ok (.iconst 0, 1) := ybd_3 (by decide +kernel)
theorem dL_delay_22 : decode cL_delay 22 = .ok (.ireturn, 1) := ybd_172 (by decide +kernel)
theorem dL_delayTo_0 : decode cL_delayTo 0 = .ok (.aload 4, 2) := ybd_25 4 (by decide +kernel) rfl
theorem dL_delayTo_2 : decode cL_delayTo 2 = .ok (.iconst 0, 1) := ybd_3 (by decide +kernel)
theorem dL_delayTo_3 : decode cL_delayTo 3 = .ok (.aload_n 0, 1) := ybd_42 (by decide +kernel)
theorem dL_delayTo_4 : decode cL_delayTo 4 = .ok (.iload_n 1, 1) := ybd_27 (by decide +kernel)
theorem dL_delayTo_5 : decode cL_delayTo 5 = .ok (.iload_n 2, 1) := ybd_28 (by decide +kernel)
theorem dL_delayTo_6 : decode cL_delayTo 6 = .ok (.iload_n 3, 1) := ybd_29 (by decide +kernel)
theorem dL_delayTo_7 : decode cL_delayTo 7 = .ok (.invokevirtual 43, 3) := ybd_182 0 43 (by decide +kernel) rfl
theorem dL_delayTo_10 : decode cL_delayTo 10 = .ok (.i2l, 1) := ybd_133 (by decide +kernel)
theorem dL_delayTo_11 : decode cL_delayTo 11 = .ok (.lastore, 1) := ybd_80 (by decide +kernel)
theorem dL_delayTo_12 : decode cL_delayTo 12 = .ok (.goto 15, 3) := ybd_167 0 15 (by decide +kernel) (by decide +kernel)
theorem dL_delayTo_15 : decode cL_delayTo 15 = .ok (.astore 5, 2) := ybd_58 5 (by decide +kernel) rfl
theorem dL_delayTo_17 : decode cL_delayTo 17 = .ok (.iconst 1, 1) := ybd_4 (by decide +kernel)
theorem dL_delayTo_18 : decode cL_delayTo 18 = .ok (.ireturn, 1) := ybd_172 (by decide +kernel)
theorem dL_delayTo_19 : decode cL_delayTo 19 = .ok (.astore 5, 2) := ybd_58 5 (by decide +kernel) rfl
theorem dL_delayTo_21 : decode cL_delayTo 21 = .ok (.iconst 2, 1) := ybd_5 (by decide +kernel)
theorem dL_delayTo_22 : decode cL_delayTo 22 = .ok (.ireturn, 1) := ybd_172 (by decide +kernel)
theorem dL_delayTo_23 : decode cL_delayTo 23 = .ok (.astore 5, 2) := ybd_58 5 (by decide +kernel) rfl
theorem dL_delayTo_25 : decode cL_delayTo 25 = .ok (.iconst 3, 1) := ybd_6 (by decide +kernel)
theorem dL_delayTo_26 : decode cL_delayTo 26 = .ok (.ireturn, 1) := ybd_172 (by decide +kernel)
theorem dL_delayTo_27 : decode cL_delayTo 27 = .ok (.iconst 0, 1) := ybd_3 (by decide +kernel)
theorem dL_delayTo_28 : decode cL_delayTo 28 = .ok (.ireturn, 1) := ybd_172 (by decide +kernel)
theorem dL_spread_0 : decode cL_spread 0 = .ok (.aload_n 2, 1) := ybd_44 (by decide +kernel)
theorem dL_spread_1 : decode cL_spread 1 = .ok (.iconst 0, 1) := ybd_3 (by decide +kernel)
theorem dL_spread_2 : decode cL_spread 2 = .ok (.aload_n 0, 1) := ybd_42 (by decide +kernel)
theorem dL_spread_3 : decode cL_spread 3 = .ok (.iload_n 1, 1) := ybd_27 (by decide +kernel)
theorem dL_spread_4 : decode cL_spread 4 = .ok (.invokevirtual 46, 3) := ybd_182 0 46 (by decide +kernel) rfl
theorem dL_spread_7 : decode cL_spread 7 = .ok (.i2l, 1) := ybd_133 (by decide +kernel)
theorem dL_spread_8 : decode cL_spread 8 = .ok (.lastore, 1) := ybd_80 (by decide +kernel)
theorem dL_spread_9 : decode cL_spread 9 = .ok (.goto 9, 3) := ybd_167 0 9 (by decide +kernel) (by decide +kernel)
theorem dL_spread_12 : decode cL_spread 12 = .ok (.astore_n 3, 1) := ybd_78 (by decide +kernel)
theorem dL_spread_13 : decode cL_spread 13 = .ok (.iconst 1, 1) := ybd_4 (by decide +kernel)
theorem dL_spread_14 : decode cL_spread 14 = .ok (.ireturn, 1) := ybd_172 (by decide +kernel)
theorem dL_spread_15 : decode cL_spread 15 = .ok (.astore_n 3, 1) := ybd_78 (by decide +kernel)
theorem dL_spread_16 : decode cL_spread 16 = .ok (.iconst 2, 1) := ybd_5 (by decide +kernel)
theorem dL_spread_17 : decode cL_spread 17 = .ok (.ireturn, 1) := ybd_172 (by decide +kernel)
theorem dL_spread_18 : decode cL_spread 18 = .ok (.iconst 0, 1) := ybd_3 (by decide +kernel)
theorem dL_spread_19 : decode cL_spread 19 = .ok (.ireturn, 1) := ybd_172 (by decide +kernel)
theorem dL_window_0 : decode cL_window 0 = .ok (.aload_n 2, 1) := ybd_44 (by decide +kernel)
theorem dL_window_1 : decode cL_window 1 = .ok (.iconst 0, 1) := ybd_3 (by decide +kernel)
theorem dL_window_2 : decode cL_window 2 = .ok (.aload_n 0, 1) := ybd_42 (by decide +kernel)
theorem dL_window_3 : decode cL_window 3 = .ok (.iload_n 1, 1) := ybd_27 (by decide +kernel)
theorem dL_window_4 : decode cL_window 4 = .ok (.invokevirtual 49, 3) := ybd_182 0 49 (by decide +kernel) rfl
theorem dL_window_7 : decode cL_window 7 = .ok (.i2l, 1) := ybd_133 (by decide +kernel)
theorem dL_window_8 : decode cL_window 8 = .ok (.lastore, 1) := ybd_80 (by decide +kernel)
theorem dL_window_9 : decode cL_window 9 = .ok (.goto 9, 3) := ybd_167 0 9 (by decide +kernel) (by decide +kernel)
theorem dL_window_12 : decode cL_window 12 = .ok (.astore_n 3, 1) := ybd_78 (by decide +kernel)
theorem dL_window_13 : decode cL_window 13 = .ok (.iconst 1, 1) := ybd_4 (by decide +kernel)
theorem dL_window_14 : decode cL_window 14 = .ok (.ireturn, 1) := ybd_172 (by decide +kernel)
theorem dL_window_15 : decode cL_window 15 = .ok (.astore_n 3, 1) := ybd_78 (by decide +kernel)
theorem dL_window_16 : decode cL_window 16 = .ok (.iconst 2, 1) := ybd_5 (by decide +kernel)
theorem dL_window_17 : decode cL_window 17 = .ok (.ireturn, 1) := ybd_172 (by decide +kernel)
theorem dL_window_18 : decode cL_window 18 = .ok (.iconst 0, 1) := ybd_3 (by decide +kernel)
theorem dL_window_19 : decode cL_window 19 = .ok (.ireturn, 1) := ybd_172 (by decide +kernel)
theorem dL_sample_0 : decode cL_sample 0 = .ok (.aload_n 3, 1) := ybd_45 (by decide +kernel)
theorem dL_sample_1 : decode cL_sample 1 = .ok (.iconst 0, 1) := ybd_3 (by decide +kernel)
theorem dL_sample_2 : decode cL_sample 2 = .ok (.aload_n 0, 1) := ybd_42 (by decide +kernel)
theorem dL_sample_3 : decode cL_sample 3 = .ok (.iload_n 1, 1) := ybd_27 (by decide +kernel)
theorem dL_sample_4 : decode cL_sample 4 = .ok (.iload_n 2, 1) := ybd_28 (by decide +kernel)
theorem dL_sample_5 : decode cL_sample 5 = .ok (.invokevirtual 52, 3) := ybd_182 0 52 (by decide +kernel) rfl
theorem dL_sample_8 : decode cL_sample 8 = .ok (.i2l, 1) := ybd_133 (by decide +kernel)
theorem dL_sample_9 : decode cL_sample 9 = .ok (.lastore, 1) := ybd_80 (by decide +kernel)
theorem dL_sample_10 : decode cL_sample 10 = .ok (.goto 15, 3) := ybd_167 0 15 (by decide +kernel) (by decide +kernel)
theorem dL_sample_13 : decode cL_sample 13 = .ok (.astore 4, 2) := ybd_58 4 (by decide +kernel) rfl
theorem dL_sample_15 : decode cL_sample 15 = .ok (.iconst 1, 1) := ybd_4 (by decide +kernel)
theorem dL_sample_16 : decode cL_sample 16 = .ok (.ireturn, 1) := ybd_172 (by decide +kernel)
theorem dL_sample_17 : decode cL_sample 17 = .ok (.astore 4, 2) := ybd_58 4 (by decide +kernel) rfl
theorem dL_sample_19 : decode cL_sample 19 = .ok (.iconst 2, 1) := ybd_5 (by decide +kernel)
theorem dL_sample_20 : decode cL_sample 20 = .ok (.ireturn, 1) := ybd_172 (by decide +kernel)
theorem dL_sample_21 : decode cL_sample 21 = .ok (.astore 4, 2) := ybd_58 4 (by decide +kernel) rfl
theorem dL_sample_23 : decode cL_sample 23 = .ok (.iconst 3, 1) := ybd_6 (by decide +kernel)
theorem dL_sample_24 : decode cL_sample 24 = .ok (.ireturn, 1) := ybd_172 (by decide +kernel)
theorem dL_sample_25 : decode cL_sample 25 = .ok (.iconst 0, 1) := ybd_3 (by decide +kernel)
theorem dL_sample_26 : decode cL_sample 26 = .ok (.ireturn, 1) := ybd_172 (by decide +kernel)
theorem dL_beam_0 : decode cL_beam 0 = .ok (.aload_n 3, 1) := ybd_45 (by decide +kernel)
theorem dL_beam_1 : decode cL_beam 1 = .ok (.iconst 0, 1) := ybd_3 (by decide +kernel)
theorem dL_beam_2 : decode cL_beam 2 = .ok (.aload_n 0, 1) := ybd_42 (by decide +kernel)
theorem dL_beam_3 : decode cL_beam 3 = .ok (.iload_n 1, 1) := ybd_27 (by decide +kernel)
theorem dL_beam_4 : decode cL_beam 4 = .ok (.iload_n 2, 1) := ybd_28 (by decide +kernel)
theorem dL_beam_5 : decode cL_beam 5 = .ok (.invokevirtual 55, 3) := ybd_182 0 55 (by decide +kernel) rfl
theorem dL_beam_8 : decode cL_beam 8 = .ok (.i2l, 1) := ybd_133 (by decide +kernel)
theorem dL_beam_9 : decode cL_beam 9 = .ok (.lastore, 1) := ybd_80 (by decide +kernel)
theorem dL_beam_10 : decode cL_beam 10 = .ok (.goto 15, 3) := ybd_167 0 15 (by decide +kernel) (by decide +kernel)
theorem dL_beam_13 : decode cL_beam 13 = .ok (.astore 4, 2) := ybd_58 4 (by decide +kernel) rfl
theorem dL_beam_15 : decode cL_beam 15 = .ok (.iconst 1, 1) := ybd_4 (by decide +kernel)
theorem dL_beam_16 : decode cL_beam 16 = .ok (.ireturn, 1) := ybd_172 (by decide +kernel)
theorem dL_beam_17 : decode cL_beam 17 = .ok (.astore 4, 2) := ybd_58 4 (by decide +kernel) rfl
theorem dL_beam_19 : decode cL_beam 19 = .ok (.iconst 2, 1) := ybd_5 (by decide +kernel)
theorem dL_beam_20 : decode cL_beam 20 = .ok (.ireturn, 1) := ybd_172 (by decide +kernel)
theorem dL_beam_21 : decode cL_beam 21 = .ok (.astore 4, 2) := ybd_58 4 (by decide +kernel) rfl
theorem dL_beam_23 : decode cL_beam 23 = .ok (.iconst 3, 1) := ybd_6 (by decide +kernel)
theorem dL_beam_24 : decode cL_beam 24 = .ok (.ireturn, 1) := ybd_172 (by decide +kernel)
theorem dL_beam_25 : decode cL_beam 25 = .ok (.iconst 0, 1) := ybd_3 (by decide +kernel)
theorem dL_beam_26 : decode cL_beam 26 = .ok (.ireturn, 1) := ybd_172 (by decide +kernel)
theorem dL_power_0 : decode cL_power 0 = .ok (.aload_n 2, 1) := ybd_44 (by decide +kernel)
theorem dL_power_1 : decode cL_power 1 = .ok (.iconst 0, 1) := ybd_3 (by decide +kernel)
theorem dL_power_2 : decode cL_power 2 = .ok (.aload_n 0, 1) := ybd_42 (by decide +kernel)
theorem dL_power_3 : decode cL_power 3 = .ok (.iload_n 1, 1) := ybd_27 (by decide +kernel)
theorem dL_power_4 : decode cL_power 4 = .ok (.invokevirtual 58, 3) := ybd_182 0 58 (by decide +kernel) rfl
theorem dL_power_7 : decode cL_power 7 = .ok (.lastore, 1) := ybd_80 (by decide +kernel)
theorem dL_power_8 : decode cL_power 8 = .ok (.goto 9, 3) := ybd_167 0 9 (by decide +kernel) (by decide +kernel)
theorem dL_power_11 : decode cL_power 11 = .ok (.astore_n 3, 1) := ybd_78 (by decide +kernel)
theorem dL_power_12 : decode cL_power 12 = .ok (.iconst 1, 1) := ybd_4 (by decide +kernel)
theorem dL_power_13 : decode cL_power 13 = .ok (.ireturn, 1) := ybd_172 (by decide +kernel)
theorem dL_power_14 : decode cL_power 14 = .ok (.astore_n 3, 1) := ybd_78 (by decide +kernel)
theorem dL_power_15 : decode cL_power 15 = .ok (.iconst 2, 1) := ybd_5 (by decide +kernel)
theorem dL_power_16 : decode cL_power 16 = .ok (.ireturn, 1) := ybd_172 (by decide +kernel)
theorem dL_power_17 : decode cL_power 17 = .ok (.iconst 0, 1) := ybd_3 (by decide +kernel)
theorem dL_power_18 : decode cL_power 18 = .ok (.ireturn, 1) := ybd_172 (by decide +kernel)
theorem dL_powerAt_0 : decode cL_powerAt 0 = .ok (.aload_n 3, 1) := ybd_45 (by decide +kernel)
theorem dL_powerAt_1 : decode cL_powerAt 1 = .ok (.iconst 0, 1) := ybd_3 (by decide +kernel)
theorem dL_powerAt_2 : decode cL_powerAt 2 = .ok (.aload_n 0, 1) := ybd_42 (by decide +kernel)
theorem dL_powerAt_3 : decode cL_powerAt 3 = .ok (.iload_n 1, 1) := ybd_27 (by decide +kernel)
theorem dL_powerAt_4 : decode cL_powerAt 4 = .ok (.iload_n 2, 1) := ybd_28 (by decide +kernel)
theorem dL_powerAt_5 : decode cL_powerAt 5 = .ok (.invokevirtual 62, 3) := ybd_182 0 62 (by decide +kernel) rfl
theorem dL_powerAt_8 : decode cL_powerAt 8 = .ok (.lastore, 1) := ybd_80 (by decide +kernel)
theorem dL_powerAt_9 : decode cL_powerAt 9 = .ok (.goto 11, 3) := ybd_167 0 11 (by decide +kernel) (by decide +kernel)
theorem dL_powerAt_12 : decode cL_powerAt 12 = .ok (.astore 4, 2) := ybd_58 4 (by decide +kernel) rfl
theorem dL_powerAt_14 : decode cL_powerAt 14 = .ok (.iconst 1, 1) := ybd_4 (by decide +kernel)
theorem dL_powerAt_15 : decode cL_powerAt 15 = .ok (.ireturn, 1) := ybd_172 (by decide +kernel)
theorem dL_powerAt_16 : decode cL_powerAt 16 = .ok (.astore 4, 2) := ybd_58 4 (by decide +kernel) rfl
theorem dL_powerAt_18 : decode cL_powerAt 18 = .ok (.iconst 2, 1) := ybd_5 (by decide +kernel)
theorem dL_powerAt_19 : decode cL_powerAt 19 = .ok (.ireturn, 1) := ybd_172 (by decide +kernel)
theorem dL_powerAt_20 : decode cL_powerAt 20 = .ok (.iconst 0, 1) := ybd_3 (by decide +kernel)
theorem dL_powerAt_21 : decode cL_powerAt 21 = .ok (.ireturn, 1) := ybd_172 (by decide +kernel)
theorem dL_best_0 : decode cL_best 0 = .ok (.aload_n 1, 1) := ybd_43 (by decide +kernel)
theorem dL_best_1 : decode cL_best 1 = .ok (.iconst 0, 1) := ybd_3 (by decide +kernel)
theorem dL_best_2 : decode cL_best 2 = .ok (.aload_n 0, 1) := ybd_42 (by decide +kernel)
theorem dL_best_3 : decode cL_best 3 = .ok (.invokevirtual 66, 3) := ybd_182 0 66 (by decide +kernel) rfl
theorem dL_best_6 : decode cL_best 6 = .ok (.i2l, 1) := ybd_133 (by decide +kernel)
theorem dL_best_7 : decode cL_best 7 = .ok (.lastore, 1) := ybd_80 (by decide +kernel)
theorem dL_best_8 : decode cL_best 8 = .ok (.goto 6, 3) := ybd_167 0 6 (by decide +kernel) (by decide +kernel)
theorem dL_best_11 : decode cL_best 11 = .ok (.astore_n 2, 1) := ybd_77 (by decide +kernel)
theorem dL_best_12 : decode cL_best 12 = .ok (.iconst 1, 1) := ybd_4 (by decide +kernel)
theorem dL_best_13 : decode cL_best 13 = .ok (.ireturn, 1) := ybd_172 (by decide +kernel)
theorem dL_best_14 : decode cL_best 14 = .ok (.iconst 0, 1) := ybd_3 (by decide +kernel)
theorem dL_best_15 : decode cL_best 15 = .ok (.ireturn, 1) := ybd_172 (by decide +kernel)
theorem dL_bestPower_0 : decode cL_bestPower 0 = .ok (.aload_n 1, 1) := ybd_43 (by decide +kernel)
theorem dL_bestPower_1 : decode cL_bestPower 1 = .ok (.iconst 0, 1) := ybd_3 (by decide +kernel)
theorem dL_bestPower_2 : decode cL_bestPower 2 = .ok (.aload_n 0, 1) := ybd_42 (by decide +kernel)
theorem dL_bestPower_3 : decode cL_bestPower 3 = .ok (.invokevirtual 70, 3) := ybd_182 0 70 (by decide +kernel) rfl
theorem dL_bestPower_6 : decode cL_bestPower 6 = .ok (.lastore, 1) := ybd_80 (by decide +kernel)
theorem dL_bestPower_7 : decode cL_bestPower 7 = .ok (.goto 6, 3) := ybd_167 0 6 (by decide +kernel) (by decide +kernel)
theorem dL_bestPower_10 : decode cL_bestPower 10 = .ok (.astore_n 2, 1) := ybd_77 (by decide +kernel)
theorem dL_bestPower_11 : decode cL_bestPower 11 = .ok (.iconst 1, 1) := ybd_4 (by decide +kernel)
theorem dL_bestPower_12 : decode cL_bestPower 12 = .ok (.ireturn, 1) := ybd_172 (by decide +kernel)
theorem dL_bestPower_13 : decode cL_bestPower 13 = .ok (.iconst 0, 1) := ybd_3 (by decide +kernel)
theorem dL_bestPower_14 : decode cL_bestPower 14 = .ok (.ireturn, 1) := ybd_172 (by decide +kernel)
theorem dL_meanPower_0 : decode cL_meanPower 0 = .ok (.aload_n 1, 1) := ybd_43 (by decide +kernel)
theorem dL_meanPower_1 : decode cL_meanPower 1 = .ok (.iconst 0, 1) := ybd_3 (by decide +kernel)
theorem dL_meanPower_2 : decode cL_meanPower 2 = .ok (.aload_n 0, 1) := ybd_42 (by decide +kernel)
theorem dL_meanPower_3 : decode cL_meanPower 3 = .ok (.invokevirtual 74, 3) := ybd_182 0 74 (by decide +kernel) rfl
theorem dL_meanPower_6 : decode cL_meanPower 6 = .ok (.lastore, 1) := ybd_80 (by decide +kernel)
theorem dL_meanPower_7 : decode cL_meanPower 7 = .ok (.goto 6, 3) := ybd_167 0 6 (by decide +kernel) (by decide +kernel)
theorem dL_meanPower_10 : decode cL_meanPower 10 = .ok (.astore_n 2, 1) := ybd_77 (by decide +kernel)
theorem dL_meanPower_11 : decode cL_meanPower 11 = .ok (.iconst 1, 1) := ybd_4 (by decide +kernel)
theorem dL_meanPower_12 : decode cL_meanPower 12 = .ok (.ireturn, 1) := ybd_172 (by decide +kernel)
theorem dL_meanPower_13 : decode cL_meanPower 13 = .ok (.iconst 0, 1) := ybd_3 (by decide +kernel)
theorem dL_meanPower_14 : decode cL_meanPower 14 = .ok (.ireturn, 1) := ybd_172 (by decide +kernel)
theorem dL_peaks_0 : decode cL_peaks 0 = .ok (.aload_n 1, 1) := ybd_43 (by decide +kernel)
theorem dL_peaks_1 : decode cL_peaks 1 = .ok (.iconst 0, 1) := ybd_3 (by decide +kernel)
theorem dL_peaks_2 : decode cL_peaks 2 = .ok (.aload_n 0, 1) := ybd_42 (by decide +kernel)
theorem dL_peaks_3 : decode cL_peaks 3 = .ok (.invokevirtual 77, 3) := ybd_182 0 77 (by decide +kernel) rfl
theorem dL_peaks_6 : decode cL_peaks 6 = .ok (.i2l, 1) := ybd_133 (by decide +kernel)
theorem dL_peaks_7 : decode cL_peaks 7 = .ok (.lastore, 1) := ybd_80 (by decide +kernel)
theorem dL_peaks_8 : decode cL_peaks 8 = .ok (.goto 6, 3) := ybd_167 0 6 (by decide +kernel) (by decide +kernel)
theorem dL_peaks_11 : decode cL_peaks 11 = .ok (.astore_n 2, 1) := ybd_77 (by decide +kernel)
theorem dL_peaks_12 : decode cL_peaks 12 = .ok (.iconst 1, 1) := ybd_4 (by decide +kernel)
theorem dL_peaks_13 : decode cL_peaks 13 = .ok (.ireturn, 1) := ybd_172 (by decide +kernel)
theorem dL_peaks_14 : decode cL_peaks 14 = .ok (.iconst 0, 1) := ybd_3 (by decide +kernel)
theorem dL_peaks_15 : decode cL_peaks 15 = .ok (.ireturn, 1) := ybd_172 (by decide +kernel)
theorem dL_peakAt_0 : decode cL_peakAt 0 = .ok (.aload_n 2, 1) := ybd_44 (by decide +kernel)
theorem dL_peakAt_1 : decode cL_peakAt 1 = .ok (.iconst 0, 1) := ybd_3 (by decide +kernel)
theorem dL_peakAt_2 : decode cL_peakAt 2 = .ok (.aload_n 0, 1) := ybd_42 (by decide +kernel)
theorem dL_peakAt_3 : decode cL_peakAt 3 = .ok (.iload_n 1, 1) := ybd_27 (by decide +kernel)
theorem dL_peakAt_4 : decode cL_peakAt 4 = .ok (.invokevirtual 80, 3) := ybd_182 0 80 (by decide +kernel) rfl
theorem dL_peakAt_7 : decode cL_peakAt 7 = .ok (.i2l, 1) := ybd_133 (by decide +kernel)
theorem dL_peakAt_8 : decode cL_peakAt 8 = .ok (.lastore, 1) := ybd_80 (by decide +kernel)
theorem dL_peakAt_9 : decode cL_peakAt 9 = .ok (.goto 9, 3) := ybd_167 0 9 (by decide +kernel) (by decide +kernel)
theorem dL_peakAt_12 : decode cL_peakAt 12 = .ok (.astore_n 3, 1) := ybd_78 (by decide +kernel)
theorem dL_peakAt_13 : decode cL_peakAt 13 = .ok (.iconst 1, 1) := ybd_4 (by decide +kernel)
theorem dL_peakAt_14 : decode cL_peakAt 14 = .ok (.ireturn, 1) := ybd_172 (by decide +kernel)
theorem dL_peakAt_15 : decode cL_peakAt 15 = .ok (.astore_n 3, 1) := ybd_78 (by decide +kernel)
theorem dL_peakAt_16 : decode cL_peakAt 16 = .ok (.iconst 2, 1) := ybd_5 (by decide +kernel)
theorem dL_peakAt_17 : decode cL_peakAt 17 = .ok (.ireturn, 1) := ybd_172 (by decide +kernel)
theorem dL_peakAt_18 : decode cL_peakAt 18 = .ok (.iconst 0, 1) := ybd_3 (by decide +kernel)
theorem dL_peakAt_19 : decode cL_peakAt 19 = .ok (.ireturn, 1) := ybd_172 (by decide +kernel)
theorem dL_isPeak_0 : decode cL_isPeak 0 = .ok (.aload_n 2, 1) := ybd_44 (by decide +kernel)
theorem dL_isPeak_1 : decode cL_isPeak 1 = .ok (.iconst 0, 1) := ybd_3 (by decide +kernel)
theorem dL_isPeak_2 : decode cL_isPeak 2 = .ok (.aload_n 0, 1) := ybd_42 (by decide +kernel)
theorem dL_isPeak_3 : decode cL_isPeak 3 = .ok (.iload_n 1, 1) := ybd_27 (by decide +kernel)
theorem dL_isPeak_4 : decode cL_isPeak 4 = .ok (.invokevirtual 83, 3) := ybd_182 0 83 (by decide +kernel) rfl
theorem dL_isPeak_7 : decode cL_isPeak 7 = .ok (.ifCond .eq 7, 3) := ybd_153 0 7 (by decide +kernel) (by decide +kernel)
theorem dL_isPeak_10 : decode cL_isPeak 10 = .ok (.lconst 1, 1) := ybd_10 (by decide +kernel)
theorem dL_isPeak_11 : decode cL_isPeak 11 = .ok (.goto 4, 3) := ybd_167 0 4 (by decide +kernel) (by decide +kernel)
theorem dL_isPeak_14 : decode cL_isPeak 14 = .ok (.lconst 0, 1) := ybd_9 (by decide +kernel)
theorem dL_isPeak_15 : decode cL_isPeak 15 = .ok (.lastore, 1) := ybd_80 (by decide +kernel)
theorem dL_isPeak_16 : decode cL_isPeak 16 = .ok (.goto 9, 3) := ybd_167 0 9 (by decide +kernel) (by decide +kernel)
theorem dL_isPeak_19 : decode cL_isPeak 19 = .ok (.astore_n 3, 1) := ybd_78 (by decide +kernel)
theorem dL_isPeak_20 : decode cL_isPeak 20 = .ok (.iconst 1, 1) := ybd_4 (by decide +kernel)
theorem dL_isPeak_21 : decode cL_isPeak 21 = .ok (.ireturn, 1) := ybd_172 (by decide +kernel)
theorem dL_isPeak_22 : decode cL_isPeak 22 = .ok (.astore_n 3, 1) := ybd_78 (by decide +kernel)
theorem dL_isPeak_23 : decode cL_isPeak 23 = .ok (.iconst 2, 1) := ybd_5 (by decide +kernel)
theorem dL_isPeak_24 : decode cL_isPeak 24 = .ok (.ireturn, 1) := ybd_172 (by decide +kernel)
theorem dL_isPeak_25 : decode cL_isPeak 25 = .ok (.iconst 0, 1) := ybd_3 (by decide +kernel)
theorem dL_isPeak_26 : decode cL_isPeak 26 = .ok (.ireturn, 1) := ybd_172 (by decide +kernel)
theorem dL_zonePower_0 : decode cL_zonePower 0 = .ok (.aload_n 2, 1) := ybd_44 (by decide +kernel)
theorem dL_zonePower_1 : decode cL_zonePower 1 = .ok (.iconst 0, 1) := ybd_3 (by decide +kernel)
theorem dL_zonePower_2 : decode cL_zonePower 2 = .ok (.aload_n 0, 1) := ybd_42 (by decide +kernel)
theorem dL_zonePower_3 : decode cL_zonePower 3 = .ok (.iload_n 1, 1) := ybd_27 (by decide +kernel)
theorem dL_zonePower_4 : decode cL_zonePower 4 = .ok (.invokevirtual 86, 3) := ybd_182 0 86 (by decide +kernel) rfl
theorem dL_zonePower_7 : decode cL_zonePower 7 = .ok (.lastore, 1) := ybd_80 (by decide +kernel)
theorem dL_zonePower_8 : decode cL_zonePower 8 = .ok (.goto 9, 3) := ybd_167 0 9 (by decide +kernel) (by decide +kernel)
theorem dL_zonePower_11 : decode cL_zonePower 11 = .ok (.astore_n 3, 1) := ybd_78 (by decide +kernel)
theorem dL_zonePower_12 : decode cL_zonePower 12 = .ok (.iconst 1, 1) := ybd_4 (by decide +kernel)
theorem dL_zonePower_13 : decode cL_zonePower 13 = .ok (.ireturn, 1) := ybd_172 (by decide +kernel)
theorem dL_zonePower_14 : decode cL_zonePower 14 = .ok (.astore_n 3, 1) := ybd_78 (by decide +kernel)
theorem dL_zonePower_15 : decode cL_zonePower 15 = .ok (.iconst 2, 1) := ybd_5 (by decide +kernel)
theorem dL_zonePower_16 : decode cL_zonePower 16 = .ok (.ireturn, 1) := ybd_172 (by decide +kernel)
theorem dL_zonePower_17 : decode cL_zonePower 17 = .ok (.iconst 0, 1) := ybd_3 (by decide +kernel)
theorem dL_zonePower_18 : decode cL_zonePower 18 = .ok (.ireturn, 1) := ybd_172 (by decide +kernel)
theorem dL_zoneBest_0 : decode cL_zoneBest 0 = .ok (.aload_n 2, 1) := ybd_44 (by decide +kernel)
theorem dL_zoneBest_1 : decode cL_zoneBest 1 = .ok (.iconst 0, 1) := ybd_3 (by decide +kernel)
theorem dL_zoneBest_2 : decode cL_zoneBest 2 = .ok (.aload_n 0, 1) := ybd_42 (by decide +kernel)
theorem dL_zoneBest_3 : decode cL_zoneBest 3 = .ok (.iload_n 1, 1) := ybd_27 (by decide +kernel)
theorem dL_zoneBest_4 : decode cL_zoneBest 4 = .ok (.invokevirtual 89, 3) := ybd_182 0 89 (by decide +kernel) rfl
theorem dL_zoneBest_7 : decode cL_zoneBest 7 = .ok (.i2l, 1) := ybd_133 (by decide +kernel)
theorem dL_zoneBest_8 : decode cL_zoneBest 8 = .ok (.lastore, 1) := ybd_80 (by decide +kernel)
theorem dL_zoneBest_9 : decode cL_zoneBest 9 = .ok (.goto 9, 3) := ybd_167 0 9 (by decide +kernel) (by decide +kernel)
theorem dL_zoneBest_12 : decode cL_zoneBest 12 = .ok (.astore_n 3, 1) := ybd_78 (by decide +kernel)
theorem dL_zoneBest_13 : decode cL_zoneBest 13 = .ok (.iconst 1, 1) := ybd_4 (by decide +kernel)
theorem dL_zoneBest_14 : decode cL_zoneBest 14 = .ok (.ireturn, 1) := ybd_172 (by decide +kernel)
theorem dL_zoneBest_15 : decode cL_zoneBest 15 = .ok (.astore_n 3, 1) := ybd_78 (by decide +kernel)
theorem dL_zoneBest_16 : decode cL_zoneBest 16 = .ok (.iconst 2, 1) := ybd_5 (by decide +kernel)
theorem dL_zoneBest_17 : decode cL_zoneBest 17 = .ok (.ireturn, 1) := ybd_172 (by decide +kernel)
theorem dL_zoneBest_18 : decode cL_zoneBest 18 = .ok (.iconst 0, 1) := ybd_3 (by decide +kernel)
theorem dL_zoneBest_19 : decode cL_zoneBest 19 = .ok (.ireturn, 1) := ybd_172 (by decide +kernel)
theorem dL_contrast_0 : decode cL_contrast 0 = .ok (.aload_n 1, 1) := ybd_43 (by decide +kernel)
theorem dL_contrast_1 : decode cL_contrast 1 = .ok (.iconst 0, 1) := ybd_3 (by decide +kernel)
theorem dL_contrast_2 : decode cL_contrast 2 = .ok (.aload_n 0, 1) := ybd_42 (by decide +kernel)
theorem dL_contrast_3 : decode cL_contrast 3 = .ok (.invokevirtual 92, 3) := ybd_182 0 92 (by decide +kernel) rfl
theorem dL_contrast_6 : decode cL_contrast 6 = .ok (.f2d, 1) := ybd_141 (by decide +kernel)
theorem dL_contrast_7 : decode cL_contrast 7 = .ok (.dastore, 1) := ybd_82 (by decide +kernel)
theorem dL_contrast_8 : decode cL_contrast 8 = .ok (.goto 6, 3) := ybd_167 0 6 (by decide +kernel) (by decide +kernel)
theorem dL_contrast_11 : decode cL_contrast 11 = .ok (.astore_n 2, 1) := ybd_77 (by decide +kernel)
theorem dL_contrast_12 : decode cL_contrast 12 = .ok (.iconst 1, 1) := ybd_4 (by decide +kernel)
theorem dL_contrast_13 : decode cL_contrast 13 = .ok (.ireturn, 1) := ybd_172 (by decide +kernel)
theorem dL_contrast_14 : decode cL_contrast 14 = .ok (.iconst 0, 1) := ybd_3 (by decide +kernel)
theorem dL_contrast_15 : decode cL_contrast 15 = .ok (.ireturn, 1) := ybd_172 (by decide +kernel)
theorem dL_alias_0 : decode cL_alias 0 = .ok (.aload 4, 2) := ybd_25 4 (by decide +kernel) rfl
theorem dL_alias_2 : decode cL_alias 2 = .ok (.iconst 0, 1) := ybd_3 (by decide +kernel)
theorem dL_alias_3 : decode cL_alias 3 = .ok (.aload_n 0, 1) := ybd_42 (by decide +kernel)
theorem dL_alias_4 : decode cL_alias 4 = .ok (.iload_n 1, 1) := ybd_27 (by decide +kernel)
theorem dL_alias_5 : decode cL_alias 5 = .ok (.iload_n 2, 1) := ybd_28 (by decide +kernel)
theorem dL_alias_6 : decode cL_alias 6 = .ok (.iload_n 3, 1) := ybd_29 (by decide +kernel)
theorem dL_alias_7 : decode cL_alias 7 = .ok (.invokevirtual 96, 3) := ybd_182 0 96 (by decide +kernel) rfl
theorem dL_alias_10 : decode cL_alias 10 = .ok (.i2l, 1) := ybd_133 (by decide +kernel)
theorem dL_alias_11 : decode cL_alias 11 = .ok (.lastore, 1) := ybd_80 (by decide +kernel)
theorem dL_alias_12 : decode cL_alias 12 = .ok (.goto 15, 3) := ybd_167 0 15 (by decide +kernel) (by decide +kernel)
theorem dL_alias_15 : decode cL_alias 15 = .ok (.astore 5, 2) := ybd_58 5 (by decide +kernel) rfl
theorem dL_alias_17 : decode cL_alias 17 = .ok (.iconst 1, 1) := ybd_4 (by decide +kernel)
theorem dL_alias_18 : decode cL_alias 18 = .ok (.ireturn, 1) := ybd_172 (by decide +kernel)
theorem dL_alias_19 : decode cL_alias 19 = .ok (.astore 5, 2) := ybd_58 5 (by decide +kernel) rfl
theorem dL_alias_21 : decode cL_alias 21 = .ok (.iconst 2, 1) := ybd_5 (by decide +kernel)
theorem dL_alias_22 : decode cL_alias 22 = .ok (.ireturn, 1) := ybd_172 (by decide +kernel)
theorem dL_alias_23 : decode cL_alias 23 = .ok (.astore 5, 2) := ybd_58 5 (by decide +kernel) rfl
theorem dL_alias_25 : decode cL_alias 25 = .ok (.iconst 3, 1) := ybd_6 (by decide +kernel)
theorem dL_alias_26 : decode cL_alias 26 = .ok (.ireturn, 1) := ybd_172 (by decide +kernel)
theorem dL_alias_27 : decode cL_alias 27 = .ok (.iconst 0, 1) := ybd_3 (by decide +kernel)
theorem dL_alias_28 : decode cL_alias 28 = .ok (.ireturn, 1) := ybd_172 (by decide +kernel)
theorem dL_isAlias_0 : decode cL_isAlias 0 = .ok (.aload 4, 2) := ybd_25 4 (by decide +kernel) rfl
theorem dL_isAlias_2 : decode cL_isAlias 2 = .ok (.iconst 0, 1) := ybd_3 (by decide +kernel)
theorem dL_isAlias_3 : decode cL_isAlias 3 = .ok (.aload_n 0, 1) := ybd_42 (by decide +kernel)
theorem dL_isAlias_4 : decode cL_isAlias 4 = .ok (.iload_n 1, 1) := ybd_27 (by decide +kernel)
theorem dL_isAlias_5 : decode cL_isAlias 5 = .ok (.iload_n 2, 1) := ybd_28 (by decide +kernel)
theorem dL_isAlias_6 : decode cL_isAlias 6 = .ok (.iload_n 3, 1) := ybd_29 (by decide +kernel)
theorem dL_isAlias_7 : decode cL_isAlias 7 = .ok (.invokevirtual 99, 3) := ybd_182 0 99 (by decide +kernel) rfl
theorem dL_isAlias_10 : decode cL_isAlias 10 = .ok (.ifCond .eq 7, 3) := ybd_153 0 7 (by decide +kernel) (by decide +kernel)
theorem dL_isAlias_13 : decode cL_isAlias 13 = .ok (.lconst 1, 1) := ybd_10 (by decide +kernel)
theorem dL_isAlias_14 : decode cL_isAlias 14 = .ok (.goto 4, 3) := ybd_167 0 4 (by decide +kernel) (by decide +kernel)
theorem dL_isAlias_17 : decode cL_isAlias 17 = .ok (.lconst 0, 1) := ybd_9 (by decide +kernel)
theorem dL_isAlias_18 : decode cL_isAlias 18 = .ok (.lastore, 1) := ybd_80 (by decide +kernel)
theorem dL_isAlias_19 : decode cL_isAlias 19 = .ok (.goto 15, 3) := ybd_167 0 15 (by decide +kernel) (by decide +kernel)
theorem dL_isAlias_22 : decode cL_isAlias 22 = .ok (.astore 5, 2) := ybd_58 5 (by decide +kernel) rfl
theorem dL_isAlias_24 : decode cL_isAlias 24 = .ok (.iconst 1, 1) := ybd_4 (by decide +kernel)
theorem dL_isAlias_25 : decode cL_isAlias 25 = .ok (.ireturn, 1) := ybd_172 (by decide +kernel)
theorem dL_isAlias_26 : decode cL_isAlias 26 = .ok (.astore 5, 2) := ybd_58 5 (by decide +kernel) rfl
theorem dL_isAlias_28 : decode cL_isAlias 28 = .ok (.iconst 2, 1) := ybd_5 (by decide +kernel)
theorem dL_isAlias_29 : decode cL_isAlias 29 = .ok (.ireturn, 1) := ybd_172 (by decide +kernel)
theorem dL_isAlias_30 : decode cL_isAlias 30 = .ok (.astore 5, 2) := ybd_58 5 (by decide +kernel) rfl
theorem dL_isAlias_32 : decode cL_isAlias 32 = .ok (.iconst 3, 1) := ybd_6 (by decide +kernel)
theorem dL_isAlias_33 : decode cL_isAlias 33 = .ok (.ireturn, 1) := ybd_172 (by decide +kernel)
theorem dL_isAlias_34 : decode cL_isAlias 34 = .ok (.iconst 0, 1) := ybd_3 (by decide +kernel)
theorem dL_isAlias_35 : decode cL_isAlias 35 = .ok (.ireturn, 1) := ybd_172 (by decide +kernel)
theorem dL_aliases_0 : decode cL_aliases 0 = .ok (.aload_n 3, 1) := ybd_45 (by decide +kernel)
theorem dL_aliases_1 : decode cL_aliases 1 = .ok (.iconst 0, 1) := ybd_3 (by decide +kernel)
theorem dL_aliases_2 : decode cL_aliases 2 = .ok (.aload_n 0, 1) := ybd_42 (by decide +kernel)
theorem dL_aliases_3 : decode cL_aliases 3 = .ok (.iload_n 1, 1) := ybd_27 (by decide +kernel)
theorem dL_aliases_4 : decode cL_aliases 4 = .ok (.iload_n 2, 1) := ybd_28 (by decide +kernel)
theorem dL_aliases_5 : decode cL_aliases 5 = .ok (.invokevirtual 103, 3) := ybd_182 0 103 (by decide +kernel) rfl
theorem dL_aliases_8 : decode cL_aliases 8 = .ok (.i2l, 1) := ybd_133 (by decide +kernel)
theorem dL_aliases_9 : decode cL_aliases 9 = .ok (.lastore, 1) := ybd_80 (by decide +kernel)
theorem dL_aliases_10 : decode cL_aliases 10 = .ok (.goto 11, 3) := ybd_167 0 11 (by decide +kernel) (by decide +kernel)
theorem dL_aliases_13 : decode cL_aliases 13 = .ok (.astore 4, 2) := ybd_58 4 (by decide +kernel) rfl
theorem dL_aliases_15 : decode cL_aliases 15 = .ok (.iconst 1, 1) := ybd_4 (by decide +kernel)
theorem dL_aliases_16 : decode cL_aliases 16 = .ok (.ireturn, 1) := ybd_172 (by decide +kernel)
theorem dL_aliases_17 : decode cL_aliases 17 = .ok (.astore 4, 2) := ybd_58 4 (by decide +kernel) rfl
theorem dL_aliases_19 : decode cL_aliases 19 = .ok (.iconst 2, 1) := ybd_5 (by decide +kernel)
theorem dL_aliases_20 : decode cL_aliases 20 = .ok (.ireturn, 1) := ybd_172 (by decide +kernel)
theorem dL_aliases_21 : decode cL_aliases 21 = .ok (.iconst 0, 1) := ybd_3 (by decide +kernel)
theorem dL_aliases_22 : decode cL_aliases 22 = .ok (.ireturn, 1) := ybd_172 (by decide +kernel)
theorem dL_blockPower_0 : decode cL_blockPower 0 = .ok (.aload 4, 2) := ybd_25 4 (by decide +kernel) rfl
theorem dL_blockPower_2 : decode cL_blockPower 2 = .ok (.iconst 0, 1) := ybd_3 (by decide +kernel)
theorem dL_blockPower_3 : decode cL_blockPower 3 = .ok (.aload_n 0, 1) := ybd_42 (by decide +kernel)
theorem dL_blockPower_4 : decode cL_blockPower 4 = .ok (.iload_n 1, 1) := ybd_27 (by decide +kernel)
theorem dL_blockPower_5 : decode cL_blockPower 5 = .ok (.iload_n 2, 1) := ybd_28 (by decide +kernel)
theorem dL_blockPower_6 : decode cL_blockPower 6 = .ok (.iload_n 3, 1) := ybd_29 (by decide +kernel)
theorem dL_blockPower_7 : decode cL_blockPower 7 = .ok (.invokevirtual 106, 3) := ybd_182 0 106 (by decide +kernel) rfl
theorem dL_blockPower_10 : decode cL_blockPower 10 = .ok (.lastore, 1) := ybd_80 (by decide +kernel)
theorem dL_blockPower_11 : decode cL_blockPower 11 = .ok (.goto 15, 3) := ybd_167 0 15 (by decide +kernel) (by decide +kernel)
theorem dL_blockPower_14 : decode cL_blockPower 14 = .ok (.astore 5, 2) := ybd_58 5 (by decide +kernel) rfl
theorem dL_blockPower_16 : decode cL_blockPower 16 = .ok (.iconst 1, 1) := ybd_4 (by decide +kernel)
theorem dL_blockPower_17 : decode cL_blockPower 17 = .ok (.ireturn, 1) := ybd_172 (by decide +kernel)
theorem dL_blockPower_18 : decode cL_blockPower 18 = .ok (.astore 5, 2) := ybd_58 5 (by decide +kernel) rfl
theorem dL_blockPower_20 : decode cL_blockPower 20 = .ok (.iconst 2, 1) := ybd_5 (by decide +kernel)
theorem dL_blockPower_21 : decode cL_blockPower 21 = .ok (.ireturn, 1) := ybd_172 (by decide +kernel)
theorem dL_blockPower_22 : decode cL_blockPower 22 = .ok (.astore 5, 2) := ybd_58 5 (by decide +kernel) rfl
theorem dL_blockPower_24 : decode cL_blockPower 24 = .ok (.iconst 3, 1) := ybd_6 (by decide +kernel)
theorem dL_blockPower_25 : decode cL_blockPower 25 = .ok (.ireturn, 1) := ybd_172 (by decide +kernel)
theorem dL_blockPower_26 : decode cL_blockPower 26 = .ok (.iconst 0, 1) := ybd_3 (by decide +kernel)
theorem dL_blockPower_27 : decode cL_blockPower 27 = .ok (.ireturn, 1) := ybd_172 (by decide +kernel)
theorem dL_blockBest_0 : decode cL_blockBest 0 = .ok (.aload_n 3, 1) := ybd_45 (by decide +kernel)
theorem dL_blockBest_1 : decode cL_blockBest 1 = .ok (.iconst 0, 1) := ybd_3 (by decide +kernel)
theorem dL_blockBest_2 : decode cL_blockBest 2 = .ok (.aload_n 0, 1) := ybd_42 (by decide +kernel)
theorem dL_blockBest_3 : decode cL_blockBest 3 = .ok (.iload_n 1, 1) := ybd_27 (by decide +kernel)
theorem dL_blockBest_4 : decode cL_blockBest 4 = .ok (.iload_n 2, 1) := ybd_28 (by decide +kernel)
theorem dL_blockBest_5 : decode cL_blockBest 5 = .ok (.invokevirtual 110, 3) := ybd_182 0 110 (by decide +kernel) rfl
theorem dL_blockBest_8 : decode cL_blockBest 8 = .ok (.i2l, 1) := ybd_133 (by decide +kernel)
theorem dL_blockBest_9 : decode cL_blockBest 9 = .ok (.lastore, 1) := ybd_80 (by decide +kernel)
theorem dL_blockBest_10 : decode cL_blockBest 10 = .ok (.goto 11, 3) := ybd_167 0 11 (by decide +kernel) (by decide +kernel)
theorem dL_blockBest_13 : decode cL_blockBest 13 = .ok (.astore 4, 2) := ybd_58 4 (by decide +kernel) rfl
theorem dL_blockBest_15 : decode cL_blockBest 15 = .ok (.iconst 1, 1) := ybd_4 (by decide +kernel)
theorem dL_blockBest_16 : decode cL_blockBest 16 = .ok (.ireturn, 1) := ybd_172 (by decide +kernel)
theorem dL_blockBest_17 : decode cL_blockBest 17 = .ok (.astore 4, 2) := ybd_58 4 (by decide +kernel) rfl
theorem dL_blockBest_19 : decode cL_blockBest 19 = .ok (.iconst 2, 1) := ybd_5 (by decide +kernel)
theorem dL_blockBest_20 : decode cL_blockBest 20 = .ok (.ireturn, 1) := ybd_172 (by decide +kernel)
theorem dL_blockBest_21 : decode cL_blockBest 21 = .ok (.iconst 0, 1) := ybd_3 (by decide +kernel)
theorem dL_blockBest_22 : decode cL_blockBest 22 = .ok (.ireturn, 1) := ybd_172 (by decide +kernel)
theorem dL_path_0 : decode cL_path 0 = .ok (.aload_n 2, 1) := ybd_44 (by decide +kernel)
theorem dL_path_1 : decode cL_path 1 = .ok (.iconst 0, 1) := ybd_3 (by decide +kernel)
theorem dL_path_2 : decode cL_path 2 = .ok (.aload_n 0, 1) := ybd_42 (by decide +kernel)
theorem dL_path_3 : decode cL_path 3 = .ok (.iload_n 1, 1) := ybd_27 (by decide +kernel)
theorem dL_path_4 : decode cL_path 4 = .ok (.invokevirtual 113, 3) := ybd_182 0 113 (by decide +kernel) rfl
theorem dL_path_7 : decode cL_path 7 = .ok (.i2l, 1) := ybd_133 (by decide +kernel)
theorem dL_path_8 : decode cL_path 8 = .ok (.lastore, 1) := ybd_80 (by decide +kernel)
theorem dL_path_9 : decode cL_path 9 = .ok (.goto 9, 3) := ybd_167 0 9 (by decide +kernel) (by decide +kernel)
theorem dL_path_12 : decode cL_path 12 = .ok (.astore_n 3, 1) := ybd_78 (by decide +kernel)
theorem dL_path_13 : decode cL_path 13 = .ok (.iconst 1, 1) := ybd_4 (by decide +kernel)
theorem dL_path_14 : decode cL_path 14 = .ok (.ireturn, 1) := ybd_172 (by decide +kernel)
theorem dL_path_15 : decode cL_path 15 = .ok (.astore_n 3, 1) := ybd_78 (by decide +kernel)
theorem dL_path_16 : decode cL_path 16 = .ok (.iconst 2, 1) := ybd_5 (by decide +kernel)
theorem dL_path_17 : decode cL_path 17 = .ok (.ireturn, 1) := ybd_172 (by decide +kernel)
theorem dL_path_18 : decode cL_path 18 = .ok (.iconst 0, 1) := ybd_3 (by decide +kernel)
theorem dL_path_19 : decode cL_path 19 = .ok (.ireturn, 1) := ybd_172 (by decide +kernel)
theorem dL_trackScore_0 : decode cL_trackScore 0 = .ok (.aload_n 2, 1) := ybd_44 (by decide +kernel)
theorem dL_trackScore_1 : decode cL_trackScore 1 = .ok (.iconst 0, 1) := ybd_3 (by decide +kernel)
theorem dL_trackScore_2 : decode cL_trackScore 2 = .ok (.aload_n 0, 1) := ybd_42 (by decide +kernel)
theorem dL_trackScore_3 : decode cL_trackScore 3 = .ok (.iload_n 1, 1) := ybd_27 (by decide +kernel)
theorem dL_trackScore_4 : decode cL_trackScore 4 = .ok (.invokevirtual 116, 3) := ybd_182 0 116 (by decide +kernel) rfl
theorem dL_trackScore_7 : decode cL_trackScore 7 = .ok (.lastore, 1) := ybd_80 (by decide +kernel)
theorem dL_trackScore_8 : decode cL_trackScore 8 = .ok (.goto 9, 3) := ybd_167 0 9 (by decide +kernel) (by decide +kernel)
theorem dL_trackScore_11 : decode cL_trackScore 11 = .ok (.astore_n 3, 1) := ybd_78 (by decide +kernel)
theorem dL_trackScore_12 : decode cL_trackScore 12 = .ok (.iconst 1, 1) := ybd_4 (by decide +kernel)
theorem dL_trackScore_13 : decode cL_trackScore 13 = .ok (.ireturn, 1) := ybd_172 (by decide +kernel)
theorem dL_trackScore_14 : decode cL_trackScore 14 = .ok (.astore_n 3, 1) := ybd_78 (by decide +kernel)
theorem dL_trackScore_15 : decode cL_trackScore 15 = .ok (.iconst 2, 1) := ybd_5 (by decide +kernel)
theorem dL_trackScore_16 : decode cL_trackScore 16 = .ok (.ireturn, 1) := ybd_172 (by decide +kernel)
theorem dL_trackScore_17 : decode cL_trackScore 17 = .ok (.iconst 0, 1) := ybd_3 (by decide +kernel)
theorem dL_trackScore_18 : decode cL_trackScore 18 = .ok (.ireturn, 1) := ybd_172 (by decide +kernel)
theorem dL_trackCell_0 : decode cL_trackCell 0 = .ok (.aload_n 3, 1) := ybd_45 (by decide +kernel)
theorem dL_trackCell_1 : decode cL_trackCell 1 = .ok (.iconst 0, 1) := ybd_3 (by decide +kernel)
theorem dL_trackCell_2 : decode cL_trackCell 2 = .ok (.aload_n 0, 1) := ybd_42 (by decide +kernel)
theorem dL_trackCell_3 : decode cL_trackCell 3 = .ok (.iload_n 1, 1) := ybd_27 (by decide +kernel)
theorem dL_trackCell_4 : decode cL_trackCell 4 = .ok (.iload_n 2, 1) := ybd_28 (by decide +kernel)
theorem dL_trackCell_5 : decode cL_trackCell 5 = .ok (.invokevirtual 119, 3) := ybd_182 0 119 (by decide +kernel) rfl
theorem dL_trackCell_8 : decode cL_trackCell 8 = .ok (.i2l, 1) := ybd_133 (by decide +kernel)
theorem dL_trackCell_9 : decode cL_trackCell 9 = .ok (.lastore, 1) := ybd_80 (by decide +kernel)
theorem dL_trackCell_10 : decode cL_trackCell 10 = .ok (.goto 15, 3) := ybd_167 0 15 (by decide +kernel) (by decide +kernel)
theorem dL_trackCell_13 : decode cL_trackCell 13 = .ok (.astore 4, 2) := ybd_58 4 (by decide +kernel) rfl
theorem dL_trackCell_15 : decode cL_trackCell 15 = .ok (.iconst 1, 1) := ybd_4 (by decide +kernel)
theorem dL_trackCell_16 : decode cL_trackCell 16 = .ok (.ireturn, 1) := ybd_172 (by decide +kernel)
theorem dL_trackCell_17 : decode cL_trackCell 17 = .ok (.astore 4, 2) := ybd_58 4 (by decide +kernel) rfl
theorem dL_trackCell_19 : decode cL_trackCell 19 = .ok (.iconst 2, 1) := ybd_5 (by decide +kernel)
theorem dL_trackCell_20 : decode cL_trackCell 20 = .ok (.ireturn, 1) := ybd_172 (by decide +kernel)
theorem dL_trackCell_21 : decode cL_trackCell 21 = .ok (.astore 4, 2) := ybd_58 4 (by decide +kernel) rfl
theorem dL_trackCell_23 : decode cL_trackCell 23 = .ok (.iconst 3, 1) := ybd_6 (by decide +kernel)
theorem dL_trackCell_24 : decode cL_trackCell 24 = .ok (.ireturn, 1) := ybd_172 (by decide +kernel)
theorem dL_trackCell_25 : decode cL_trackCell 25 = .ok (.iconst 0, 1) := ybd_3 (by decide +kernel)
theorem dL_trackCell_26 : decode cL_trackCell 26 = .ok (.ireturn, 1) := ybd_172 (by decide +kernel)
theorem dL_movingPower_0 : decode cL_movingPower 0 = .ok (.aload 4, 2) := ybd_25 4 (by decide +kernel) rfl
theorem dL_movingPower_2 : decode cL_movingPower 2 = .ok (.iconst 0, 1) := ybd_3 (by decide +kernel)
theorem dL_movingPower_3 : decode cL_movingPower 3 = .ok (.aload_n 0, 1) := ybd_42 (by decide +kernel)
theorem dL_movingPower_4 : decode cL_movingPower 4 = .ok (.iload_n 1, 1) := ybd_27 (by decide +kernel)
theorem dL_movingPower_5 : decode cL_movingPower 5 = .ok (.iload_n 2, 1) := ybd_28 (by decide +kernel)
theorem dL_movingPower_6 : decode cL_movingPower 6 = .ok (.iload_n 3, 1) := ybd_29 (by decide +kernel)
theorem dL_movingPower_7 : decode cL_movingPower 7 = .ok (.invokevirtual 122, 3) := ybd_182 0 122 (by decide +kernel) rfl
theorem dL_movingPower_10 : decode cL_movingPower 10 = .ok (.lastore, 1) := ybd_80 (by decide +kernel)
theorem dL_movingPower_11 : decode cL_movingPower 11 = .ok (.goto 15, 3) := ybd_167 0 15 (by decide +kernel) (by decide +kernel)
theorem dL_movingPower_14 : decode cL_movingPower 14 = .ok (.astore 5, 2) := ybd_58 5 (by decide +kernel) rfl
theorem dL_movingPower_16 : decode cL_movingPower 16 = .ok (.iconst 1, 1) := ybd_4 (by decide +kernel)
theorem dL_movingPower_17 : decode cL_movingPower 17 = .ok (.ireturn, 1) := ybd_172 (by decide +kernel)
theorem dL_movingPower_18 : decode cL_movingPower 18 = .ok (.astore 5, 2) := ybd_58 5 (by decide +kernel) rfl
theorem dL_movingPower_20 : decode cL_movingPower 20 = .ok (.iconst 2, 1) := ybd_5 (by decide +kernel)
theorem dL_movingPower_21 : decode cL_movingPower 21 = .ok (.ireturn, 1) := ybd_172 (by decide +kernel)
theorem dL_movingPower_22 : decode cL_movingPower 22 = .ok (.astore 5, 2) := ybd_58 5 (by decide +kernel) rfl
theorem dL_movingPower_24 : decode cL_movingPower 24 = .ok (.iconst 3, 1) := ybd_6 (by decide +kernel)
theorem dL_movingPower_25 : decode cL_movingPower 25 = .ok (.ireturn, 1) := ybd_172 (by decide +kernel)
theorem dL_movingPower_26 : decode cL_movingPower 26 = .ok (.iconst 0, 1) := ybd_3 (by decide +kernel)
theorem dL_movingPower_27 : decode cL_movingPower 27 = .ok (.ireturn, 1) := ybd_172 (by decide +kernel)
theorem dL_bestVelocity_0 : decode cL_bestVelocity 0 = .ok (.aload 4, 2) := ybd_25 4 (by decide +kernel) rfl
theorem dL_bestVelocity_2 : decode cL_bestVelocity 2 = .ok (.iconst 0, 1) := ybd_3 (by decide +kernel)
theorem dL_bestVelocity_3 : decode cL_bestVelocity 3 = .ok (.aload_n 0, 1) := ybd_42 (by decide +kernel)
theorem dL_bestVelocity_4 : decode cL_bestVelocity 4 = .ok (.iload_n 1, 1) := ybd_27 (by decide +kernel)
theorem dL_bestVelocity_5 : decode cL_bestVelocity 5 = .ok (.iload_n 2, 1) := ybd_28 (by decide +kernel)
theorem dL_bestVelocity_6 : decode cL_bestVelocity 6 = .ok (.iload_n 3, 1) := ybd_29 (by decide +kernel)
theorem dL_bestVelocity_7 : decode cL_bestVelocity 7 = .ok (.invokevirtual 125, 3) := ybd_182 0 125 (by decide +kernel) rfl
theorem dL_bestVelocity_10 : decode cL_bestVelocity 10 = .ok (.i2l, 1) := ybd_133 (by decide +kernel)
theorem dL_bestVelocity_11 : decode cL_bestVelocity 11 = .ok (.lastore, 1) := ybd_80 (by decide +kernel)
theorem dL_bestVelocity_12 : decode cL_bestVelocity 12 = .ok (.goto 15, 3) := ybd_167 0 15 (by decide +kernel) (by decide +kernel)
theorem dL_bestVelocity_15 : decode cL_bestVelocity 15 = .ok (.astore 5, 2) := ybd_58 5 (by decide +kernel) rfl
theorem dL_bestVelocity_17 : decode cL_bestVelocity 17 = .ok (.iconst 1, 1) := ybd_4 (by decide +kernel)
theorem dL_bestVelocity_18 : decode cL_bestVelocity 18 = .ok (.ireturn, 1) := ybd_172 (by decide +kernel)
theorem dL_bestVelocity_19 : decode cL_bestVelocity 19 = .ok (.astore 5, 2) := ybd_58 5 (by decide +kernel) rfl
theorem dL_bestVelocity_21 : decode cL_bestVelocity 21 = .ok (.iconst 2, 1) := ybd_5 (by decide +kernel)
theorem dL_bestVelocity_22 : decode cL_bestVelocity 22 = .ok (.ireturn, 1) := ybd_172 (by decide +kernel)
theorem dL_bestVelocity_23 : decode cL_bestVelocity 23 = .ok (.astore 5, 2) := ybd_58 5 (by decide +kernel) rfl
theorem dL_bestVelocity_25 : decode cL_bestVelocity 25 = .ok (.iconst 3, 1) := ybd_6 (by decide +kernel)
theorem dL_bestVelocity_26 : decode cL_bestVelocity 26 = .ok (.ireturn, 1) := ybd_172 (by decide +kernel)
theorem dL_bestVelocity_27 : decode cL_bestVelocity 27 = .ok (.iconst 0, 1) := ybd_3 (by decide +kernel)
theorem dL_bestVelocity_28 : decode cL_bestVelocity 28 = .ok (.ireturn, 1) := ybd_172 (by decide +kernel)
theorem dL_correlation_0 : decode cL_correlation 0 = .ok (.aload 4, 2) := ybd_25 4 (by decide +kernel) rfl
theorem dL_correlation_2 : decode cL_correlation 2 = .ok (.iconst 0, 1) := ybd_3 (by decide +kernel)
theorem dL_correlation_3 : decode cL_correlation 3 = .ok (.aload_n 0, 1) := ybd_42 (by decide +kernel)
theorem dL_correlation_4 : decode cL_correlation 4 = .ok (.iload_n 1, 1) := ybd_27 (by decide +kernel)
theorem dL_correlation_5 : decode cL_correlation 5 = .ok (.iload_n 2, 1) := ybd_28 (by decide +kernel)
theorem dL_correlation_6 : decode cL_correlation 6 = .ok (.iload_n 3, 1) := ybd_29 (by decide +kernel)
theorem dL_correlation_7 : decode cL_correlation 7 = .ok (.invokevirtual 128, 3) := ybd_182 0 128 (by decide +kernel) rfl
theorem dL_correlation_10 : decode cL_correlation 10 = .ok (.lastore, 1) := ybd_80 (by decide +kernel)
theorem dL_correlation_11 : decode cL_correlation 11 = .ok (.goto 15, 3) := ybd_167 0 15 (by decide +kernel) (by decide +kernel)
theorem dL_correlation_14 : decode cL_correlation 14 = .ok (.astore 5, 2) := ybd_58 5 (by decide +kernel) rfl
theorem dL_correlation_16 : decode cL_correlation 16 = .ok (.iconst 1, 1) := ybd_4 (by decide +kernel)
theorem dL_correlation_17 : decode cL_correlation 17 = .ok (.ireturn, 1) := ybd_172 (by decide +kernel)
theorem dL_correlation_18 : decode cL_correlation 18 = .ok (.astore 5, 2) := ybd_58 5 (by decide +kernel) rfl
theorem dL_correlation_20 : decode cL_correlation 20 = .ok (.iconst 2, 1) := ybd_5 (by decide +kernel)
theorem dL_correlation_21 : decode cL_correlation 21 = .ok (.ireturn, 1) := ybd_172 (by decide +kernel)
theorem dL_correlation_22 : decode cL_correlation 22 = .ok (.astore 5, 2) := ybd_58 5 (by decide +kernel) rfl
theorem dL_correlation_24 : decode cL_correlation 24 = .ok (.iconst 3, 1) := ybd_6 (by decide +kernel)
theorem dL_correlation_25 : decode cL_correlation 25 = .ok (.ireturn, 1) := ybd_172 (by decide +kernel)
theorem dL_correlation_26 : decode cL_correlation 26 = .ok (.iconst 0, 1) := ybd_3 (by decide +kernel)
theorem dL_correlation_27 : decode cL_correlation 27 = .ok (.ireturn, 1) := ybd_172 (by decide +kernel)
theorem dL_bestLag_0 : decode cL_bestLag 0 = .ok (.aload 4, 2) := ybd_25 4 (by decide +kernel) rfl
theorem dL_bestLag_2 : decode cL_bestLag 2 = .ok (.iconst 0, 1) := ybd_3 (by decide +kernel)
theorem dL_bestLag_3 : decode cL_bestLag 3 = .ok (.aload_n 0, 1) := ybd_42 (by decide +kernel)
theorem dL_bestLag_4 : decode cL_bestLag 4 = .ok (.iload_n 1, 1) := ybd_27 (by decide +kernel)
theorem dL_bestLag_5 : decode cL_bestLag 5 = .ok (.iload_n 2, 1) := ybd_28 (by decide +kernel)
theorem dL_bestLag_6 : decode cL_bestLag 6 = .ok (.iload_n 3, 1) := ybd_29 (by decide +kernel)
theorem dL_bestLag_7 : decode cL_bestLag 7 = .ok (.invokevirtual 131, 3) := ybd_182 0 131 (by decide +kernel) rfl
theorem dL_bestLag_10 : decode cL_bestLag 10 = .ok (.i2l, 1) := ybd_133 (by decide +kernel)
theorem dL_bestLag_11 : decode cL_bestLag 11 = .ok (.lastore, 1) := ybd_80 (by decide +kernel)
theorem dL_bestLag_12 : decode cL_bestLag 12 = .ok (.goto 15, 3) := ybd_167 0 15 (by decide +kernel) (by decide +kernel)
theorem dL_bestLag_15 : decode cL_bestLag 15 = .ok (.astore 5, 2) := ybd_58 5 (by decide +kernel) rfl
theorem dL_bestLag_17 : decode cL_bestLag 17 = .ok (.iconst 1, 1) := ybd_4 (by decide +kernel)
theorem dL_bestLag_18 : decode cL_bestLag 18 = .ok (.ireturn, 1) := ybd_172 (by decide +kernel)
theorem dL_bestLag_19 : decode cL_bestLag 19 = .ok (.astore 5, 2) := ybd_58 5 (by decide +kernel) rfl
theorem dL_bestLag_21 : decode cL_bestLag 21 = .ok (.iconst 2, 1) := ybd_5 (by decide +kernel)
theorem dL_bestLag_22 : decode cL_bestLag 22 = .ok (.ireturn, 1) := ybd_172 (by decide +kernel)
theorem dL_bestLag_23 : decode cL_bestLag 23 = .ok (.astore 5, 2) := ybd_58 5 (by decide +kernel) rfl
theorem dL_bestLag_25 : decode cL_bestLag 25 = .ok (.iconst 3, 1) := ybd_6 (by decide +kernel)
theorem dL_bestLag_26 : decode cL_bestLag 26 = .ok (.ireturn, 1) := ybd_172 (by decide +kernel)
theorem dL_bestLag_27 : decode cL_bestLag 27 = .ok (.iconst 0, 1) := ybd_3 (by decide +kernel)
theorem dL_bestLag_28 : decode cL_bestLag 28 = .ok (.ireturn, 1) := ybd_172 (by decide +kernel)
theorem dL_level_0 : decode cL_level 0 = .ok (.aload_n 2, 1) := ybd_44 (by decide +kernel)
theorem dL_level_1 : decode cL_level 1 = .ok (.iconst 0, 1) := ybd_3 (by decide +kernel)
theorem dL_level_2 : decode cL_level 2 = .ok (.aload_n 0, 1) := ybd_42 (by decide +kernel)
theorem dL_level_3 : decode cL_level 3 = .ok (.iload_n 1, 1) := ybd_27 (by decide +kernel)
theorem dL_level_4 : decode cL_level 4 = .ok (.invokevirtual 134, 3) := ybd_182 0 134 (by decide +kernel) rfl
theorem dL_level_7 : decode cL_level 7 = .ok (.lastore, 1) := ybd_80 (by decide +kernel)
theorem dL_level_8 : decode cL_level 8 = .ok (.goto 9, 3) := ybd_167 0 9 (by decide +kernel) (by decide +kernel)
theorem dL_level_11 : decode cL_level 11 = .ok (.astore_n 3, 1) := ybd_78 (by decide +kernel)
theorem dL_level_12 : decode cL_level 12 = .ok (.iconst 1, 1) := ybd_4 (by decide +kernel)
theorem dL_level_13 : decode cL_level 13 = .ok (.ireturn, 1) := ybd_172 (by decide +kernel)
theorem dL_level_14 : decode cL_level 14 = .ok (.astore_n 3, 1) := ybd_78 (by decide +kernel)
theorem dL_level_15 : decode cL_level 15 = .ok (.iconst 2, 1) := ybd_5 (by decide +kernel)
theorem dL_level_16 : decode cL_level 16 = .ok (.ireturn, 1) := ybd_172 (by decide +kernel)
theorem dL_level_17 : decode cL_level 17 = .ok (.iconst 0, 1) := ybd_3 (by decide +kernel)
theorem dL_level_18 : decode cL_level 18 = .ok (.ireturn, 1) := ybd_172 (by decide +kernel)
theorem dL_loudest_0 : decode cL_loudest 0 = .ok (.aload_n 2, 1) := ybd_44 (by decide +kernel)
theorem dL_loudest_1 : decode cL_loudest 1 = .ok (.iconst 0, 1) := ybd_3 (by decide +kernel)
theorem dL_loudest_2 : decode cL_loudest 2 = .ok (.aload_n 0, 1) := ybd_42 (by decide +kernel)
theorem dL_loudest_3 : decode cL_loudest 3 = .ok (.iload_n 1, 1) := ybd_27 (by decide +kernel)
theorem dL_loudest_4 : decode cL_loudest 4 = .ok (.invokevirtual 137, 3) := ybd_182 0 137 (by decide +kernel) rfl
theorem dL_loudest_7 : decode cL_loudest 7 = .ok (.i2l, 1) := ybd_133 (by decide +kernel)
theorem dL_loudest_8 : decode cL_loudest 8 = .ok (.lastore, 1) := ybd_80 (by decide +kernel)
theorem dL_loudest_9 : decode cL_loudest 9 = .ok (.goto 9, 3) := ybd_167 0 9 (by decide +kernel) (by decide +kernel)
theorem dL_loudest_12 : decode cL_loudest 12 = .ok (.astore_n 3, 1) := ybd_78 (by decide +kernel)
theorem dL_loudest_13 : decode cL_loudest 13 = .ok (.iconst 1, 1) := ybd_4 (by decide +kernel)
theorem dL_loudest_14 : decode cL_loudest 14 = .ok (.ireturn, 1) := ybd_172 (by decide +kernel)
theorem dL_loudest_15 : decode cL_loudest 15 = .ok (.astore_n 3, 1) := ybd_78 (by decide +kernel)
theorem dL_loudest_16 : decode cL_loudest 16 = .ok (.iconst 2, 1) := ybd_5 (by decide +kernel)
theorem dL_loudest_17 : decode cL_loudest 17 = .ok (.ireturn, 1) := ybd_172 (by decide +kernel)
theorem dL_loudest_18 : decode cL_loudest 18 = .ok (.iconst 0, 1) := ybd_3 (by decide +kernel)
theorem dL_loudest_19 : decode cL_loudest 19 = .ok (.ireturn, 1) := ybd_172 (by decide +kernel)
theorem dL_writeMap_0 : decode cL_writeMap 0 = .ok (.aload_n 1, 1) := ybd_43 (by decide +kernel)
theorem dL_writeMap_1 : decode cL_writeMap 1 = .ok (.iconst 0, 1) := ybd_3 (by decide +kernel)
theorem dL_writeMap_2 : decode cL_writeMap 2 = .ok (.aload_n 0, 1) := ybd_42 (by decide +kernel)
theorem dL_writeMap_3 : decode cL_writeMap 3 = .ok (.invokevirtual 140, 3) := ybd_182 0 140 (by decide +kernel) rfl
theorem dL_writeMap_6 : decode cL_writeMap 6 = .ok (.i2l, 1) := ybd_133 (by decide +kernel)
theorem dL_writeMap_7 : decode cL_writeMap 7 = .ok (.lastore, 1) := ybd_80 (by decide +kernel)
theorem dL_writeMap_8 : decode cL_writeMap 8 = .ok (.goto 6, 3) := ybd_167 0 6 (by decide +kernel) (by decide +kernel)
theorem dL_writeMap_11 : decode cL_writeMap 11 = .ok (.astore_n 2, 1) := ybd_77 (by decide +kernel)
theorem dL_writeMap_12 : decode cL_writeMap 12 = .ok (.iconst 1, 1) := ybd_4 (by decide +kernel)
theorem dL_writeMap_13 : decode cL_writeMap 13 = .ok (.ireturn, 1) := ybd_172 (by decide +kernel)
theorem dL_writeMap_14 : decode cL_writeMap 14 = .ok (.iconst 0, 1) := ybd_3 (by decide +kernel)
theorem dL_writeMap_15 : decode cL_writeMap 15 = .ok (.ireturn, 1) := ybd_172 (by decide +kernel)
theorem dL_mapByte_0 : decode cL_mapByte 0 = .ok (.aload_n 2, 1) := ybd_44 (by decide +kernel)
theorem dL_mapByte_1 : decode cL_mapByte 1 = .ok (.iconst 0, 1) := ybd_3 (by decide +kernel)
theorem dL_mapByte_2 : decode cL_mapByte 2 = .ok (.aload_n 0, 1) := ybd_42 (by decide +kernel)
theorem dL_mapByte_3 : decode cL_mapByte 3 = .ok (.iload_n 1, 1) := ybd_27 (by decide +kernel)
theorem dL_mapByte_4 : decode cL_mapByte 4 = .ok (.invokevirtual 143, 3) := ybd_182 0 143 (by decide +kernel) rfl
theorem dL_mapByte_7 : decode cL_mapByte 7 = .ok (.i2l, 1) := ybd_133 (by decide +kernel)
theorem dL_mapByte_8 : decode cL_mapByte 8 = .ok (.lastore, 1) := ybd_80 (by decide +kernel)
theorem dL_mapByte_9 : decode cL_mapByte 9 = .ok (.goto 6, 3) := ybd_167 0 6 (by decide +kernel) (by decide +kernel)
theorem dL_mapByte_12 : decode cL_mapByte 12 = .ok (.astore_n 3, 1) := ybd_78 (by decide +kernel)
theorem dL_mapByte_13 : decode cL_mapByte 13 = .ok (.iconst 1, 1) := ybd_4 (by decide +kernel)
theorem dL_mapByte_14 : decode cL_mapByte 14 = .ok (.ireturn, 1) := ybd_172 (by decide +kernel)
theorem dL_mapByte_15 : decode cL_mapByte 15 = .ok (.iconst 0, 1) := ybd_3 (by decide +kernel)
theorem dL_mapByte_16 : decode cL_mapByte 16 = .ok (.ireturn, 1) := ybd_172 (by decide +kernel)
theorem dL_pointBest_0 : decode cL_pointBest 0 = .ok (.aload_n 3, 1) := ybd_45 (by decide +kernel)
theorem dL_pointBest_1 : decode cL_pointBest 1 = .ok (.iconst 0, 1) := ybd_3 (by decide +kernel)
theorem dL_pointBest_2 : decode cL_pointBest 2 = .ok (.aload_n 0, 1) := ybd_42 (by decide +kernel)
theorem dL_pointBest_3 : decode cL_pointBest 3 = .ok (.iload_n 1, 1) := ybd_27 (by decide +kernel)
theorem dL_pointBest_4 : decode cL_pointBest 4 = .ok (.iload_n 2, 1) := ybd_28 (by decide +kernel)
theorem dL_pointBest_5 : decode cL_pointBest 5 = .ok (.invokevirtual 146, 3) := ybd_182 0 146 (by decide +kernel) rfl
theorem dL_pointBest_8 : decode cL_pointBest 8 = .ok (.i2l, 1) := ybd_133 (by decide +kernel)
theorem dL_pointBest_9 : decode cL_pointBest 9 = .ok (.lastore, 1) := ybd_80 (by decide +kernel)
theorem dL_pointBest_10 : decode cL_pointBest 10 = .ok (.goto 15, 3) := ybd_167 0 15 (by decide +kernel) (by decide +kernel)
theorem dL_pointBest_13 : decode cL_pointBest 13 = .ok (.astore 4, 2) := ybd_58 4 (by decide +kernel) rfl
theorem dL_pointBest_15 : decode cL_pointBest 15 = .ok (.iconst 1, 1) := ybd_4 (by decide +kernel)
theorem dL_pointBest_16 : decode cL_pointBest 16 = .ok (.ireturn, 1) := ybd_172 (by decide +kernel)
theorem dL_pointBest_17 : decode cL_pointBest 17 = .ok (.astore 4, 2) := ybd_58 4 (by decide +kernel) rfl
theorem dL_pointBest_19 : decode cL_pointBest 19 = .ok (.iconst 2, 1) := ybd_5 (by decide +kernel)
theorem dL_pointBest_20 : decode cL_pointBest 20 = .ok (.ireturn, 1) := ybd_172 (by decide +kernel)
theorem dL_pointBest_21 : decode cL_pointBest 21 = .ok (.astore 4, 2) := ybd_58 4 (by decide +kernel) rfl
theorem dL_pointBest_23 : decode cL_pointBest 23 = .ok (.iconst 3, 1) := ybd_6 (by decide +kernel)
theorem dL_pointBest_24 : decode cL_pointBest 24 = .ok (.ireturn, 1) := ybd_172 (by decide +kernel)
theorem dL_pointBest_25 : decode cL_pointBest 25 = .ok (.iconst 0, 1) := ybd_3 (by decide +kernel)
theorem dL_pointBest_26 : decode cL_pointBest 26 = .ok (.ireturn, 1) := ybd_172 (by decide +kernel)
theorem dL_pointPower_0 : decode cL_pointPower 0 = .ok (.aload 4, 2) := ybd_25 4 (by decide +kernel) rfl
theorem dL_pointPower_2 : decode cL_pointPower 2 = .ok (.iconst 0, 1) := ybd_3 (by decide +kernel)
theorem dL_pointPower_3 : decode cL_pointPower 3 = .ok (.aload_n 0, 1) := ybd_42 (by decide +kernel)
theorem dL_pointPower_4 : decode cL_pointPower 4 = .ok (.iload_n 1, 1) := ybd_27 (by decide +kernel)
theorem dL_pointPower_5 : decode cL_pointPower 5 = .ok (.iload_n 2, 1) := ybd_28 (by decide +kernel)
theorem dL_pointPower_6 : decode cL_pointPower 6 = .ok (.iload_n 3, 1) := ybd_29 (by decide +kernel)
theorem dL_pointPower_7 : decode cL_pointPower 7 = .ok (.invokevirtual 149, 3) := ybd_182 0 149 (by decide +kernel) rfl
theorem dL_pointPower_10 : decode cL_pointPower 10 = .ok (.lastore, 1) := ybd_80 (by decide +kernel)
theorem dL_pointPower_11 : decode cL_pointPower 11 = .ok (.goto 15, 3) := ybd_167 0 15 (by decide +kernel) (by decide +kernel)
theorem dL_pointPower_14 : decode cL_pointPower 14 = .ok (.astore 5, 2) := ybd_58 5 (by decide +kernel) rfl
theorem dL_pointPower_16 : decode cL_pointPower 16 = .ok (.iconst 1, 1) := ybd_4 (by decide +kernel)
theorem dL_pointPower_17 : decode cL_pointPower 17 = .ok (.ireturn, 1) := ybd_172 (by decide +kernel)
theorem dL_pointPower_18 : decode cL_pointPower 18 = .ok (.astore 5, 2) := ybd_58 5 (by decide +kernel) rfl
theorem dL_pointPower_20 : decode cL_pointPower 20 = .ok (.iconst 2, 1) := ybd_5 (by decide +kernel)
theorem dL_pointPower_21 : decode cL_pointPower 21 = .ok (.ireturn, 1) := ybd_172 (by decide +kernel)
theorem dL_pointPower_22 : decode cL_pointPower 22 = .ok (.astore 5, 2) := ybd_58 5 (by decide +kernel) rfl
theorem dL_pointPower_24 : decode cL_pointPower 24 = .ok (.iconst 3, 1) := ybd_6 (by decide +kernel)
theorem dL_pointPower_25 : decode cL_pointPower 25 = .ok (.ireturn, 1) := ybd_172 (by decide +kernel)
theorem dL_pointPower_26 : decode cL_pointPower 26 = .ok (.iconst 0, 1) := ybd_3 (by decide +kernel)
theorem dL_pointPower_27 : decode cL_pointPower 27 = .ok (.ireturn, 1) := ybd_172 (by decide +kernel)
theorem dL_bestWithout_0 : decode cL_bestWithout 0 = .ok (.aload_n 2, 1) := ybd_44 (by decide +kernel)
theorem dL_bestWithout_1 : decode cL_bestWithout 1 = .ok (.iconst 0, 1) := ybd_3 (by decide +kernel)
theorem dL_bestWithout_2 : decode cL_bestWithout 2 = .ok (.aload_n 0, 1) := ybd_42 (by decide +kernel)
theorem dL_bestWithout_3 : decode cL_bestWithout 3 = .ok (.iload_n 1, 1) := ybd_27 (by decide +kernel)
theorem dL_bestWithout_4 : decode cL_bestWithout 4 = .ok (.invokevirtual 152, 3) := ybd_182 0 152 (by decide +kernel) rfl
theorem dL_bestWithout_7 : decode cL_bestWithout 7 = .ok (.i2l, 1) := ybd_133 (by decide +kernel)
theorem dL_bestWithout_8 : decode cL_bestWithout 8 = .ok (.lastore, 1) := ybd_80 (by decide +kernel)
theorem dL_bestWithout_9 : decode cL_bestWithout 9 = .ok (.goto 9, 3) := ybd_167 0 9 (by decide +kernel) (by decide +kernel)
theorem dL_bestWithout_12 : decode cL_bestWithout 12 = .ok (.astore_n 3, 1) := ybd_78 (by decide +kernel)
theorem dL_bestWithout_13 : decode cL_bestWithout 13 = .ok (.iconst 1, 1) := ybd_4 (by decide +kernel)
theorem dL_bestWithout_14 : decode cL_bestWithout 14 = .ok (.ireturn, 1) := ybd_172 (by decide +kernel)
theorem dL_bestWithout_15 : decode cL_bestWithout 15 = .ok (.astore_n 3, 1) := ybd_78 (by decide +kernel)
theorem dL_bestWithout_16 : decode cL_bestWithout 16 = .ok (.iconst 2, 1) := ybd_5 (by decide +kernel)
theorem dL_bestWithout_17 : decode cL_bestWithout 17 = .ok (.ireturn, 1) := ybd_172 (by decide +kernel)
theorem dL_bestWithout_18 : decode cL_bestWithout 18 = .ok (.iconst 0, 1) := ybd_3 (by decide +kernel)
theorem dL_bestWithout_19 : decode cL_bestWithout 19 = .ok (.ireturn, 1) := ybd_172 (by decide +kernel)
theorem dL_bestIfOff_0 : decode cL_bestIfOff 0 = .ok (.aload_n 2, 1) := ybd_44 (by decide +kernel)
theorem dL_bestIfOff_1 : decode cL_bestIfOff 1 = .ok (.iconst 0, 1) := ybd_3 (by decide +kernel)
theorem dL_bestIfOff_2 : decode cL_bestIfOff 2 = .ok (.aload_n 0, 1) := ybd_42 (by decide +kernel)
theorem dL_bestIfOff_3 : decode cL_bestIfOff 3 = .ok (.iload_n 1, 1) := ybd_27 (by decide +kernel)
theorem dL_bestIfOff_4 : decode cL_bestIfOff 4 = .ok (.invokevirtual 155, 3) := ybd_182 0 155 (by decide +kernel) rfl
theorem dL_bestIfOff_7 : decode cL_bestIfOff 7 = .ok (.i2l, 1) := ybd_133 (by decide +kernel)
theorem dL_bestIfOff_8 : decode cL_bestIfOff 8 = .ok (.lastore, 1) := ybd_80 (by decide +kernel)
theorem dL_bestIfOff_9 : decode cL_bestIfOff 9 = .ok (.goto 9, 3) := ybd_167 0 9 (by decide +kernel) (by decide +kernel)
theorem dL_bestIfOff_12 : decode cL_bestIfOff 12 = .ok (.astore_n 3, 1) := ybd_78 (by decide +kernel)
theorem dL_bestIfOff_13 : decode cL_bestIfOff 13 = .ok (.iconst 1, 1) := ybd_4 (by decide +kernel)
theorem dL_bestIfOff_14 : decode cL_bestIfOff 14 = .ok (.ireturn, 1) := ybd_172 (by decide +kernel)
theorem dL_bestIfOff_15 : decode cL_bestIfOff 15 = .ok (.astore_n 3, 1) := ybd_78 (by decide +kernel)
theorem dL_bestIfOff_16 : decode cL_bestIfOff 16 = .ok (.iconst 2, 1) := ybd_5 (by decide +kernel)
theorem dL_bestIfOff_17 : decode cL_bestIfOff 17 = .ok (.ireturn, 1) := ybd_172 (by decide +kernel)
theorem dL_bestIfOff_18 : decode cL_bestIfOff 18 = .ok (.iconst 0, 1) := ybd_3 (by decide +kernel)
theorem dL_bestIfOff_19 : decode cL_bestIfOff 19 = .ok (.ireturn, 1) := ybd_172 (by decide +kernel)
theorem dL_mute_0 : decode cL_mute 0 = .ok (.aload_n 3, 1) := ybd_45 (by decide +kernel)
theorem dL_mute_1 : decode cL_mute 1 = .ok (.iconst 0, 1) := ybd_3 (by decide +kernel)
theorem dL_mute_2 : decode cL_mute 2 = .ok (.aload_n 0, 1) := ybd_42 (by decide +kernel)
theorem dL_mute_3 : decode cL_mute 3 = .ok (.iload_n 1, 1) := ybd_27 (by decide +kernel)
theorem dL_mute_4 : decode cL_mute 4 = .ok (.iload_n 2, 1) := ybd_28 (by decide +kernel)
theorem dL_mute_5 : decode cL_mute 5 = .ok (.invokevirtual 158, 3) := ybd_182 0 158 (by decide +kernel) rfl
theorem dL_mute_8 : decode cL_mute 8 = .ok (.ifCond .eq 7, 3) := ybd_153 0 7 (by decide +kernel) (by decide +kernel)
theorem dL_mute_11 : decode cL_mute 11 = .ok (.lconst 1, 1) := ybd_10 (by decide +kernel)
theorem dL_mute_12 : decode cL_mute 12 = .ok (.goto 4, 3) := ybd_167 0 4 (by decide +kernel) (by decide +kernel)
theorem dL_mute_15 : decode cL_mute 15 = .ok (.lconst 0, 1) := ybd_9 (by decide +kernel)
theorem dL_mute_16 : decode cL_mute 16 = .ok (.lastore, 1) := ybd_80 (by decide +kernel)
theorem dL_mute_17 : decode cL_mute 17 = .ok (.goto 11, 3) := ybd_167 0 11 (by decide +kernel) (by decide +kernel)
theorem dL_mute_20 : decode cL_mute 20 = .ok (.astore 4, 2) := ybd_58 4 (by decide +kernel) rfl
theorem dL_mute_22 : decode cL_mute 22 = .ok (.iconst 1, 1) := ybd_4 (by decide +kernel)
theorem dL_mute_23 : decode cL_mute 23 = .ok (.ireturn, 1) := ybd_172 (by decide +kernel)
theorem dL_mute_24 : decode cL_mute 24 = .ok (.astore 4, 2) := ybd_58 4 (by decide +kernel) rfl
theorem dL_mute_26 : decode cL_mute 26 = .ok (.iconst 2, 1) := ybd_5 (by decide +kernel)
theorem dL_mute_27 : decode cL_mute 27 = .ok (.ireturn, 1) := ybd_172 (by decide +kernel)
theorem dL_mute_28 : decode cL_mute 28 = .ok (.iconst 0, 1) := ybd_3 (by decide +kernel)
theorem dL_mute_29 : decode cL_mute 29 = .ok (.ireturn, 1) := ybd_172 (by decide +kernel)
theorem dL_setWeight_0 : decode cL_setWeight 0 = .ok (.aload_n 3, 1) := ybd_45 (by decide +kernel)
theorem dL_setWeight_1 : decode cL_setWeight 1 = .ok (.iconst 0, 1) := ybd_3 (by decide +kernel)
theorem dL_setWeight_2 : decode cL_setWeight 2 = .ok (.aload_n 0, 1) := ybd_42 (by decide +kernel)
theorem dL_setWeight_3 : decode cL_setWeight 3 = .ok (.iload_n 1, 1) := ybd_27 (by decide +kernel)
theorem dL_setWeight_4 : decode cL_setWeight 4 = .ok (.iload_n 2, 1) := ybd_28 (by decide +kernel)
theorem dL_setWeight_5 : decode cL_setWeight 5 = .ok (.invokevirtual 162, 3) := ybd_182 0 162 (by decide +kernel) rfl
theorem dL_setWeight_8 : decode cL_setWeight 8 = .ok (.i2l, 1) := ybd_133 (by decide +kernel)
theorem dL_setWeight_9 : decode cL_setWeight 9 = .ok (.lastore, 1) := ybd_80 (by decide +kernel)
theorem dL_setWeight_10 : decode cL_setWeight 10 = .ok (.goto 15, 3) := ybd_167 0 15 (by decide +kernel) (by decide +kernel)
theorem dL_setWeight_13 : decode cL_setWeight 13 = .ok (.astore 4, 2) := ybd_58 4 (by decide +kernel) rfl
theorem dL_setWeight_15 : decode cL_setWeight 15 = .ok (.iconst 1, 1) := ybd_4 (by decide +kernel)
theorem dL_setWeight_16 : decode cL_setWeight 16 = .ok (.ireturn, 1) := ybd_172 (by decide +kernel)
theorem dL_setWeight_17 : decode cL_setWeight 17 = .ok (.astore 4, 2) := ybd_58 4 (by decide +kernel) rfl
theorem dL_setWeight_19 : decode cL_setWeight 19 = .ok (.iconst 2, 1) := ybd_5 (by decide +kernel)
theorem dL_setWeight_20 : decode cL_setWeight 20 = .ok (.ireturn, 1) := ybd_172 (by decide +kernel)
theorem dL_setWeight_21 : decode cL_setWeight 21 = .ok (.astore 4, 2) := ybd_58 4 (by decide +kernel) rfl
theorem dL_setWeight_23 : decode cL_setWeight 23 = .ok (.iconst 3, 1) := ybd_6 (by decide +kernel)
theorem dL_setWeight_24 : decode cL_setWeight 24 = .ok (.ireturn, 1) := ybd_172 (by decide +kernel)
theorem dL_setWeight_25 : decode cL_setWeight 25 = .ok (.iconst 0, 1) := ybd_3 (by decide +kernel)
theorem dL_setWeight_26 : decode cL_setWeight 26 = .ok (.ireturn, 1) := ybd_172 (by decide +kernel)
theorem dL_setOn_0 : decode cL_setOn 0 = .ok (.aload_n 3, 1) := ybd_45 (by decide +kernel)
theorem dL_setOn_1 : decode cL_setOn 1 = .ok (.iconst 0, 1) := ybd_3 (by decide +kernel)
theorem dL_setOn_2 : decode cL_setOn 2 = .ok (.aload_n 0, 1) := ybd_42 (by decide +kernel)
theorem dL_setOn_3 : decode cL_setOn 3 = .ok (.iload_n 1, 1) := ybd_27 (by decide +kernel)
theorem dL_setOn_4 : decode cL_setOn 4 = .ok (.iload_n 2, 1) := ybd_28 (by decide +kernel)
theorem dL_setOn_5 : decode cL_setOn 5 = .ok (.invokevirtual 165, 3) := ybd_182 0 165 (by decide +kernel) rfl
theorem dL_setOn_8 : decode cL_setOn 8 = .ok (.ifCond .eq 7, 3) := ybd_153 0 7 (by decide +kernel) (by decide +kernel)
theorem dL_setOn_11 : decode cL_setOn 11 = .ok (.lconst 1, 1) := ybd_10 (by decide +kernel)
theorem dL_setOn_12 : decode cL_setOn 12 = .ok (.goto 4, 3) := ybd_167 0 4 (by decide +kernel) (by decide +kernel)
theorem dL_setOn_15 : decode cL_setOn 15 = .ok (.lconst 0, 1) := ybd_9 (by decide +kernel)
theorem dL_setOn_16 : decode cL_setOn 16 = .ok (.lastore, 1) := ybd_80 (by decide +kernel)
theorem dL_setOn_17 : decode cL_setOn 17 = .ok (.goto 11, 3) := ybd_167 0 11 (by decide +kernel) (by decide +kernel)
theorem dL_setOn_20 : decode cL_setOn 20 = .ok (.astore 4, 2) := ybd_58 4 (by decide +kernel) rfl
theorem dL_setOn_22 : decode cL_setOn 22 = .ok (.iconst 1, 1) := ybd_4 (by decide +kernel)
theorem dL_setOn_23 : decode cL_setOn 23 = .ok (.ireturn, 1) := ybd_172 (by decide +kernel)
theorem dL_setOn_24 : decode cL_setOn 24 = .ok (.astore 4, 2) := ybd_58 4 (by decide +kernel) rfl
theorem dL_setOn_26 : decode cL_setOn 26 = .ok (.iconst 2, 1) := ybd_5 (by decide +kernel)
theorem dL_setOn_27 : decode cL_setOn 27 = .ok (.ireturn, 1) := ybd_172 (by decide +kernel)
theorem dL_setOn_28 : decode cL_setOn 28 = .ok (.iconst 0, 1) := ybd_3 (by decide +kernel)
theorem dL_setOn_29 : decode cL_setOn 29 = .ok (.ireturn, 1) := ybd_172 (by decide +kernel)
theorem dL_moveSource_0 : decode cL_moveSource 0 = .ok (.aload 4, 2) := ybd_25 4 (by decide +kernel) rfl
theorem dL_moveSource_2 : decode cL_moveSource 2 = .ok (.iconst 0, 1) := ybd_3 (by decide +kernel)
theorem dL_moveSource_3 : decode cL_moveSource 3 = .ok (.aload_n 0, 1) := ybd_42 (by decide +kernel)
theorem dL_moveSource_4 : decode cL_moveSource 4 = .ok (.iload_n 1, 1) := ybd_27 (by decide +kernel)
theorem dL_moveSource_5 : decode cL_moveSource 5 = .ok (.iload_n 2, 1) := ybd_28 (by decide +kernel)
theorem dL_moveSource_6 : decode cL_moveSource 6 = .ok (.iload_n 3, 1) := ybd_29 (by decide +kernel)
theorem dL_moveSource_7 : decode cL_moveSource 7 = .ok (.invokevirtual 168, 3) := ybd_182 0 168 (by decide +kernel) rfl
theorem dL_moveSource_10 : decode cL_moveSource 10 = .ok (.i2l, 1) := ybd_133 (by decide +kernel)
theorem dL_moveSource_11 : decode cL_moveSource 11 = .ok (.lastore, 1) := ybd_80 (by decide +kernel)
theorem dL_moveSource_12 : decode cL_moveSource 12 = .ok (.goto 15, 3) := ybd_167 0 15 (by decide +kernel) (by decide +kernel)
theorem dL_moveSource_15 : decode cL_moveSource 15 = .ok (.astore 5, 2) := ybd_58 5 (by decide +kernel) rfl
theorem dL_moveSource_17 : decode cL_moveSource 17 = .ok (.iconst 1, 1) := ybd_4 (by decide +kernel)
theorem dL_moveSource_18 : decode cL_moveSource 18 = .ok (.ireturn, 1) := ybd_172 (by decide +kernel)
theorem dL_moveSource_19 : decode cL_moveSource 19 = .ok (.astore 5, 2) := ybd_58 5 (by decide +kernel) rfl
theorem dL_moveSource_21 : decode cL_moveSource 21 = .ok (.iconst 2, 1) := ybd_5 (by decide +kernel)
theorem dL_moveSource_22 : decode cL_moveSource 22 = .ok (.ireturn, 1) := ybd_172 (by decide +kernel)
theorem dL_moveSource_23 : decode cL_moveSource 23 = .ok (.astore 5, 2) := ybd_58 5 (by decide +kernel) rfl
theorem dL_moveSource_25 : decode cL_moveSource 25 = .ok (.iconst 3, 1) := ybd_6 (by decide +kernel)
theorem dL_moveSource_26 : decode cL_moveSource 26 = .ok (.ireturn, 1) := ybd_172 (by decide +kernel)
theorem dL_moveSource_27 : decode cL_moveSource 27 = .ok (.iconst 0, 1) := ybd_3 (by decide +kernel)
theorem dL_moveSource_28 : decode cL_moveSource 28 = .ok (.ireturn, 1) := ybd_172 (by decide +kernel)
theorem dL_setVelocity_0 : decode cL_setVelocity 0 = .ok (.aload 4, 2) := ybd_25 4 (by decide +kernel) rfl
theorem dL_setVelocity_2 : decode cL_setVelocity 2 = .ok (.iconst 0, 1) := ybd_3 (by decide +kernel)
theorem dL_setVelocity_3 : decode cL_setVelocity 3 = .ok (.aload_n 0, 1) := ybd_42 (by decide +kernel)
theorem dL_setVelocity_4 : decode cL_setVelocity 4 = .ok (.iload_n 1, 1) := ybd_27 (by decide +kernel)
theorem dL_setVelocity_5 : decode cL_setVelocity 5 = .ok (.iload_n 2, 1) := ybd_28 (by decide +kernel)
theorem dL_setVelocity_6 : decode cL_setVelocity 6 = .ok (.iload_n 3, 1) := ybd_29 (by decide +kernel)
theorem dL_setVelocity_7 : decode cL_setVelocity 7 = .ok (.invokevirtual 171, 3) := ybd_182 0 171 (by decide +kernel) rfl
theorem dL_setVelocity_10 : decode cL_setVelocity 10 = .ok (.i2l, 1) := ybd_133 (by decide +kernel)
theorem dL_setVelocity_11 : decode cL_setVelocity 11 = .ok (.lastore, 1) := ybd_80 (by decide +kernel)
theorem dL_setVelocity_12 : decode cL_setVelocity 12 = .ok (.goto 15, 3) := ybd_167 0 15 (by decide +kernel) (by decide +kernel)
theorem dL_setVelocity_15 : decode cL_setVelocity 15 = .ok (.astore 5, 2) := ybd_58 5 (by decide +kernel) rfl
theorem dL_setVelocity_17 : decode cL_setVelocity 17 = .ok (.iconst 1, 1) := ybd_4 (by decide +kernel)
theorem dL_setVelocity_18 : decode cL_setVelocity 18 = .ok (.ireturn, 1) := ybd_172 (by decide +kernel)
theorem dL_setVelocity_19 : decode cL_setVelocity 19 = .ok (.astore 5, 2) := ybd_58 5 (by decide +kernel) rfl
theorem dL_setVelocity_21 : decode cL_setVelocity 21 = .ok (.iconst 2, 1) := ybd_5 (by decide +kernel)
theorem dL_setVelocity_22 : decode cL_setVelocity 22 = .ok (.ireturn, 1) := ybd_172 (by decide +kernel)
theorem dL_setVelocity_23 : decode cL_setVelocity 23 = .ok (.astore 5, 2) := ybd_58 5 (by decide +kernel) rfl
theorem dL_setVelocity_25 : decode cL_setVelocity 25 = .ok (.iconst 3, 1) := ybd_6 (by decide +kernel)
theorem dL_setVelocity_26 : decode cL_setVelocity 26 = .ok (.ireturn, 1) := ybd_172 (by decide +kernel)
theorem dL_setVelocity_27 : decode cL_setVelocity 27 = .ok (.iconst 0, 1) := ybd_3 (by decide +kernel)
theorem dL_setVelocity_28 : decode cL_setVelocity 28 = .ok (.ireturn, 1) := ybd_172 (by decide +kernel)
theorem dL_clean_0 : decode cL_clean 0 = .ok (.aload_n 2, 1) := ybd_44 (by decide +kernel)
theorem dL_clean_1 : decode cL_clean 1 = .ok (.iconst 0, 1) := ybd_3 (by decide +kernel)
theorem dL_clean_2 : decode cL_clean 2 = .ok (.aload_n 0, 1) := ybd_42 (by decide +kernel)
theorem dL_clean_3 : decode cL_clean 3 = .ok (.iload_n 1, 1) := ybd_27 (by decide +kernel)
theorem dL_clean_4 : decode cL_clean 4 = .ok (.invokevirtual 174, 3) := ybd_182 0 174 (by decide +kernel) rfl
theorem dL_clean_7 : decode cL_clean 7 = .ok (.i2l, 1) := ybd_133 (by decide +kernel)
theorem dL_clean_8 : decode cL_clean 8 = .ok (.lastore, 1) := ybd_80 (by decide +kernel)
theorem dL_clean_9 : decode cL_clean 9 = .ok (.goto 9, 3) := ybd_167 0 9 (by decide +kernel) (by decide +kernel)
theorem dL_clean_12 : decode cL_clean 12 = .ok (.astore_n 3, 1) := ybd_78 (by decide +kernel)
theorem dL_clean_13 : decode cL_clean 13 = .ok (.iconst 1, 1) := ybd_4 (by decide +kernel)
theorem dL_clean_14 : decode cL_clean 14 = .ok (.ireturn, 1) := ybd_172 (by decide +kernel)
theorem dL_clean_15 : decode cL_clean 15 = .ok (.astore_n 3, 1) := ybd_78 (by decide +kernel)
theorem dL_clean_16 : decode cL_clean 16 = .ok (.iconst 2, 1) := ybd_5 (by decide +kernel)
theorem dL_clean_17 : decode cL_clean 17 = .ok (.ireturn, 1) := ybd_172 (by decide +kernel)
theorem dL_clean_18 : decode cL_clean 18 = .ok (.iconst 0, 1) := ybd_3 (by decide +kernel)
theorem dL_clean_19 : decode cL_clean 19 = .ok (.ireturn, 1) := ybd_172 (by decide +kernel)
theorem dL_cleaned_0 : decode cL_cleaned 0 = .ok (.aload_n 1, 1) := ybd_43 (by decide +kernel)
theorem dL_cleaned_1 : decode cL_cleaned 1 = .ok (.iconst 0, 1) := ybd_3 (by decide +kernel)
theorem dL_cleaned_2 : decode cL_cleaned 2 = .ok (.aload_n 0, 1) := ybd_42 (by decide +kernel)
theorem dL_cleaned_3 : decode cL_cleaned 3 = .ok (.invokevirtual 177, 3) := ybd_182 0 177 (by decide +kernel) rfl
theorem dL_cleaned_6 : decode cL_cleaned 6 = .ok (.i2l, 1) := ybd_133 (by decide +kernel)
theorem dL_cleaned_7 : decode cL_cleaned 7 = .ok (.lastore, 1) := ybd_80 (by decide +kernel)
theorem dL_cleaned_8 : decode cL_cleaned 8 = .ok (.goto 6, 3) := ybd_167 0 6 (by decide +kernel) (by decide +kernel)
theorem dL_cleaned_11 : decode cL_cleaned 11 = .ok (.astore_n 2, 1) := ybd_77 (by decide +kernel)
theorem dL_cleaned_12 : decode cL_cleaned 12 = .ok (.iconst 1, 1) := ybd_4 (by decide +kernel)
theorem dL_cleaned_13 : decode cL_cleaned 13 = .ok (.ireturn, 1) := ybd_172 (by decide +kernel)
theorem dL_cleaned_14 : decode cL_cleaned 14 = .ok (.iconst 0, 1) := ybd_3 (by decide +kernel)
theorem dL_cleaned_15 : decode cL_cleaned 15 = .ok (.ireturn, 1) := ybd_172 (by decide +kernel)
theorem dL_undo_0 : decode cL_undo 0 = .ok (.aload_n 1, 1) := ybd_43 (by decide +kernel)
theorem dL_undo_1 : decode cL_undo 1 = .ok (.iconst 0, 1) := ybd_3 (by decide +kernel)
theorem dL_undo_2 : decode cL_undo 2 = .ok (.aload_n 0, 1) := ybd_42 (by decide +kernel)
theorem dL_undo_3 : decode cL_undo 3 = .ok (.invokevirtual 180, 3) := ybd_182 0 180 (by decide +kernel) rfl
theorem dL_undo_6 : decode cL_undo 6 = .ok (.i2l, 1) := ybd_133 (by decide +kernel)
theorem dL_undo_7 : decode cL_undo 7 = .ok (.lastore, 1) := ybd_80 (by decide +kernel)
theorem dL_undo_8 : decode cL_undo 8 = .ok (.goto 6, 3) := ybd_167 0 6 (by decide +kernel) (by decide +kernel)
theorem dL_undo_11 : decode cL_undo 11 = .ok (.astore_n 2, 1) := ybd_77 (by decide +kernel)
theorem dL_undo_12 : decode cL_undo 12 = .ok (.iconst 1, 1) := ybd_4 (by decide +kernel)
theorem dL_undo_13 : decode cL_undo 13 = .ok (.ireturn, 1) := ybd_172 (by decide +kernel)
theorem dL_undo_14 : decode cL_undo 14 = .ok (.iconst 0, 1) := ybd_3 (by decide +kernel)
theorem dL_undo_15 : decode cL_undo 15 = .ok (.ireturn, 1) := ybd_172 (by decide +kernel)
theorem dL_save_0 : decode cL_save 0 = .ok (.aload_n 2, 1) := ybd_44 (by decide +kernel)
theorem dL_save_1 : decode cL_save 1 = .ok (.iconst 0, 1) := ybd_3 (by decide +kernel)
theorem dL_save_2 : decode cL_save 2 = .ok (.aload_n 0, 1) := ybd_42 (by decide +kernel)
theorem dL_save_3 : decode cL_save 3 = .ok (.iload_n 1, 1) := ybd_27 (by decide +kernel)
theorem dL_save_4 : decode cL_save 4 = .ok (.invokevirtual 183, 3) := ybd_182 0 183 (by decide +kernel) rfl
theorem dL_save_7 : decode cL_save 7 = .ok (.i2l, 1) := ybd_133 (by decide +kernel)
theorem dL_save_8 : decode cL_save 8 = .ok (.lastore, 1) := ybd_80 (by decide +kernel)
theorem dL_save_9 : decode cL_save 9 = .ok (.goto 9, 3) := ybd_167 0 9 (by decide +kernel) (by decide +kernel)
theorem dL_save_12 : decode cL_save 12 = .ok (.astore_n 3, 1) := ybd_78 (by decide +kernel)
theorem dL_save_13 : decode cL_save 13 = .ok (.iconst 1, 1) := ybd_4 (by decide +kernel)
theorem dL_save_14 : decode cL_save 14 = .ok (.ireturn, 1) := ybd_172 (by decide +kernel)
theorem dL_save_15 : decode cL_save 15 = .ok (.astore_n 3, 1) := ybd_78 (by decide +kernel)
theorem dL_save_16 : decode cL_save 16 = .ok (.iconst 2, 1) := ybd_5 (by decide +kernel)
theorem dL_save_17 : decode cL_save 17 = .ok (.ireturn, 1) := ybd_172 (by decide +kernel)
theorem dL_save_18 : decode cL_save 18 = .ok (.iconst 0, 1) := ybd_3 (by decide +kernel)
theorem dL_save_19 : decode cL_save 19 = .ok (.ireturn, 1) := ybd_172 (by decide +kernel)
theorem dL_restore_0 : decode cL_restore 0 = .ok (.aload_n 2, 1) := ybd_44 (by decide +kernel)
theorem dL_restore_1 : decode cL_restore 1 = .ok (.iconst 0, 1) := ybd_3 (by decide +kernel)
theorem dL_restore_2 : decode cL_restore 2 = .ok (.aload_n 0, 1) := ybd_42 (by decide +kernel)
theorem dL_restore_3 : decode cL_restore 3 = .ok (.iload_n 1, 1) := ybd_27 (by decide +kernel)
theorem dL_restore_4 : decode cL_restore 4 = .ok (.invokevirtual 186, 3) := ybd_182 0 186 (by decide +kernel) rfl
theorem dL_restore_7 : decode cL_restore 7 = .ok (.i2l, 1) := ybd_133 (by decide +kernel)
theorem dL_restore_8 : decode cL_restore 8 = .ok (.lastore, 1) := ybd_80 (by decide +kernel)
theorem dL_restore_9 : decode cL_restore 9 = .ok (.goto 9, 3) := ybd_167 0 9 (by decide +kernel) (by decide +kernel)
theorem dL_restore_12 : decode cL_restore 12 = .ok (.astore_n 3, 1) := ybd_78 (by decide +kernel)
theorem dL_restore_13 : decode cL_restore 13 = .ok (.iconst 1, 1) := ybd_4 (by decide +kernel)
theorem dL_restore_14 : decode cL_restore 14 = .ok (.ireturn, 1) := ybd_172 (by decide +kernel)
theorem dL_restore_15 : decode cL_restore 15 = .ok (.astore_n 3, 1) := ybd_78 (by decide +kernel)
theorem dL_restore_16 : decode cL_restore 16 = .ok (.iconst 2, 1) := ybd_5 (by decide +kernel)
theorem dL_restore_17 : decode cL_restore 17 = .ok (.ireturn, 1) := ybd_172 (by decide +kernel)
theorem dL_restore_18 : decode cL_restore 18 = .ok (.iconst 0, 1) := ybd_3 (by decide +kernel)
theorem dL_restore_19 : decode cL_restore 19 = .ok (.ireturn, 1) := ybd_172 (by decide +kernel)
end
section
/-! 03.mw.lean.txt -/
/-! ===== the reference as a world: its object, then its arrays; S: what the fields and arrays hold ===== -/
abbrev MS : Type := (Nat → Int32) × (Nat → Nat → Int32) × (Nat → Nat → Int64)
abbrev MF (ad : Nat → Nat) (S : MS) : List Value := [.int (S.1 0), .ref (ad 1), .int (S.1 2), .int (S.1 3), .int (S.1 4), .int (S.1 5), .int (S.1 6), .int (S.1 7), .int (S.1 8), .int (S.1 9), .ref (ad 10), .ref (ad 11), .ref (ad 12), .ref (ad 13), .ref (ad 14), .ref (ad 15), .ref (ad 16), .ref (ad 17), .ref (ad 18), .int (S.1 19), .int (S.1 20), .int (S.1 21), .int (S.1 22), .ref (ad 23), .ref (ad 24), .ref (ad 25), .ref (ad 26), .ref (ad 27), .int (S.1 28), .ref (ad 29)]
abbrev MW (cI cJ cZ : ClassId) (ad : Nat → Nat) (S : MS) : va_W := [(ad 0, .inr (12, MF ad S)), (ad 1, .inl (cI, 1000, .inl (S.2.1 1))), (ad 10, .inl (cI, 131, .inl (S.2.1 10))), (ad 11, .inl (cI, 131, .inl (S.2.1 11))), (ad 12, .inl (cI, 2455, .inl (S.2.1 12))), (ad 13, .inl (cI, 2455, .inl (S.2.1 13))), (ad 14, .inl (cI, 2455, .inl (S.2.1 14))), (ad 15, .inl (cI, 14730, .inl (S.2.1 15))), (ad 16, .inl (cI, 4910, .inl (S.2.1 16))), (ad 17, .inl (cI, 1728, .inl (S.2.1 17))), (ad 18, .inl (cZ, 2, .inl (S.2.1 18))), (ad 23, .inl (cI, 200, .inl (S.2.1 23))), (ad 24, .inl (cI, 12, .inl (S.2.1 24))), (ad 25, .inl (cJ, 144, .inr (.inl (S.2.2 25)))), (ad 26, .inl (cJ, 7200, .inr (.inl (S.2.2 26)))), (ad 27, .inl (cI, 160, .inl (S.2.1 27))), (ad 29, .inl (cI, 200, .inl (S.2.1 29)))]
abbrev MT (cI cJ cZ : ClassId) : List (ClassId × FieldType) := [(cI, .int), (cJ, .long), (cZ, .boolean)]
def mi (S : MS) (k : Nat) (v : Int32) : MS := (fun j => bif Nat.beq j k then v else S.1 j, S.2)
def mf (S : MS) (j : Nat) (f : Nat → Int32) : MS := (S.1, (fun a => bif Nat.beq a j then f else S.2.1 a), S.2.2)
def mg (S : MS) (j : Nat) (f : Nat → Int64) : MS := (S.1, S.2.1, (fun a => bif Nat.beq a j then f else S.2.2 a))
theorem mw_i0 (cI cJ cZ : ClassId) (ad : Nat → Nat) (S : MS) (v : Int32) : (MW cI cJ cZ ad S).set 0 (ad 0, .inr (12, (MF ad S).set 0 (.int v))) = MW cI cJ cZ ad (mi S 0 v) := rfl
theorem mw_i2 (cI cJ cZ : ClassId) (ad : Nat → Nat) (S : MS) (v : Int32) : (MW cI cJ cZ ad S).set 0 (ad 0, .inr (12, (MF ad S).set 2 (.int v))) = MW cI cJ cZ ad (mi S 2 v) := rfl
theorem mw_i3 (cI cJ cZ : ClassId) (ad : Nat → Nat) (S : MS) (v : Int32) : (MW cI cJ cZ ad S).set 0 (ad 0, .inr (12, (MF ad S).set 3 (.int v))) = MW cI cJ cZ ad (mi S 3 v) := rfl
theorem mw_i4 (cI cJ cZ : ClassId) (ad : Nat → Nat) (S : MS) (v : Int32) : (MW cI cJ cZ ad S).set 0 (ad 0, .inr (12, (MF ad S).set 4 (.int v))) = MW cI cJ cZ ad (mi S 4 v) := rfl
theorem mw_i5 (cI cJ cZ : ClassId) (ad : Nat → Nat) (S : MS) (v : Int32) : (MW cI cJ cZ ad S).set 0 (ad 0, .inr (12, (MF ad S).set 5 (.int v))) = MW cI cJ cZ ad (mi S 5 v) := rfl
theorem mw_i6 (cI cJ cZ : ClassId) (ad : Nat → Nat) (S : MS) (v : Int32) : (MW cI cJ cZ ad S).set 0 (ad 0, .inr (12, (MF ad S).set 6 (.int v))) = MW cI cJ cZ ad (mi S 6 v) := rfl
theorem mw_i7 (cI cJ cZ : ClassId) (ad : Nat → Nat) (S : MS) (v : Int32) : (MW cI cJ cZ ad S).set 0 (ad 0, .inr (12, (MF ad S).set 7 (.int v))) = MW cI cJ cZ ad (mi S 7 v) := rfl
theorem mw_i8 (cI cJ cZ : ClassId) (ad : Nat → Nat) (S : MS) (v : Int32) : (MW cI cJ cZ ad S).set 0 (ad 0, .inr (12, (MF ad S).set 8 (.int v))) = MW cI cJ cZ ad (mi S 8 v) := rfl
theorem mw_i9 (cI cJ cZ : ClassId) (ad : Nat → Nat) (S : MS) (v : Int32) : (MW cI cJ cZ ad S).set 0 (ad 0, .inr (12, (MF ad S).set 9 (.int v))) = MW cI cJ cZ ad (mi S 9 v) := rfl
theorem mw_i19 (cI cJ cZ : ClassId) (ad : Nat → Nat) (S : MS) (v : Int32) : (MW cI cJ cZ ad S).set 0 (ad 0, .inr (12, (MF ad S).set 19 (.int v))) = MW cI cJ cZ ad (mi S 19 v) := rfl
theorem mw_i20 (cI cJ cZ : ClassId) (ad : Nat → Nat) (S : MS) (v : Int32) : (MW cI cJ cZ ad S).set 0 (ad 0, .inr (12, (MF ad S).set 20 (.int v))) = MW cI cJ cZ ad (mi S 20 v) := rfl
theorem mw_i21 (cI cJ cZ : ClassId) (ad : Nat → Nat) (S : MS) (v : Int32) : (MW cI cJ cZ ad S).set 0 (ad 0, .inr (12, (MF ad S).set 21 (.int v))) = MW cI cJ cZ ad (mi S 21 v) := rfl
theorem mw_i22 (cI cJ cZ : ClassId) (ad : Nat → Nat) (S : MS) (v : Int32) : (MW cI cJ cZ ad S).set 0 (ad 0, .inr (12, (MF ad S).set 22 (.int v))) = MW cI cJ cZ ad (mi S 22 v) := rfl
theorem mw_i28 (cI cJ cZ : ClassId) (ad : Nat → Nat) (S : MS) (v : Int32) : (MW cI cJ cZ ad S).set 0 (ad 0, .inr (12, (MF ad S).set 28 (.int v))) = MW cI cJ cZ ad (mi S 28 v) := rfl
/-- the String constants that the class and the reference name -/
def sL : List (String × Nat × String) := [("AcousticCamera$Parser", 66, "camera"), ("AcousticCamera$Parser", 72, "distance"), ("AcousticCamera$Parser", 80, "step"), ("AcousticCamera$Parser", 84, "samples"), ("AcousticCamera$Parser", 88, "limit"), ("AcousticCamera$Parser", 92, "mic"), ("AcousticCamera$Parser", 101, "map"), ("AcousticCamera$Parser", 107, "source"), ("AcousticCamera$Parser", 217, "triangle"), ("AcousticCamera$Parser", 219, "pulse"), ("AcousticCamera$Parser", 221, "noise"), ("AcousticCamera$Parser", 223, "square"), ("AcousticCamera$Parser", 216, "from"), ("AcousticCamera$Parser", 112, "wall"), ("AcousticCamera$Parser", 117, "fade"), ("AcousticCamera$Parser", 125, "filter"), ("AcousticCamera$Parser", 130, "clock"), ("AcousticCamera$Parser", 135, "zone"), ("AcousticCamera$Parser", 140, "shade"), ("AcousticCamera$Parser", 145, "off"), ("AcousticCameraModel", 144, "camera"), ("AcousticCameraModel", 146, "distance"), ("AcousticCameraModel", 152, "step"), ("AcousticCameraModel", 154, "samples"), ("AcousticCameraModel", 156, "limit"), ("AcousticCameraModel", 171, "wall"), ("AcousticCameraModel", 176, "fade"), ("AcousticCameraModel", 181, "filter"), ("AcousticCameraModel", 186, "clock"), ("AcousticCameraModel", 191, "zone"), ("AcousticCameraModel", 196, "shade"), ("AcousticCameraModel", 201, "off"), ("AcousticCameraModel", 206, "mic"), ("AcousticCameraModel", 211, "map"), ("AcousticCameraModel", 216, "source"), ("AcousticCameraModel", 161, "square"), ("AcousticCameraModel", 163, "triangle"), ("AcousticCameraModel", 165, "pulse"), ("AcousticCameraModel", 167, "noise"), ("AcousticCameraModel", 169, "from")]
def sR (U : State) : Prop := ∀ x ∈ sL, ∃ q, vk_R x.1 x.2.1 x.2.2 q U
theorem sR.warm {s U : State} (hW : s.WarmedH U.vm) (h : sR s) : sR U := fun x hx => (h x hx).elim fun q hq => ⟨q, vk_R.warm hW hq⟩
theorem sR.blind {U : State} {g : JFrame} {mk : MethodId} {a : Array Value} (h : sR U) : sR (U.calling g mk a) := fun x hx => (h x hx).elim fun q hq => ⟨q, vk_R.same rfl hq⟩
/-- what a method of the reference has at hand: the machine, its code, its words, its class, the tables -/
def mE (p : Program) (c : Code) (cc : ByteArray) (s : State) (m : MethodId) (args : Array Value) (Ts : List Cond) (D : va_G) (cI cJ cZ : ClassId) : Prop := p.tables.exec = Jvm.exec ∧ c.code = cc ∧ (∀ w ∈ Ts, w.before args s = true) ∧ s.vm.findClass RX12 = some m.cls ∧ va_K D vwCl (MT cI cJ cZ) s ∧ (∀ w ∈ wsX120, w ∈ Ts)
/-- the world at a point of the walk -/
def mG (D : va_G) (cI cJ cZ : ClassId) (ad : Nat → Nat) (A : Nat → Prop) (H0 H : Heap) (locs : List Loc) (S : MS) : Prop := va_P D vwCl (MW cI cJ cZ ad S) H ∧ va_D A (MW cI cJ cZ ad S) ∧ va_S A H0 H locs
section MWR
variable {p : Program} {l : Launch} {e : Env} {R : Room} {s : State} {m : MethodId} {args : Array Value} {below : List Frame} {meth : Method} {c : Code} {H : Heap} {locs : List Loc} {cells slots : Nat} {Q : State → Prop}
variable {cc : ByteArray} {pc : Nat} {ls : Array Slot} {rest : List Value} {D : va_G} {A : Nat → Prop} {H0 : Heap} {Ts : List Cond} {cI cJ cZ : ClassId} {ad : Nat → Nat} {S : MS}
/-- a field of the reference is read -/
theorem m_get (E : mE p c cc s m args Ts D cI cJ cZ) (G : mG D cI cJ cZ ad A H0 H locs S) (k : Nat) {idx : Nat} {v : Value} (hk : k < 30) (hl : Cond.fieldLink RX12 idx "AcousticCameraModel" (TX12 k).2.1 (TX12 k).2.2.1 ∈ Ts) (hv : (MF ad S)[k]? = some v) (hdg : decode cc pc = .ok (.getfield idx, 3)) (he : (TX12 k).1 = "AcousticCameraModel") (kk : W p l e R s m args below meth c H locs cells slots Q (F0 m (pc + 3) ls (v :: rest))) : W p l e R s m args below meth c H locs cells slots Q (F0 m pc ls (.ref (ad 0) :: rest)) :=
  va_get (ref := "AcousticCameraModel") (own := RX12) E.1 E.2.1 E.2.2.1 E.2.2.2.2.2 E.2.2.2.1 E.2.2.2.2.1 G.1 0 rfl rfl k hk (E.2.2.1 _ hl) (fun _ h => by rw [he] at h; exact h) hv hdg kk
/-- a field of numbers is written -/
theorem m_put (E : mE p c cc s m args Ts D cI cJ cZ) (G : mG D cI cJ cZ ad A H0 H locs S) (k : Nat) {idx : Nat} {v : Int32} {S1 : MS} (hk : k < 30) (hl : Cond.fieldLink RX12 idx "AcousticCameraModel" (TX12 k).2.1 (TX12 k).2.2.1 ∈ Ts) (hs : (MW cI cJ cZ ad S).set 0 (ad 0, .inr (12, (MF ad S).set k (.int v))) = MW cI cJ cZ ad S1) (hdg : decode cc pc = .ok (.putfield idx, 3)) {ty : FieldType} (he : (TX12 k).1 = "AcousticCameraModel" ∧ (TX12 k).2.2.2 = false ∧ parseFieldDescriptor (TX12 k).2.2.1 = some ty) (hn : narrow ty (.int v) = .int v) (hf : fits ty (.int v) = true) (kk : ∀ (H1 : Heap) (locs1 : List Loc), mG D cI cJ cZ ad A H0 H1 locs1 S1 → W p l e R s m args below meth c H1 locs1 cells slots Q (F0 m (pc + 3) ls rest)) : W p l e R s m args below meth c H locs cells slots Q (F0 m pc ls (.int v :: .ref (ad 0) :: rest)) :=
  va_put (ref := "AcousticCameraModel") (own := RX12) E.1 E.2.1 E.2.2.1 E.2.2.2.2.2 tyX12 tyX12_ok nmX12 E.2.2.2.1 E.2.2.2.2.1 G.1 G.2.1 G.2.2 0 rfl rfl k hk (E.2.2.1 _ hl) (fun _ h => by rw [he.1] at h; exact h) he.2.1 he.2.2 hn hf hk hdg (fun H1 locs1 h1 h2 h3 => kk H1 locs1 ⟨by rw [← hs]; exact h1, by rw [← hs]; exact h2, h3⟩)
theorem m_iald (E : mE p c cc s m args Ts D cI cJ cZ) (G : mG D cI cJ cZ ad A H0 H locs S) (j q0 : Nat) {n k : Nat} {i : Int32} (ha : (MW cI cJ cZ ad S)[q0]? = some (ad j, .inl (cI, n, .inl (S.2.1 j)))) (hi : i = nI k) (hk : k < n) (hn : n < 2 ^ 31) (hdg : decode cc pc = .ok (.iaload, 1)) (kk : W p l e R s m args below meth c H locs cells slots Q (F0 m (pc + 1) ls (.int (S.2.1 j k) :: rest))) : W p l e R s m args below meth c H locs cells slots Q (F0 m pc ls (.int i :: .ref (ad j) :: rest)) := by
  subst hi
  refine va_iald E.1 E.2.1 E.2.2.2.2.1 G.1 q0 0 ha rfl (vp_in_nI hk hn) hdg ?_
  rw [nI_clamp (Nat.lt_trans hk hn)]
  exact kk
theorem m_zald (E : mE p c cc s m args Ts D cI cJ cZ) (G : mG D cI cJ cZ ad A H0 H locs S) (j q0 : Nat) {n k : Nat} {i : Int32} (ha : (MW cI cJ cZ ad S)[q0]? = some (ad j, .inl (cZ, n, .inl (S.2.1 j)))) (hi : i = nI k) (hk : k < n) (hn : n < 2 ^ 31) (hdg : decode cc pc = .ok (.baload, 1)) (kk : W p l e R s m args below meth c H locs cells slots Q (F0 m (pc + 1) ls (.int (S.2.1 j k) :: rest))) : W p l e R s m args below meth c H locs cells slots Q (F0 m pc ls (.int i :: .ref (ad j) :: rest)) := by
  subst hi
  refine va_zald E.1 E.2.1 E.2.2.2.2.1 G.1 q0 2 ha rfl (vp_in_nI hk hn) hdg ?_
  rw [nI_clamp (Nat.lt_trans hk hn)]
  exact kk
theorem m_lald (E : mE p c cc s m args Ts D cI cJ cZ) (G : mG D cI cJ cZ ad A H0 H locs S) (j q0 : Nat) {n k : Nat} {i : Int32} (ha : (MW cI cJ cZ ad S)[q0]? = some (ad j, .inl (cJ, n, .inr (.inl (S.2.2 j))))) (hi : i = nI k) (hk : k < n) (hn : n < 2 ^ 31) (hdg : decode cc pc = .ok (.laload, 1)) (kk : W p l e R s m args below meth c H locs cells slots Q (F0 m (pc + 1) ls (.long (S.2.2 j k) :: rest))) : W p l e R s m args below meth c H locs cells slots Q (F0 m pc ls (.int i :: .ref (ad j) :: rest)) := by
  subst hi
  refine va_lald E.1 E.2.1 E.2.2.2.2.1 G.1 q0 1 ha rfl (vp_in_nI hk hn) hdg ?_
  rw [nI_clamp (Nat.lt_trans hk hn)]
  exact kk
theorem m_iast (E : mE p c cc s m args Ts D cI cJ cZ) (G : mG D cI cJ cZ ad A H0 H locs S) (j q0 : Nat) {n k : Nat} {i v : Int32} (ha : (MW cI cJ cZ ad S)[q0]? = some (ad j, .inl (cI, n, .inl (S.2.1 j)))) (hs : ∀ f, (MW cI cJ cZ ad S).set q0 (ad j, .inl (cI, n, .inl f)) = MW cI cJ cZ ad (mf S j f)) (hi : i = nI k) (hk : k < n) (hn : n < 2 ^ 31) (hdg : decode cc pc = .ok (.iastore, 1)) (kk : ∀ (H1 : Heap) (locs1 : List Loc), mG D cI cJ cZ ad A H0 H1 locs1 (mf S j (upd (S.2.1 j) k v)) → W p l e R s m args below meth c H1 locs1 cells slots Q (F0 m (pc + 1) ls rest)) : W p l e R s m args below meth c H locs cells slots Q (F0 m pc ls (.int v :: .int i :: .ref (ad j) :: rest)) := by
  subst hi
  refine va_iast E.1 E.2.1 E.2.2.2.2.1 G.1 G.2.1 G.2.2 q0 0 ha rfl (vp_in_nI hk hn) hdg (fun H1 locs1 h1 h2 h3 => kk H1 locs1 ?_)
  rw [nI_clamp (Nat.lt_trans hk hn), hs] at h1 h2
  exact ⟨h1, h2, h3⟩
theorem m_last (E : mE p c cc s m args Ts D cI cJ cZ) (G : mG D cI cJ cZ ad A H0 H locs S) (j q0 : Nat) {n k : Nat} {i : Int32} {v : Int64} (ha : (MW cI cJ cZ ad S)[q0]? = some (ad j, .inl (cJ, n, .inr (.inl (S.2.2 j))))) (hs : ∀ f, (MW cI cJ cZ ad S).set q0 (ad j, .inl (cJ, n, .inr (.inl f))) = MW cI cJ cZ ad (mg S j f)) (hi : i = nI k) (hk : k < n) (hn : n < 2 ^ 31) (hdg : decode cc pc = .ok (.lastore, 1)) (kk : ∀ (H1 : Heap) (locs1 : List Loc), mG D cI cJ cZ ad A H0 H1 locs1 (mg S j (vp_updL (S.2.2 j) k v)) → W p l e R s m args below meth c H1 locs1 cells slots Q (F0 m (pc + 1) ls rest)) : W p l e R s m args below meth c H locs cells slots Q (F0 m pc ls (.long v :: .int i :: .ref (ad j) :: rest)) := by
  subst hi
  refine va_last E.1 E.2.1 E.2.2.2.2.1 G.1 G.2.1 G.2.2 q0 1 ha rfl (vp_in_nI hk hn) hdg (fun H1 locs1 h1 h2 h3 => kk H1 locs1 ?_)
  rw [nI_clamp (Nat.lt_trans hk hn), hs] at h1 h2
  exact ⟨h1, h2, h3⟩
end MWR
abbrev mB (D : va_G) (cI cJ cZ : ClassId) (ad : Nat → Nat) (S : MS) (sz : Nat) : State → Prop := fun U => U.heap.size = sz ∧ va_P D vwCl (MW cI cJ cZ ad S) U.heap ∧ va_K D vwCl (MT cI cJ cZ) U ∧ va_D (fun _ => True) (MW cI cJ cZ ad S) ∧ sR U
abbrev mAt (D : va_G) (cI cJ cZ : ClassId) (ad : Nat → Nat) (A : Nat → Prop) (S : MS) (t : State) : Prop := va_P D vwCl (MW cI cJ cZ ad S) t.heap ∧ va_K D vwCl (MT cI cJ cZ) t ∧ va_D A (MW cI cJ cZ ad S)
/-- a contract of a method of the reference that answers a number: from the state S, post answer state -/
abbrev mCi (l : Launch) (y : MethodName) (ws : List Cond) (fr lo : Nat) (D : va_G) (cI cJ cZ : ClassId) (ad : Nat → Nat) (S : MS) (As : List Value) (post : Int32 → MS → Prop) : Prop := ∀ sz : Nat, Met l y ws { frames := fr, cells := 0, slots := 0, locals := lo } (va_Pc (.ref (ad 0) :: As) (mB D cI cJ cZ ad S sz)) (va_Qi post (mAt D cI cJ cZ ad (va_A (MW cI cJ cZ ad S) sz)) (va_A (MW cI cJ cZ ad S) sz)) 0 0 (va_A (MW cI cJ cZ ad S) sz)
abbrev mCl (l : Launch) (y : MethodName) (ws : List Cond) (fr lo : Nat) (D : va_G) (cI cJ cZ : ClassId) (ad : Nat → Nat) (S : MS) (As : List Value) (post : Int64 → MS → Prop) : Prop := ∀ sz : Nat, Met l y ws { frames := fr, cells := 0, slots := 0, locals := lo } (va_Pc (.ref (ad 0) :: As) (mB D cI cJ cZ ad S sz)) (va_Ql post (mAt D cI cJ cZ ad (va_A (MW cI cJ cZ ad S) sz)) (va_A (MW cI cJ cZ ad S) sz)) 0 0 (va_A (MW cI cJ cZ ad S) sz)
abbrev mCf (l : Launch) (y : MethodName) (ws : List Cond) (fr lo : Nat) (D : va_G) (cI cJ cZ : ClassId) (ad : Nat → Nat) (S : MS) (As : List Value) (post : UInt32 → MS → Prop) : Prop := ∀ sz : Nat, Met l y ws { frames := fr, cells := 0, slots := 0, locals := lo } (va_Pc (.ref (ad 0) :: As) (mB D cI cJ cZ ad S sz)) (va_Qf post (mAt D cI cJ cZ ad (va_A (MW cI cJ cZ ad S) sz)) (va_A (MW cI cJ cZ ad S) sz)) 0 0 (va_A (MW cI cJ cZ ad S) sz)
abbrev mCv (l : Launch) (y : MethodName) (ws : List Cond) (fr lo : Nat) (D : va_G) (cI cJ cZ : ClassId) (ad : Nat → Nat) (S : MS) (As : List Value) (post : MS → Prop) : Prop := ∀ sz : Nat, Met l y ws { frames := fr, cells := 0, slots := 0, locals := lo } (va_Pc (.ref (ad 0) :: As) (mB D cI cJ cZ ad S sz)) (va_Qv post (mAt D cI cJ cZ ad (va_A (MW cI cJ cZ ad S) sz)) (va_A (MW cI cJ cZ ad S) sz)) 0 0 (va_A (MW cI cJ cZ ad S) sz)
section MWC
variable {p : Program} {l : Launch} {e : Env} {R : Room} {s : State} {m : MethodId} {args : Array Value} {below : List Frame} {meth : Method} {c : Code} {H : Heap} {locs : List Loc} {cells slots : Nat} {Q : State → Prop}
variable {cc : ByteArray} {pc : Nat} {ls : Array Slot} {rest : List Value} {D : va_G} {A : Nat → Prop} {H0 : Heap} {Ts : List Cond} {cI cJ cZ : ClassId} {ad : Nat → Nat} {S : MS}
/-- a call of a method of the reference by the reference -/
theorem m_calli {y : MethodName} {bytes : ByteArray} {maxL nL n index fr lo : Nat} {ret : Option FieldType} {ws : List Cond} {As : List Value} {post : Int32 → MS → Prop} (E : mE p c cc s m args Ts D cI cJ cZ) (G : mG D cI cJ cZ ad A H0 H locs S) (hA : ∀ q, H0.size ≤ q → A q) (hR : sR s) (hml : c.maxLocals = nL) (hM : mCi l y ws fr lo D cI cJ cZ ad S As post) (cw : CallW R s args RX12 RX12 index y bytes maxL ret ws { frames := fr, cells := 0, slots := 0, locals := lo } 0 0 n) (hn : As.length = n) (hsz : ls.size = nL) {st : List Value} (hst : st = As.reverse ++ .ref (ad 0) :: rest) (hW : 2 * (F0 m pc ls st).monitorRoom + (rest.map fun v => v.category).sum ≤ 8) (hdg : decode cc pc = .ok (.invokevirtual index, 3)) (hf : cells ≤ R.cells ∧ slots ≤ R.slots) (kk : ∀ (r : Int32) (S1 : MS) (H1 : Heap) (locs1 : List Loc), post r S1 → mG D cI cJ cZ ad A H0 H1 locs1 S1 → W p l e R s m args below meth c H1 locs1 cells slots Q (F0 m (pc + 3) ls (.int r :: rest))) : W p l e R s m args below meth c H locs cells slots Q (F0 m pc ls st) := by
  obtain ⟨hx, hb, hts, hown, hK, hin⟩ := E
  obtain ⟨hP, hD, hS⟩ := G
  have hFc := va_free (wc := MW cI cJ cZ ad S) hD hS hA [0, 1, 2, 3, 4, 5, 6, 7, 8, 9, 10, 11, 12, 13, 14, 15, 16] rfl
  refine va_calli (va_runV (As := As) (rest := rest) ⟨hx, hb, hml, hown, hts⟩ (hM H.size) cw ⟨fun a U g mk q => by obtain ⟨q0, q1, qP, qK, qD, qR⟩ := q; exact ⟨q0, q1, qP, va_K.moved (u := U) (U := U.calling g mk a) (Vm.Alike.refl U.vm) qK, qD, qR.blind⟩, va_recv hK hP (ci := 12) (q0 := 0) rfl rfl, fun U hU hW => ⟨rfl, by rw [hU], by rw [hU]; exact hP, va_K.moved hW.alike hK, hD.weaken (fun _ _ _ _ => trivial), hR.warm hW⟩⟩ rfl hn hsz hst hW hdg hf) hS (fun q _ h => hFc q h) hFc (fun r u t H1 locs1 ht hvm hw hB hz1 hk1 hS => ?_)
  obtain ⟨hP1, hK1, hD1⟩ := hB
  rw [ht] at hP1
  obtain ⟨hP2, hD2⟩ := va_join (wr := []) (w1 := MW cI cJ cZ ad u) hP hD [0, 1, 2, 3, 4, 5, 6, 7, 8, 9, 10, 11, 12, 13, 14, 15, 16] [] rfl rfl (by decide) (by decide) hk1 hFc hP1 hD1
  exact kk r u H1 locs1 hw ⟨hP2, hD2, hS⟩
/-- a call of a method of the reference by the reference -/
theorem m_calll {y : MethodName} {bytes : ByteArray} {maxL nL n index fr lo : Nat} {ret : Option FieldType} {ws : List Cond} {As : List Value} {post : Int64 → MS → Prop} (E : mE p c cc s m args Ts D cI cJ cZ) (G : mG D cI cJ cZ ad A H0 H locs S) (hA : ∀ q, H0.size ≤ q → A q) (hR : sR s) (hml : c.maxLocals = nL) (hM : mCl l y ws fr lo D cI cJ cZ ad S As post) (cw : CallW R s args RX12 RX12 index y bytes maxL ret ws { frames := fr, cells := 0, slots := 0, locals := lo } 0 0 n) (hn : As.length = n) (hsz : ls.size = nL) {st : List Value} (hst : st = As.reverse ++ .ref (ad 0) :: rest) (hW : 2 * (F0 m pc ls st).monitorRoom + (rest.map fun v => v.category).sum ≤ 8) (hdg : decode cc pc = .ok (.invokevirtual index, 3)) (hf : cells ≤ R.cells ∧ slots ≤ R.slots) (kk : ∀ (r : Int64) (S1 : MS) (H1 : Heap) (locs1 : List Loc), post r S1 → mG D cI cJ cZ ad A H0 H1 locs1 S1 → W p l e R s m args below meth c H1 locs1 cells slots Q (F0 m (pc + 3) ls (.long r :: rest))) : W p l e R s m args below meth c H locs cells slots Q (F0 m pc ls st) := by
  obtain ⟨hx, hb, hts, hown, hK, hin⟩ := E
  obtain ⟨hP, hD, hS⟩ := G
  have hFc := va_free (wc := MW cI cJ cZ ad S) hD hS hA [0, 1, 2, 3, 4, 5, 6, 7, 8, 9, 10, 11, 12, 13, 14, 15, 16] rfl
  refine va_calll (va_runV (As := As) (rest := rest) ⟨hx, hb, hml, hown, hts⟩ (hM H.size) cw ⟨fun a U g mk q => by obtain ⟨q0, q1, qP, qK, qD, qR⟩ := q; exact ⟨q0, q1, qP, va_K.moved (u := U) (U := U.calling g mk a) (Vm.Alike.refl U.vm) qK, qD, qR.blind⟩, va_recv hK hP (ci := 12) (q0 := 0) rfl rfl, fun U hU hW => ⟨rfl, by rw [hU], by rw [hU]; exact hP, va_K.moved hW.alike hK, hD.weaken (fun _ _ _ _ => trivial), hR.warm hW⟩⟩ rfl hn hsz hst hW hdg hf) hS (fun q _ h => hFc q h) hFc (fun r u t H1 locs1 ht hvm hw hB hz1 hk1 hS => ?_)
  obtain ⟨hP1, hK1, hD1⟩ := hB
  rw [ht] at hP1
  obtain ⟨hP2, hD2⟩ := va_join (wr := []) (w1 := MW cI cJ cZ ad u) hP hD [0, 1, 2, 3, 4, 5, 6, 7, 8, 9, 10, 11, 12, 13, 14, 15, 16] [] rfl rfl (by decide) (by decide) hk1 hFc hP1 hD1
  exact kk r u H1 locs1 hw ⟨hP2, hD2, hS⟩
/-- a call of a method of the reference by the reference -/
theorem m_callv {y : MethodName} {bytes : ByteArray} {maxL nL n index fr lo : Nat} {ret : Option FieldType} {ws : List Cond} {As : List Value} {post : MS → Prop} (E : mE p c cc s m args Ts D cI cJ cZ) (G : mG D cI cJ cZ ad A H0 H locs S) (hA : ∀ q, H0.size ≤ q → A q) (hR : sR s) (hml : c.maxLocals = nL) (hM : mCv l y ws fr lo D cI cJ cZ ad S As post) (cw : CallW R s args RX12 RX12 index y bytes maxL ret ws { frames := fr, cells := 0, slots := 0, locals := lo } 0 0 n) (hn : As.length = n) (hsz : ls.size = nL) {st : List Value} (hst : st = As.reverse ++ .ref (ad 0) :: rest) (hW : 2 * (F0 m pc ls st).monitorRoom + (rest.map fun v => v.category).sum ≤ 8) (hdg : decode cc pc = .ok (.invokevirtual index, 3)) (hf : cells ≤ R.cells ∧ slots ≤ R.slots) (kk : ∀ (S1 : MS) (H1 : Heap) (locs1 : List Loc), post S1 → mG D cI cJ cZ ad A H0 H1 locs1 S1 → W p l e R s m args below meth c H1 locs1 cells slots Q (F0 m (pc + 3) ls rest)) : W p l e R s m args below meth c H locs cells slots Q (F0 m pc ls st) := by
  obtain ⟨hx, hb, hts, hown, hK, hin⟩ := E
  obtain ⟨hP, hD, hS⟩ := G
  have hFc := va_free (wc := MW cI cJ cZ ad S) hD hS hA [0, 1, 2, 3, 4, 5, 6, 7, 8, 9, 10, 11, 12, 13, 14, 15, 16] rfl
  refine va_callv (va_runV (As := As) (rest := rest) ⟨hx, hb, hml, hown, hts⟩ (hM H.size) cw ⟨fun a U g mk q => by obtain ⟨q0, q1, qP, qK, qD, qR⟩ := q; exact ⟨q0, q1, qP, va_K.moved (u := U) (U := U.calling g mk a) (Vm.Alike.refl U.vm) qK, qD, qR.blind⟩, va_recv hK hP (ci := 12) (q0 := 0) rfl rfl, fun U hU hW => ⟨rfl, by rw [hU], by rw [hU]; exact hP, va_K.moved hW.alike hK, hD.weaken (fun _ _ _ _ => trivial), hR.warm hW⟩⟩ rfl hn hsz hst hW hdg hf) hS (fun q _ h => hFc q h) hFc (fun u t H1 locs1 ht hvm hw hB hz1 hk1 hS => ?_)
  obtain ⟨hP1, hK1, hD1⟩ := hB
  rw [ht] at hP1
  obtain ⟨hP2, hD2⟩ := va_join (wr := []) (w1 := MW cI cJ cZ ad u) hP hD [0, 1, 2, 3, 4, 5, 6, 7, 8, 9, 10, 11, 12, 13, 14, 15, 16] [] rfl rfl (by decide) (by decide) hk1 hFc hP1 hD1
  exact kk u H1 locs1 hw ⟨hP2, hD2, hS⟩
/-- a static call by the reference: nothing of the world is touched -/
theorem m_stat {y : MethodName} {bytes : ByteArray} {maxL nL n index fr lo : Nat} {ret : Option FieldType} {ws : List Cond} {As : List Value} {post : Int32 → Prop} {own : String} (F : CallFix p m c cc nL s args Ts own) (hM : Met l y ws { frames := fr, cells := 0, slots := 0, locals := lo } (va_Pc As (fun _ => True)) (vp_Si post) 0 0 (fun _ => False)) (cw : CallB R s args own index y bytes maxL ret ws { frames := fr, cells := 0, slots := 0, locals := lo } 0 0 n ∧ (Cond.static y).before args s = true) (hn : As.length = n) (hsz : ls.size = nL) {st : List Value} (hst : st = As.reverse ++ rest) (hW : 2 * (F0 m pc ls st).monitorRoom + (rest.map fun v => v.category).sum ≤ 8) (hdg : decode cc pc = .ok (.invokestatic index, 3)) (hf : cells ≤ R.cells ∧ slots ≤ R.slots) (kk : ∀ r : Int32, post r → W p l e R s m args below meth c H locs cells slots Q (F0 m (pc + 3) ls (.int r :: rest))) : W p l e R s m args below meth c H locs cells slots Q (F0 m pc ls st) :=
  vp_callSi (W.runS F hM cw ⟨fun a U g mk q => q, fun U hU hW => ⟨rfl, trivial⟩⟩ rfl hn hsz hst hW hdg hf) kk
theorem lv_tol {x y : Int64} (h : x = y) (k : W p l e R s m args below meth c H locs cells slots Q (F0 m pc ls (.long y :: rest))) : W p l e R s m args below meth c H locs cells slots Q (F0 m pc ls (.long x :: rest)) := by
  subst h
  exact k
theorem lv_to {x y : Int32} (h : x = y) (k : W p l e R s m args below meth c H locs cells slots Q (F0 m pc ls (.int y :: rest))) : W p l e R s m args below meth c H locs cells slots Q (F0 m pc ls (.int x :: rest)) := by
  subst h
  exact k
end MWC
end
section
/-! 03c.cw.lean.txt -/
/-! ===== a world of N cells, by number: the cell n lies at ad n and holds S n ===== -/
def cW (ad : Nat → Nat) (N : Nat) (S : Nat → va_E) : va_W := (List.range N).map (fun n => (ad n, S n))
theorem cW_at {ad : Nat → Nat} {N q : Nat} {S : Nat → va_E} (h : q < N) : (cW ad N S)[q]? = some (ad q, S q) := by
  unfold cW
  rw [List.getElem?_map, List.getElem?_range h]
  rfl
theorem cW_e {ad : Nat → Nat} {N q : Nat} {S : Nat → va_E} {e : va_E} (h : q < N) (he : S q = e) : (cW ad N S)[q]? = some (ad q, e) := by rw [cW_at h, he]
theorem cW_none {ad : Nat → Nat} {N q : Nat} {S : Nat → va_E} (h : N ≤ q) : (cW ad N S)[q]? = none := by
  unfold cW
  rw [List.getElem?_map, List.getElem?_eq_none (by rw [List.length_range]; exact h)]
  rfl
theorem cW_len (ad : Nat → Nat) (N : Nat) (S : Nat → va_E) : (cW ad N S).length = N := by
  unfold cW
  rw [List.length_map, List.length_range]
theorem cW_set {ad : Nat → Nat} {N q : Nat} {S : Nat → va_E} (h : q < N) (e : va_E) : (cW ad N S).set q (ad q, e) = cW ad N (va_up S q e) := by
  refine List.ext_getElem? (fun i => ?_)
  rw [List.getElem?_set]
  by_cases hi : q = i
  · subst hi
    rw [if_pos rfl, if_pos (by rw [cW_len]; exact h), cW_at h]
    simp [va_up]
  · rw [if_neg hi]
    by_cases hn : i < N
    · rw [cW_at hn, cW_at hn]
      simp [va_up, Ne.symm hi]
    · rw [cW_none (Nat.not_lt.mp hn), cW_none (Nat.not_lt.mp hn)]
theorem cW_congr {ad : Nat → Nat} {N : Nat} {S T : Nat → va_E} (h : ∀ n, n < N → S n = T n) : cW ad N S = cW ad N T := by
  refine List.ext_getElem? (fun i => ?_)
  by_cases hn : i < N
  · rw [cW_at hn, cW_at hn, h i hn]
  · rw [cW_none (Nat.not_lt.mp hn), cW_none (Nat.not_lt.mp hn)]
theorem cW_all (ad : Nat → Nat) (N : Nat) (S : Nat → va_E) : (List.range N).map (fun i => (cW ad N S)[i]?) = (cW ad N S).map some := by
  unfold cW
  rw [List.map_map]
  refine List.map_congr_left (fun i hi => ?_)
  exact cW_at (List.mem_range.mp hi)
/-- the links among nest mates: no method's own list holds them -/
abbrev xN : List Cond := [.methodLinkNest RX11 9 yX9_init "AcousticCamera", .methodLinkNest RX11 27 yX5_init "AcousticCamera", .methodLinkNest RX5 18 yX7_init "AcousticCamera", .methodLinkNest RX11 34 yX0_init "AcousticCamera", .methodLinkNest RX11 41 yX4_init "AcousticCamera", .methodLinkNest RX11 51 yX8_init "AcousticCamera", .methodLinkNest RX6 19 yX1_init "AcousticCamera", .methodLinkNest RX6 48 yX2_init "AcousticCamera", .methodLinkNest RX6 49 yX7_init "AcousticCamera", .methodLinkNest RX1 33 yX11_remainder "AcousticCamera", .methodLinkNest RX1 37 yX11_quotient "AcousticCamera", .methodLinkNest RX6 81 yX11_root "AcousticCamera", .methodLinkNest RX6 88 yX11_quotient "AcousticCamera", .methodLinkNest RX5 52 yX11_moved "AcousticCamera", .methodLinkNest RX7 21 yX11_remainder "AcousticCamera", .methodLinkNest RX7 37 yX11_quotient "AcousticCamera", .methodLinkNest RX5 128 yX11_quotient "AcousticCamera", .methodLinkNest RX0 47 yX11_quotient "AcousticCamera"]
def nX (U : State) : Prop := va_AO "AcousticCamera$Mic" U ∧ va_AO "AcousticCamera$Source" U ∧ va_AO "AcousticCamera$State" U ∧ va_AOA .int U ∧ va_AOA .long U ∧ ∀ w ∈ xN, va_Nw w U
theorem va_AOA.moved {t : FieldType} {u U : State} (hvm : u.vm.Alike U.vm) (h : va_AOA t u) : va_AOA t U := over_moved (a := #[]) (a' := #[]) hvm h
theorem xN_tab : ∀ w ∈ xN, w.onTables = true := by decide +kernel
theorem xN_warm {s U : State} (hW : s.WarmedH U.vm) (h : ∀ w ∈ xN, va_Nw w s) : ∀ w ∈ xN, va_Nw w U := by
  have h0 : ∀ w ∈ ([] : List Cond), va_Nw w U := fun _ q => absurd q List.not_mem_nil
  exact List.forall_mem_cons.mpr ⟨va_Nw.warmM hW (h _ (List.mem_of_getElem? (i := 0) rfl)), List.forall_mem_cons.mpr ⟨va_Nw.warmM hW (h _ (List.mem_of_getElem? (i := 1) rfl)), List.forall_mem_cons.mpr ⟨va_Nw.warmM hW (h _ (List.mem_of_getElem? (i := 2) rfl)), List.forall_mem_cons.mpr ⟨va_Nw.warmM hW (h _ (List.mem_of_getElem? (i := 3) rfl)), List.forall_mem_cons.mpr ⟨va_Nw.warmM hW (h _ (List.mem_of_getElem? (i := 4) rfl)), List.forall_mem_cons.mpr ⟨va_Nw.warmM hW (h _ (List.mem_of_getElem? (i := 5) rfl)), List.forall_mem_cons.mpr ⟨va_Nw.warmM hW (h _ (List.mem_of_getElem? (i := 6) rfl)), List.forall_mem_cons.mpr ⟨va_Nw.warmM hW (h _ (List.mem_of_getElem? (i := 7) rfl)), List.forall_mem_cons.mpr ⟨va_Nw.warmM hW (h _ (List.mem_of_getElem? (i := 8) rfl)), List.forall_mem_cons.mpr ⟨va_Nw.warmM hW (h _ (List.mem_of_getElem? (i := 9) rfl)), List.forall_mem_cons.mpr ⟨va_Nw.warmM hW (h _ (List.mem_of_getElem? (i := 10) rfl)), List.forall_mem_cons.mpr ⟨va_Nw.warmM hW (h _ (List.mem_of_getElem? (i := 11) rfl)), List.forall_mem_cons.mpr ⟨va_Nw.warmM hW (h _ (List.mem_of_getElem? (i := 12) rfl)), List.forall_mem_cons.mpr ⟨va_Nw.warmM hW (h _ (List.mem_of_getElem? (i := 13) rfl)), List.forall_mem_cons.mpr ⟨va_Nw.warmM hW (h _ (List.mem_of_getElem? (i := 14) rfl)), List.forall_mem_cons.mpr ⟨va_Nw.warmM hW (h _ (List.mem_of_getElem? (i := 15) rfl)), List.forall_mem_cons.mpr ⟨va_Nw.warmM hW (h _ (List.mem_of_getElem? (i := 16) rfl)), List.forall_mem_cons.mpr ⟨va_Nw.warmM hW (h _ (List.mem_of_getElem? (i := 17) rfl)), h0⟩⟩⟩⟩⟩⟩⟩⟩⟩⟩⟩⟩⟩⟩⟩⟩⟩⟩
theorem nX.moved : ∀ u U : State, u.WarmedH U.vm → nX u → nX U := fun _ _ hW h => ⟨h.1.moved hW.alike, h.2.1.moved hW.alike, h.2.2.1.moved hW.alike, h.2.2.2.1.moved hW.alike, h.2.2.2.2.1.moved hW.alike, xN_warm hW h.2.2.2.2.2⟩
/-- what a throw of the three exceptions needs of a state, none of it among the cells A -/
abbrev xCS : Cond := Cond.codeSync Bundle.tFill LibCode.Throwable.Fill.code 1 (some (.object Bundle.tN))
abbrev xISE : String := "java/lang/IllegalStateException"
abbrev xIOB : String := "java/lang/IndexOutOfBoundsException"
abbrev xIAE : String := "java/lang/IllegalArgumentException"
abbrev xB : List Cond := [xCS, .castable xISE xISE, .castable xIOB xIOB, .castable xIAE xIAE, .declares (Bundle.init0 "java/lang/RuntimeException"), .declares (Bundle.init0 "java/lang/Exception"), .declares (Bundle.init0 Bundle.tN)]
def xT (A : Nat → Prop) (U : State) : Prop :=
  vx_Zq Bundle.tN "UNASSIGNED_STACK" Bundle.steD A U U.heap ∧ vx_Zq Bundle.tN "SUPPRESSED_SENTINEL" Bundle.listD A U U.heap ∧ (∀ w ∈ xB, va_Nw w U) ∧ nX U ∧ sR U
theorem xB_tab : ∀ w ∈ xB, w.onTables = true := by decide +kernel
theorem xCS_setVm {args : Array Value} {s : State} {vm' : Vm} (h : s.vm.Alike vm') : xCS.before args (s.setVm vm') = xCS.before args s := by
  simp only [xCS, Cond.before, Cond.holds, Cond.value, State.methodNamed?_setVm h, State.vm_setVm]
  cases s.methodNamed? Bundle.tFill with
  | none => rfl
  | some m => simp only [Option.bind_some, h.method?]
theorem xB_setVm {args : Array Value} {s : State} {vm' : Vm} (h : s.vm.Alike vm') : ∀ w ∈ xB, w.before args (s.setVm vm') = w.before args s := by
  intro w hw
  simp only [xB, List.mem_cons, List.not_mem_nil, or_false] at hw
  rcases hw with rfl | rfl | rfl | rfl | rfl | rfl | rfl
  · exact xCS_setVm h
  · exact Cond.castable_setVm h _ _
  · exact Cond.castable_setVm h _ _
  · exact Cond.castable_setVm h _ _
  · exact Cond.declares_setVm h _
  · exact Cond.declares_setVm h _
  · exact Cond.declares_setVm h _
theorem xB_warm {s U : State} (hW : s.vm.Alike U.vm) (hZ : ∀ w ∈ xB, va_Nw w s) : ∀ w ∈ xB, va_Nw w U := fun w hw => va_tabs (xB_tab w hw) (rfl : (s.setVm U.vm).vm = U.vm) (by rw [xB_setVm hW w hw]; exact hZ w hw)
theorem xT.use {A : Nat → Prop} {s : State} {args : Array Value} (h : xT A s) : ∀ w ∈ xB, w.before args s = true := fun w hw => va_Nw.use (xB_tab w hw) (h.2.2.1 w hw)
theorem xT.go {A A1 : Nat → Prop} {s U : State} {H : Heap} {locs : List Loc} (h : xT A s) (hW : s.WarmedH U.vm) (hU : U.heap = H) (hS : va_S A s.heap H locs) (hAB : ∀ q, A1 q → A q) : xT A1 U := by
  obtain ⟨h1, h2, h3, h4⟩ := h
  refine ⟨?_, ?_, xB_warm hW.alike h3, nX.moved _ _ hW h4.1, h4.2.warm hW⟩
  · rw [hU]; exact ((h1.moved hW.alike).kept (H1 := H) (fun a ha hn => hS.2.1 a ha hn)).narrow hAB
  · rw [hU]; exact ((h2.moved hW.alike).kept (H1 := H) (fun a ha hn => hS.2.1 a ha hn)).narrow hAB
theorem xT.blind {A : Nat → Prop} {U : State} {g : JFrame} {mk : MethodId} {a : Array Value} (h : xT A U) : xT A (U.calling g mk a) := by
  obtain ⟨h1, h2, h3, h4⟩ := h
  exact ⟨h1.moved (U := U.calling g mk a) (Vm.Alike.refl U.vm), h2.moved (U := U.calling g mk a) (Vm.Alike.refl U.vm), fun w hw => va_Nw.same (u := U) (U := U.calling g mk a) (xB_tab w hw) rfl (h3 w hw), nX.moved U (U.calling g mk a) (State.WarmedH.refl U) h4.1, h4.2.blind⟩
/-- what a method of the class has at hand; the world at a point of the walk -/
def cE (p : Program) (c : Code) (cc : ByteArray) (s : State) (m : MethodId) (args : Array Value) (Ts : List Cond) (D : va_G) (own : String) (tys : List (ClassId × FieldType)) : Prop := p.tables.exec = Jvm.exec ∧ c.code = cc ∧ (∀ w ∈ Ts, w.before args s = true) ∧ s.vm.findClass own = some m.cls ∧ va_K D vwCl tys s
def cG (D : va_G) (ad : Nat → Nat) (N : Nat) (A : Nat → Prop) (H0 H : Heap) (locs : List Loc) (S : Nat → va_E) : Prop := va_P D vwCl (cW ad N S) H ∧ va_D A (cW ad N S) ∧ va_S A H0 H locs
abbrev cB (D : va_G) (tys : List (ClassId × FieldType)) (ad : Nat → Nat) (N : Nat) (S : Nat → va_E) (sz : Nat) : State → Prop := fun U => U.heap.size = sz ∧ va_P D vwCl (cW ad N S) U.heap ∧ va_K D vwCl tys U ∧ va_D (fun _ => True) (cW ad N S) ∧ xT (va_A (cW ad N S) sz) U
abbrev cAt (D : va_G) (tys : List (ClassId × FieldType)) (ad : Nat → Nat) (N : Nat) (A : Nat → Prop) (S : Nat → va_E) (t : State) : Prop := va_P D vwCl (cW ad N S) t.heap ∧ va_K D vwCl tys t ∧ va_D A (cW ad N S)
section CWR
variable {p : Program} {l : Launch} {e : Env} {R : Room} {s : State} {m : MethodId} {args : Array Value} {below : List Frame} {meth : Method} {c : Code} {H : Heap} {locs : List Loc} {cells slots : Nat} {Q : State → Prop}
variable {cc : ByteArray} {pc : Nat} {ls : Array Slot} {rest : List Value} {D : va_G} {A : Nat → Prop} {H0 : Heap} {Ts : List Cond} {tys : List (ClassId × FieldType)} {ad : Nat → Nat} {N : Nat} {S : Nat → va_E} {own : String}
theorem c_get (E : cE p c cc s m args Ts D own tys) (G : cG D ad N A H0 H locs S) (q k : Nat) {ref C : String} {T : u_T} {nf ci idx : Nat} {fs : List Value} {v : Value} (hq : q < N) (hS : S q = .inr (ci, fs)) (hc : vwCl[ci]? = some (C, T, nf)) (hin : ∀ w ∈ u_ws C T nf, w ∈ Ts) (hk : k < nf) (hl : Cond.fieldLink own idx ref (T k).2.1 (T k).2.2.1 ∈ Ts) (he : (T k).1 = ref) (hv : fs[k]? = some v) (hdg : decode cc pc = .ok (.getfield idx, 3)) (kk : W p l e R s m args below meth c H locs cells slots Q (F0 m (pc + 3) ls (v :: rest))) : W p l e R s m args below meth c H locs cells slots Q (F0 m pc ls (.ref (ad q) :: rest)) :=
  va_get (ref := ref) (own := own) E.1 E.2.1 E.2.2.1 hin E.2.2.2.1 E.2.2.2.2 G.1 q (cW_e hq hS) hc k hk (E.2.2.1 _ hl) (fun _ h => by rw [he] at h; exact h) hv hdg kk
theorem c_put (E : cE p c cc s m args Ts D own tys) (G : cG D ad N A H0 H locs S) (q k : Nat) {ref C : String} {T : u_T} {nf ci idx : Nat} {fs : List Value} {v : Value} (hq : q < N) (hS : S q = .inr (ci, fs)) (hc : vwCl[ci]? = some (C, T, nf)) (hin : ∀ w ∈ u_ws C T nf, w ∈ Ts) (ty0 : Nat → FieldType) (hty : ∀ k, k < nf → parseFieldDescriptor (T k).2.2.1 = some (ty0 k)) (hnm : ∀ a, a < nf → ∀ b, b < nf → a ≠ b → (T a).2.1 ≠ (T b).2.1) (hk : k < nf) (hl : Cond.fieldLink own idx ref (T k).2.1 (T k).2.2.1 ∈ Ts) {ty : FieldType} (he : (T k).1 = ref ∧ (T k).2.2.2 = false ∧ parseFieldDescriptor (T k).2.2.1 = some ty) (hn : narrow ty v = v) (hf : fits ty v = true) (hlen : k < fs.length) (hdg : decode cc pc = .ok (.putfield idx, 3)) (kk : ∀ (H1 : Heap) (locs1 : List Loc), cG D ad N A H0 H1 locs1 (va_up S q (.inr (ci, fs.set k v))) → W p l e R s m args below meth c H1 locs1 cells slots Q (F0 m (pc + 3) ls rest)) : W p l e R s m args below meth c H locs cells slots Q (F0 m pc ls (v :: .ref (ad q) :: rest)) :=
  va_put (ref := ref) (own := own) E.1 E.2.1 E.2.2.1 hin ty0 hty hnm E.2.2.2.1 E.2.2.2.2 G.1 G.2.1 G.2.2 q (cW_e hq hS) hc k hk (E.2.2.1 _ hl) (fun _ h => by rw [he.1] at h; exact h) he.2.1 he.2.2 hn hf hlen hdg (fun H1 locs1 h1 h2 h3 => kk H1 locs1 ⟨by rw [← cW_set hq]; exact h1, by rw [← cW_set hq]; exact h2, h3⟩)
theorem c_iald (E : cE p c cc s m args Ts D own tys) (G : cG D ad N A H0 H locs S) (q t0 : Nat) {cA : ClassId} {n k : Nat} {f : Nat → Int32} {i : Int32} (hq : q < N) (hS : S q = .inl (cA, n, .inl f)) (ht : tys[t0]? = some (cA, .int)) (hi : i = nI k) (hk : k < n) (hn : n < 2 ^ 31) (hdg : decode cc pc = .ok (.iaload, 1)) (kk : W p l e R s m args below meth c H locs cells slots Q (F0 m (pc + 1) ls (.int (f k) :: rest))) : W p l e R s m args below meth c H locs cells slots Q (F0 m pc ls (.int i :: .ref (ad q) :: rest)) := by
  subst hi
  refine va_iald E.1 E.2.1 E.2.2.2.2 G.1 q t0 (cW_e hq hS) ht (vp_in_nI hk hn) hdg ?_
  rw [nI_clamp (Nat.lt_trans hk hn)]
  exact kk
theorem c_zald (E : cE p c cc s m args Ts D own tys) (G : cG D ad N A H0 H locs S) (q t0 : Nat) {cA : ClassId} {n k : Nat} {f : Nat → Int32} {i : Int32} (hq : q < N) (hS : S q = .inl (cA, n, .inl f)) (ht : tys[t0]? = some (cA, .boolean)) (hi : i = nI k) (hk : k < n) (hn : n < 2 ^ 31) (hdg : decode cc pc = .ok (.baload, 1)) (kk : W p l e R s m args below meth c H locs cells slots Q (F0 m (pc + 1) ls (.int (f k) :: rest))) : W p l e R s m args below meth c H locs cells slots Q (F0 m pc ls (.int i :: .ref (ad q) :: rest)) := by
  subst hi
  refine va_zald E.1 E.2.1 E.2.2.2.2 G.1 q t0 (cW_e hq hS) ht (vp_in_nI hk hn) hdg ?_
  rw [nI_clamp (Nat.lt_trans hk hn)]
  exact kk
theorem c_lald (E : cE p c cc s m args Ts D own tys) (G : cG D ad N A H0 H locs S) (q t0 : Nat) {cA : ClassId} {n k : Nat} {f : Nat → Int64} {i : Int32} (hq : q < N) (hS : S q = .inl (cA, n, .inr (.inl f))) (ht : tys[t0]? = some (cA, .long)) (hi : i = nI k) (hk : k < n) (hn : n < 2 ^ 31) (hdg : decode cc pc = .ok (.laload, 1)) (kk : W p l e R s m args below meth c H locs cells slots Q (F0 m (pc + 1) ls (.long (f k) :: rest))) : W p l e R s m args below meth c H locs cells slots Q (F0 m pc ls (.int i :: .ref (ad q) :: rest)) := by
  subst hi
  refine va_lald E.1 E.2.1 E.2.2.2.2 G.1 q t0 (cW_e hq hS) ht (vp_in_nI hk hn) hdg ?_
  rw [nI_clamp (Nat.lt_trans hk hn)]
  exact kk
theorem c_aldq (E : cE p c cc s m args Ts D own tys) (G : cG D ad N A H0 H locs S) (q t0 : Nat) {cA : ClassId} {C : String} {n k : Nat} {f : Nat → Option Nat} {i : Int32} {v : Value} (hq : q < N) (hS : S q = .inl (cA, n, .inr (.inr (.inr (.inr f))))) (ht : tys[t0]? = some (cA, .object C)) (hi : i = nI k) (hk : k < n) (hn : n < 2 ^ 31) (hv : va_rf (f k) = v) (hdg : decode cc pc = .ok (.aaload, 1)) (kk : W p l e R s m args below meth c H locs cells slots Q (F0 m (pc + 1) ls (v :: rest))) : W p l e R s m args below meth c H locs cells slots Q (F0 m pc ls (.int i :: .ref (ad q) :: rest)) := by
  subst hi
  subst hv
  refine va_aldq E.1 E.2.1 E.2.2.2.2 G.1 q t0 (cW_e hq hS) ht (vp_in_nI hk hn) hdg ?_
  rw [nI_clamp (Nat.lt_trans hk hn)]
  exact kk
theorem c_iast (E : cE p c cc s m args Ts D own tys) (G : cG D ad N A H0 H locs S) (q t0 : Nat) {cA : ClassId} {n k : Nat} {f : Nat → Int32} {i : Int32} {v : Int32} (hq : q < N) (hS : S q = .inl (cA, n, .inl (f))) (ht : tys[t0]? = some (cA, .int)) (hi : i = nI k) (hk : k < n) (hn : n < 2 ^ 31) (hdg : decode cc pc = .ok (.iastore, 1)) (kk : ∀ (H1 : Heap) (locs1 : List Loc), cG D ad N A H0 H1 locs1 (va_up S q (.inl (cA, n, .inl (upd f k v)))) → W p l e R s m args below meth c H1 locs1 cells slots Q (F0 m (pc + 1) ls rest)) : W p l e R s m args below meth c H locs cells slots Q (F0 m pc ls (.int v :: .int i :: .ref (ad q) :: rest)) := by
  subst hi
  refine va_iast E.1 E.2.1 E.2.2.2.2 G.1 G.2.1 G.2.2 q t0 (cW_e hq hS) ht (vp_in_nI hk hn) hdg (fun H1 locs1 h1 h2 h3 => kk H1 locs1 ?_)
  rw [nI_clamp (Nat.lt_trans hk hn), cW_set hq] at h1 h2
  exact ⟨h1, h2, h3⟩
theorem c_last (E : cE p c cc s m args Ts D own tys) (G : cG D ad N A H0 H locs S) (q t0 : Nat) {cA : ClassId} {n k : Nat} {f : Nat → Int64} {i : Int32} {v : Int64} (hq : q < N) (hS : S q = .inl (cA, n, .inr (.inl (f)))) (ht : tys[t0]? = some (cA, .long)) (hi : i = nI k) (hk : k < n) (hn : n < 2 ^ 31) (hdg : decode cc pc = .ok (.lastore, 1)) (kk : ∀ (H1 : Heap) (locs1 : List Loc), cG D ad N A H0 H1 locs1 (va_up S q (.inl (cA, n, .inr (.inl (vp_updL f k v))))) → W p l e R s m args below meth c H1 locs1 cells slots Q (F0 m (pc + 1) ls rest)) : W p l e R s m args below meth c H locs cells slots Q (F0 m pc ls (.long v :: .int i :: .ref (ad q) :: rest)) := by
  subst hi
  refine va_last E.1 E.2.1 E.2.2.2.2 G.1 G.2.1 G.2.2 q t0 (cW_e hq hS) ht (vp_in_nI hk hn) hdg (fun H1 locs1 h1 h2 h3 => kk H1 locs1 ?_)
  rw [nI_clamp (Nat.lt_trans hk hn), cW_set hq] at h1 h2
  exact ⟨h1, h2, h3⟩
theorem c_zast (E : cE p c cc s m args Ts D own tys) (G : cG D ad N A H0 H locs S) (q t0 : Nat) {cA : ClassId} {n k : Nat} {f : Nat → Int32} {i v : Int32} (hq : q < N) (hS : S q = .inl (cA, n, .inl f)) (ht : tys[t0]? = some (cA, .boolean)) (hi : i = nI k) (hk : k < n) (hn : n < 2 ^ 31) (hv : vp_nar .boolean v = v) (hdg : decode cc pc = .ok (.bastore, 1)) (kk : ∀ (H1 : Heap) (locs1 : List Loc), cG D ad N A H0 H1 locs1 (va_up S q (.inl (cA, n, .inl (upd f k v)))) → W p l e R s m args below meth c H1 locs1 cells slots Q (F0 m (pc + 1) ls rest)) : W p l e R s m args below meth c H locs cells slots Q (F0 m pc ls (.int v :: .int i :: .ref (ad q) :: rest)) := by
  subst hi
  refine va_zast E.1 E.2.1 E.2.2.2.2 G.1 G.2.1 G.2.2 q t0 (cW_e hq hS) ht (vp_in_nI hk hn) hdg (fun H1 locs1 h1 h2 h3 => kk H1 locs1 ?_)
  rw [nI_clamp (Nat.lt_trans hk hn), cW_set hq, hv] at h1 h2
  exact ⟨h1, h2, h3⟩
end CWR
/-- at a throw of the method's own: the world is as it was -/
theorem c_thrown {D : va_G} {tys : List (ClassId × FieldType)} {ad : Nat → Nat} {N : Nat} {S : Nat → va_E} {A : Nat → Prop} {s t : State} {H : Heap} {locs : List Loc} (G : cG D ad N A s.heap H locs S) (hK : va_K D vwCl tys s) (hvm : s.vm.Alike t.vm) (h1 : H.size ≤ t.heap.size) (h2 : ∀ q, q < H.size → t.heap[q]? = H[q]?) : cAt D tys ad N A S t ∧ va_F A s t :=
  ⟨⟨G.1.kept (fun k x hx => h2 x.1 ((G.1 k x hx).lt)), va_K.moved hvm hK, G.2.1⟩, Nat.le_trans G.2.2.1 h1, fun q hq hn => (h2 q (Nat.lt_of_lt_of_le hq G.2.2.1)).trans (G.2.2.2.1 q hq hn)⟩
end
section
/-! 03d.cn.lean.txt -/
/-! ===== making cells ===== -/
def cat {α : Type} (N : Nat) (f g : Nat → α) : Nat → α := fun n => bif Nat.blt n N then f n else g (n - N)
theorem cat_lo {α : Type} {N n : Nat} {f g : Nat → α} (h : n < N) : cat N f g n = f n := by
  have e : Nat.blt n N = true := Nat.ble_eq_true_of_le h
  unfold cat
  rw [e]
  rfl
theorem cat_hi {α : Type} {N n : Nat} {f g : Nat → α} (h : N ≤ n) : cat N f g n = g (n - N) := by
  have e : Nat.blt n N = false := by
    cases h9 : Nat.blt n N with
    | false => rfl
    | true => exact absurd (Nat.le_of_ble_eq_true h9) (Nat.not_succ_le_self n ∘ fun q => Nat.le_trans q h)
  unfold cat
  rw [e]
  rfl
theorem cW_cat {a b : Nat → Nat} {N M : Nat} {S T : Nat → va_E} : cW a N S ++ cW b M T = cW (cat N a b) (N + M) (cat N S T) := by
  refine List.ext_getElem? (fun i => ?_)
  by_cases h : i < N
  · rw [List.getElem?_append_left (by rw [cW_len]; exact h), cW_at h, cW_at (Nat.lt_of_lt_of_le h (Nat.le_add_right _ _)), cat_lo h, cat_lo h]
  · have h1 : N ≤ i := Nat.not_lt.mp h
    rw [List.getElem?_append_right (by rw [cW_len]; exact h1), cW_len]
    by_cases h2 : i < N + M
    · rw [cW_at (show i - N < M by omega), cW_at h2, cat_hi h1, cat_hi h1]
    · rw [cW_none (show M ≤ i - N by omega), cW_none (Nat.not_lt.mp h2)]
theorem cG_push {D : va_G} {ad : Nat → Nat} {N : Nat} {A : Nat → Prop} {H0 H1 : Heap} {locs : List Loc} {S : Nat → va_E} {q : Nat} {e : va_E} (h1 : va_P D vwCl (cW ad N S ++ [(q, e)]) H1) (h2 : va_D A (cW ad N S ++ [(q, e)])) (h3 : va_S A H0 H1 locs) : cG D (cat N ad (fun _ => q)) (N + 1) A H0 H1 locs (cat N S (fun _ => e)) := by
  have e1 : cW ad N S ++ [(q, e)] = cW (cat N ad (fun _ => q)) (N + 1) (cat N S (fun _ => e)) := cW_cat (b := fun _ => q) (M := 1) (T := fun _ => e)
  exact ⟨by rw [← e1]; exact h1, by rw [← e1]; exact h2, h3⟩
theorem va_nd_of : ∀ l : List Nat, l.Nodup → va_nd l = true
  | [], _ => rfl
  | a :: l, h => by
    have h1 := List.nodup_cons.mp h
    show (decide (a ∉ l) && va_nd l) = true
    rw [va_nd_of l h1.2, Bool.and_true]
    exact decide_eq_true h1.1
theorem va_nd_range (N : Nat) : va_nd (List.range N) = true := va_nd_of _ List.nodup_range
theorem cG_sub {D : va_G} {ad : Nat → Nat} {N M : Nat} {A : Nat → Prop} {H0 H : Heap} {locs : List Loc} {S T T1 : Nat → va_E} (h : ∀ n, n < M → T n = T1 n) (G : cG D ad (N + M) A H0 H locs (cat N S T)) : cG D ad (N + M) A H0 H locs (cat N S T1) := by
  have e : cW ad (N + M) (cat N S T) = cW ad (N + M) (cat N S T1) := cW_congr (fun n hn => by
    by_cases h1 : n < N
    · rw [cat_lo h1, cat_lo h1]
    · have h2 : N ≤ n := Nat.not_lt.mp h1
      rw [cat_hi h2, cat_hi h2, h (n - N) (by omega)])
  exact ⟨by rw [← e]; exact G.1, by rw [← e]; exact G.2.1, G.2.2⟩
abbrev CT (cI cJ cZ cMic cSrc cSt cAI cAJ : ClassId) : List (ClassId × FieldType) := [(cI, .int), (cJ, .long), (cZ, .boolean), (cMic, .object "AcousticCamera$Mic"), (cSrc, .object "AcousticCamera$Source"), (cSt, .object "AcousticCamera$State"), (cAI, .array .int), (cAJ, .array .long)]
section CNR
variable {p : Program} {l : Launch} {e : Env} {R : Room} {s : State} {m : MethodId} {args : Array Value} {below : List Frame} {meth : Method} {c : Code} {H : Heap} {locs : List Loc} {cells slots : Nat} {Q : State → Prop}
variable {cc : ByteArray} {pc : Nat} {ls : Array Slot} {rest : List Value} {D : va_G} {A : Nat → Prop} {H0 : Heap} {Ts : List Cond} {tys : List (ClassId × FieldType)} {ad : Nat → Nat} {N : Nat} {S : Nat → va_E} {own : String}
theorem n_new (E : cE p c cc s m args Ts D own tys) (G : cG D ad N A H0 H locs S) (hA : ∀ q, H0.size ≤ q → A q) {C : String} {T : u_T} {nf ci idx : Nat} {fs : List Value} (hin : ∀ w ∈ u_ws C T nf, w ∈ Ts) (ty0 : Nat → FieldType) (hty : ∀ k, k < nf → parseFieldDescriptor (T k).2.2.1 = some (ty0 k)) (h1 : Cond.classLink own idx C ∈ Ts) (h2 : Cond.instantiable C nf ∈ Ts) (h3 : Cond.initialized C ∈ Ts) (hc : vwCl[ci]? = some (C, T, nf)) (hfs : ∀ j, j < nf → defaultValue (ty0 j) = vp_V fs j) (hcells : cells + 1 ≤ R.cells) (hslots : slots + nf ≤ R.slots) (hdg : decode cc pc = .ok (.new idx, 3)) (kk : ∀ (q : Nat) (H1 : Heap), cG D (cat N ad (fun _ => q)) (N + 1) A H0 H1 locs (cat N S (fun _ => .inr (ci, fs))) → W p l e R s m args below meth c H1 locs (cells + 1) (slots + nf) Q (F0 m (pc + 3) ls (.ref q :: rest))) : W p l e R s m args below meth c H locs cells slots Q (F0 m pc ls rest) :=
  va_new E.1 E.2.1 E.2.2.1 hin ty0 hty E.2.2.2.1 (E.2.2.1 _ h1) (E.2.2.1 _ h2) (E.2.2.1 _ h3) E.2.2.2.2 G.1 G.2.1 G.2.2 hA hc hfs hcells hslots hdg (fun q H1 g1 g2 g3 => kk q H1 (cG_push g1 g2 g3))
theorem n_newi (E : cE p c cc s m args Ts D own tys) (G : cG D ad N A H0 H locs S) (hA : ∀ q, H0.size ≤ q → A q) (t0 : Nat) {cA : ClassId} {n : Int32} {K : Nat} (h1 : Cond.arrayClass .int ∈ Ts) (ht : tys[t0]? = some (cA, .int)) (hn : n = nI K) (hK : K ≤ 100000) (hcells : cells + 1 ≤ R.cells) (hslots : slots + K ≤ R.slots) (hdg : decode cc pc = .ok (.newarray .int, 2)) (kk : ∀ (q : Nat) (H1 : Heap), cG D (cat N ad (fun _ => q)) (N + 1) A H0 H1 locs (cat N S (fun _ => .inl (cA, K, .inl (fun _ => 0)))) → W p l e R s m args below meth c H1 locs (cells + 1) (slots + K) Q (F0 m (pc + 2) ls (.ref q :: rest))) : W p l e R s m args below meth c H locs cells slots Q (F0 m pc ls (.int n :: rest)) := by
  subst hn
  refine va_newa (atype := .int) (ty := .int) E.1 E.2.1 (E.2.2.1 _ h1) rfl E.2.2.2.2 G.1 G.2.1 G.2.2 hA (a0 := (K, .inl (fun _ => 0))) (fun _ => rfl) (nI_pos (by omega)) (nI_clamp (by omega)) (by show K * 4 ≤ 536870912; omega) hcells hslots hdg (fun q cB H1 k1 g1 g2 g3 => ?_)
  have e : cB = cA := Option.some.inj ((va_nm_int (k1.2 tys.length (cB, .int) (by rw [List.getElem?_append_right (Nat.le_refl _), Nat.sub_self]; rfl)).2).symm.trans (va_nm_int (E.2.2.2.2.2 t0 _ ht).2))
  subst e
  exact kk q H1 (cG_push g1 g2 g3)
theorem n_newl (E : cE p c cc s m args Ts D own tys) (G : cG D ad N A H0 H locs S) (hA : ∀ q, H0.size ≤ q → A q) (t0 : Nat) {cA : ClassId} {n : Int32} {K : Nat} (h1 : Cond.arrayClass .long ∈ Ts) (ht : tys[t0]? = some (cA, .long)) (hn : n = nI K) (hK : K ≤ 100000) (hcells : cells + 1 ≤ R.cells) (hslots : slots + K ≤ R.slots) (hdg : decode cc pc = .ok (.newarray .long, 2)) (kk : ∀ (q : Nat) (H1 : Heap), cG D (cat N ad (fun _ => q)) (N + 1) A H0 H1 locs (cat N S (fun _ => .inl (cA, K, .inr (.inl (fun _ => 0))))) → W p l e R s m args below meth c H1 locs (cells + 1) (slots + K) Q (F0 m (pc + 2) ls (.ref q :: rest))) : W p l e R s m args below meth c H locs cells slots Q (F0 m pc ls (.int n :: rest)) := by
  subst hn
  refine va_newa (atype := .long) (ty := .long) E.1 E.2.1 (E.2.2.1 _ h1) rfl E.2.2.2.2 G.1 G.2.1 G.2.2 hA (a0 := (K, .inr (.inl (fun _ => 0)))) (fun _ => rfl) (nI_pos (by omega)) (nI_clamp (by omega)) (by show K * 8 ≤ 536870912; omega) hcells hslots hdg (fun q cB H1 k1 g1 g2 g3 => ?_)
  have e : cB = cA := Option.some.inj ((va_nm_long (k1.2 tys.length (cB, .long) (by rw [List.getElem?_append_right (Nat.le_refl _), Nat.sub_self]; rfl)).2).symm.trans (va_nm_long (E.2.2.2.2.2 t0 _ ht).2))
  subst e
  exact kk q H1 (cG_push g1 g2 g3)
theorem n_newz (E : cE p c cc s m args Ts D own tys) (G : cG D ad N A H0 H locs S) (hA : ∀ q, H0.size ≤ q → A q) (t0 : Nat) {cA : ClassId} {n : Int32} {K : Nat} (h1 : Cond.arrayClass .boolean ∈ Ts) (ht : tys[t0]? = some (cA, .boolean)) (hn : n = nI K) (hK : K ≤ 100000) (hcells : cells + 1 ≤ R.cells) (hslots : slots + K ≤ R.slots) (hdg : decode cc pc = .ok (.newarray .boolean, 2)) (kk : ∀ (q : Nat) (H1 : Heap), cG D (cat N ad (fun _ => q)) (N + 1) A H0 H1 locs (cat N S (fun _ => .inl (cA, K, .inl (fun _ => 0)))) → W p l e R s m args below meth c H1 locs (cells + 1) (slots + K) Q (F0 m (pc + 2) ls (.ref q :: rest))) : W p l e R s m args below meth c H locs cells slots Q (F0 m pc ls (.int n :: rest)) := by
  subst hn
  refine va_newa (atype := .boolean) (ty := .boolean) E.1 E.2.1 (E.2.2.1 _ h1) rfl E.2.2.2.2 G.1 G.2.1 G.2.2 hA (a0 := (K, .inl (fun _ => 0))) (fun _ => rfl) (nI_pos (by omega)) (nI_clamp (by omega)) (by show K * 1 ≤ 536870912; omega) hcells hslots hdg (fun q cB H1 k1 g1 g2 g3 => ?_)
  have e : cB = cA := Option.some.inj ((va_nm_boolean (k1.2 tys.length (cB, .boolean) (by rw [List.getElem?_append_right (Nat.le_refl _), Nat.sub_self]; rfl)).2).symm.trans (va_nm_boolean (E.2.2.2.2.2 t0 _ ht).2))
  subst e
  exact kk q H1 (cG_push g1 g2 g3)
theorem n_newq (E : cE p c cc s m args Ts D own tys) (G : cG D ad N A H0 H locs S) (hA : ∀ q, H0.size ≤ q → A q) (t0 : Nat) {cA : ClassId} {C nm : String} {idx : Nat} {n : Int32} {K : Nat} (h1 : Cond.classLink own idx C ∈ Ts) (ho : va_AO C s) (e0 : "[" ++ (FieldType.object C).toString = nm) (ht : tys[t0]? = some (cA, .object C)) (hn : n = nI K) (hK : K ≤ 100000) (hcells : cells + 1 ≤ R.cells) (hslots : slots + K ≤ R.slots) (hdg : decode cc pc = .ok (.anewarray idx, 3)) (kk : ∀ (q : Nat) (H1 : Heap), cG D (cat N ad (fun _ => q)) (N + 1) A H0 H1 locs (cat N S (fun _ => .inl (cA, K, .inr (.inr (.inr (.inr (fun _ => none))))))) → W p l e R s m args below meth c H1 locs (cells + 1) (slots + K) Q (F0 m (pc + 3) ls (.ref q :: rest))) : W p l e R s m args below meth c H locs cells slots Q (F0 m pc ls (.int n :: rest)) := by
  subst hn
  refine va_newq E.1 E.2.1 E.2.2.2.1 (E.2.2.1 _ h1) ho E.2.2.2.2 G.1 G.2.1 G.2.2 hA (nI_pos (by omega)) (nI_clamp (by omega)) (by omega) hcells hslots hdg (fun q cB H1 k1 g1 g2 g3 => ?_)
  have e : cB = cA := Option.some.inj ((va_nmO (k1.2 tys.length (cB, .object C) (by rw [List.getElem?_append_right (Nat.le_refl _), Nat.sub_self]; rfl)).2 e0).symm.trans (va_nmO (E.2.2.2.2.2 t0 _ ht).2 e0))
  subst e
  exact kk q H1 (cG_push g1 g2 g3)
theorem n_putF (E : cE p c cc s m args Ts D own tys) (G : cG D ad N A H0 H locs S) (q k a : Nat) {ref C : String} {T : u_T} {nf ci idx : Nat} {fs fs1 : List Value} {v : Value} (hq : q < N) (ha : ad q = a) (hS : S q = .inr (ci, fs)) (hc : vwCl[ci]? = some (C, T, nf)) (hin : ∀ w ∈ u_ws C T nf, w ∈ Ts) (ty0 : Nat → FieldType) (hty : ∀ k, k < nf → parseFieldDescriptor (T k).2.2.1 = some (ty0 k)) (hnm : ∀ a, a < nf → ∀ b, b < nf → a ≠ b → (T a).2.1 ≠ (T b).2.1) (hk : k < nf) (hl : Cond.fieldLink own idx ref (T k).2.1 (T k).2.2.1 ∈ Ts) {ty : FieldType} (he : (T k).1 = ref ∧ (T k).2.2.2 = true ∧ parseFieldDescriptor (T k).2.2.1 = some ty) (hin2 : meth.name = "<init>") (hdecl : (T k).1 = own) (hn : narrow ty v = v) (hf : fits ty v = true) (hlen : k < fs.length) (hfs : fs.set k v = fs1) (hdg : decode cc pc = .ok (.putfield idx, 3)) (kk : ∀ (H1 : Heap) (locs1 : List Loc), cG D ad N A H0 H1 locs1 (va_up S q (.inr (ci, fs1))) → W p l e R s m args below meth c H1 locs1 cells slots Q (F0 m (pc + 3) ls rest)) : W p l e R s m args below meth c H locs cells slots Q (F0 m pc ls (v :: .ref a :: rest)) := by
  subst ha
  subst hfs
  exact va_putF (ref := ref) (own := own) E.1 E.2.1 E.2.2.1 hin ty0 hty hnm E.2.2.2.1 E.2.2.2.2 G.1 G.2.1 G.2.2 q (cW_e hq hS) hc k hk (E.2.2.1 _ hl) (fun _ h => by rw [he.1] at h; exact h) he.2.1 hin2 hdecl he.2.2 hn hf hlen hdg (fun H1 locs1 h1 h2 h3 => kk H1 locs1 ⟨by rw [← cW_set hq]; exact h1, by rw [← cW_set hq]; exact h2, h3⟩)
theorem n_put (E : cE p c cc s m args Ts D own tys) (G : cG D ad N A H0 H locs S) (q k a : Nat) {ref C : String} {T : u_T} {nf ci idx : Nat} {fs fs1 : List Value} {v : Value} (hq : q < N) (ha : ad q = a) (hS : S q = .inr (ci, fs)) (hc : vwCl[ci]? = some (C, T, nf)) (hin : ∀ w ∈ u_ws C T nf, w ∈ Ts) (ty0 : Nat → FieldType) (hty : ∀ k, k < nf → parseFieldDescriptor (T k).2.2.1 = some (ty0 k)) (hnm : ∀ a, a < nf → ∀ b, b < nf → a ≠ b → (T a).2.1 ≠ (T b).2.1) (hk : k < nf) (hl : Cond.fieldLink own idx ref (T k).2.1 (T k).2.2.1 ∈ Ts) {ty : FieldType} (he : (T k).1 = ref ∧ (T k).2.2.2 = false ∧ parseFieldDescriptor (T k).2.2.1 = some ty) (hn : narrow ty v = v) (hf : fits ty v = true) (hlen : k < fs.length) (hfs : fs.set k v = fs1) (hdg : decode cc pc = .ok (.putfield idx, 3)) (kk : ∀ (H1 : Heap) (locs1 : List Loc), cG D ad N A H0 H1 locs1 (va_up S q (.inr (ci, fs1))) → W p l e R s m args below meth c H1 locs1 cells slots Q (F0 m (pc + 3) ls rest)) : W p l e R s m args below meth c H locs cells slots Q (F0 m pc ls (v :: .ref a :: rest)) := by
  subst ha
  subst hfs
  exact va_put (ref := ref) (own := own) E.1 E.2.1 E.2.2.1 hin ty0 hty hnm E.2.2.2.1 E.2.2.2.2 G.1 G.2.1 G.2.2 q (cW_e hq hS) hc k hk (E.2.2.1 _ hl) (fun _ h => by rw [he.1] at h; exact h) he.2.1 he.2.2 hn hf hlen hdg (fun H1 locs1 h1 h2 h3 => kk H1 locs1 ⟨by rw [← cW_set hq]; exact h1, by rw [← cW_set hq]; exact h2, h3⟩)
/-- the state of the cells behind a constructor: cells M of them, the object itself first -/
abbrev nB (D : va_G) (tys : List (ClassId × FieldType)) (xs : State → Prop) (h ci : Nat) (fs : List Value) (sz : Nat) : State → Prop := fun U => U.heap.size = sz ∧ va_P D vwCl (cW (fun _ => h) 1 (fun _ => .inr (ci, fs))) U.heap ∧ va_K D vwCl tys U ∧ va_D (fun _ => True) (cW (fun _ => h) 1 (fun _ => .inr (ci, fs))) ∧ xs U
abbrev cNA (l : Launch) (y : MethodName) (ws : List Cond) (fr lo mc ms : Nat) (D : va_G) (tys : List (ClassId × FieldType)) (xs : State → Prop) (ci : Nat) (fs : List Value) (M : Nat) (As : List Value) (post : (Nat → Nat) → (Nat → va_E) → Prop) : Prop := ∀ h sz : Nat, Met l y ws { frames := fr, cells := mc, slots := ms, locals := lo } (va_Pc (.ref h :: As) (nB D tys xs h ci fs sz)) (va_Qv (fun (u : (Nat → Nat) × (Nat → va_E)) => u.1 0 = h ∧ post u.1 u.2) (fun u t => va_P D vwCl (cW u.1 M u.2) t.heap ∧ va_K D vwCl tys t ∧ va_D (va_A (cW (fun _ => h) 1 (fun _ => .inr (ci, fs))) sz) (cW u.1 M u.2)) (va_A (cW (fun _ => h) 1 (fun _ => .inr (ci, fs))) sz)) mc ms (va_A (cW (fun _ => h) 1 (fun _ => .inr (ci, fs))) sz)
abbrev cN (l : Launch) (y : MethodName) (ws : List Cond) (fr lo mc ms : Nat) (D : va_G) (tys : List (ClassId × FieldType)) (xs : State → Prop) (ci : Nat) (fs : List Value) (M : Nat) (post : (Nat → Nat) → (Nat → va_E) → Prop) : Prop := cNA l y ws fr lo mc ms D tys xs ci fs M [] post
/-- the call of a constructor on the newest cell -/
theorem n_init {y : MethodName} {bytes : ByteArray} {maxL nL index fr lo mc ms : Nat} {ws : List Cond} {xs : State → Prop} {ci : Nat} {fs : List Value} {M h : Nat} {post : (Nat → Nat) → (Nat → va_E) → Prop} (E : cE p c cc s m args Ts D own tys) (G : cG D ad (N + 1) A H0 H locs S) (hA : ∀ q, H0.size ≤ q → A q) (hxs : xs s) (hxv : ∀ u U : State, u.WarmedH U.vm → xs u → xs U) (hml : c.maxLocals = nL) (hM : cN l y ws fr lo mc ms D tys xs ci fs M post) (cw : CallB R s args own index y bytes maxL none ws { frames := fr, cells := mc, slots := ms, locals := lo } mc ms 0 ∧ y.name = "<init>" ∧ (Cond.instanceMethod y).before args s = true) (ha : ad N = h) (hSN : S N = .inr (ci, fs)) (hsz : ls.size = nL) (hW : 2 * (F0 m pc ls (.ref h :: rest)).monitorRoom + (rest.map fun v => v.category).sum ≤ 8) (hdg : decode cc pc = .ok (.invokespecial index, 3)) (hf : cells + mc ≤ R.cells ∧ slots + ms ≤ R.slots)
    (kk : ∀ (b : Nat → Nat) (T : Nat → va_E) (H1 : Heap) (locs1 : List Loc), b 0 = h → post b T → cG D (cat N ad b) (N + M) A H0 H1 locs1 (cat N S T) → W p l e R s m args below meth c H1 locs1 (cells + mc) (slots + ms) Q (F0 m (pc + 3) ls rest)) : W p l e R s m args below meth c H locs cells slots Q (F0 m pc ls (.ref h :: rest)) := by
  obtain ⟨hx, hb, hts, hown, hK⟩ := E
  obtain ⟨hP, hD, hS⟩ := G
  subst ha
  have hC : [N].map (fun i => (cW ad (N + 1) S)[i]?) = (cW (fun _ => ad N) 1 (fun _ => .inr (ci, fs))).map some := by
    show [(cW ad (N + 1) S)[N]?] = [some (ad N, .inr (ci, fs))]
    rw [cW_e (Nat.lt_succ_self N) hSN]
  have hR : (List.range N).map (fun i => (cW ad (N + 1) S)[i]?) = (cW ad N S).map some := by
    unfold cW
    rw [List.map_map]
    refine List.map_congr_left (fun i hi => ?_)
    exact cW_at (Nat.lt_succ_of_lt (List.mem_range.mp hi))
  have hPc : va_P D vwCl (cW (fun _ => ad N) 1 (fun _ => .inr (ci, fs))) H := hP.sub [N] (by rw [List.filterMap_cons_some (cW_e (Nat.lt_succ_self N) hSN)]; rfl)
  have hDc : va_D (fun _ => True) (cW (fun _ => ad N) 1 (fun _ => .inr (ci, fs))) := (hD.sub [N] (by simp [va_nd]) hC).weaken (fun _ _ _ _ => trivial)
  have hFc := va_free (wc := cW (fun _ => ad N) 1 (fun _ => .inr (ci, fs))) hD hS hA [N] hC
  refine va_callv (va_runI (As := []) (rest := rest) ⟨hx, hb, hml, hown, hts⟩ (hM (ad N) H.size) cw ⟨fun a U g mk q => by obtain ⟨q0, q1, qP, qK, qD, qx⟩ := q; exact ⟨q0, q1, qP, va_K.moved (u := U) (U := U.calling g mk a) (Vm.Alike.refl U.vm) qK, qD, hxv U (U.calling g mk a) (State.WarmedH.refl U) qx⟩, fun U hU hW => ⟨rfl, by rw [hU], by rw [hU]; exact hPc, va_K.moved hW.alike hK, hDc, hxv s U hW hxs⟩⟩ rfl rfl hsz rfl hW hdg hf) hS (fun q _ h => hFc q h) hFc (fun u t H1 locs1 ht hvm hw hB hz1 hk1 hS => ?_)
  obtain ⟨hP1, hK1, hD1⟩ := hB
  rw [ht] at hP1
  obtain ⟨hP2, hD2⟩ := va_join (wr := cW ad N S) (w1 := cW u.1 M u.2) hP hD [N] (List.range N) hC hR (va_nd_range N) (fun i hi h9 => by have := List.mem_range.mp hi; have h8 := List.mem_singleton.mp h9; omega) hk1 hFc hP1 hD1
  rw [cW_cat] at hP2 hD2
  exact kk u.1 u.2 H1 locs1 hw.1 hw.2 ⟨hP2, hD2, hS⟩
/-- .. of a nest mate's -/
theorem n_initN {host : String} {y : MethodName} {bytes : ByteArray} {maxL nL index fr lo mc ms : Nat} {ws : List Cond} {xs : State → Prop} {ci : Nat} {fs : List Value} {M h : Nat} {post : (Nat → Nat) → (Nat → va_E) → Prop} (E : cE p c cc s m args Ts D own tys) (G : cG D ad (N + 1) A H0 H locs S) (hA : ∀ q, H0.size ≤ q → A q) (hxs : xs s) (hxv : ∀ u U : State, u.WarmedH U.vm → xs u → xs U) (hml : c.maxLocals = nL) (hM : cN l y ws fr lo mc ms D tys xs ci fs M post) (cw : va_CN R s args own index y host bytes maxL none ws { frames := fr, cells := mc, slots := ms, locals := lo } mc ms 0 ∧ y.name = "<init>" ∧ (Cond.instanceMethod y).before args s = true) (ha : ad N = h) (hSN : S N = .inr (ci, fs)) (hsz : ls.size = nL) (hW : 2 * (F0 m pc ls (.ref h :: rest)).monitorRoom + (rest.map fun v => v.category).sum ≤ 8) (hdg : decode cc pc = .ok (.invokespecial index, 3)) (hf : cells + mc ≤ R.cells ∧ slots + ms ≤ R.slots)
    (kk : ∀ (b : Nat → Nat) (T : Nat → va_E) (H1 : Heap) (locs1 : List Loc), b 0 = h → post b T → cG D (cat N ad b) (N + M) A H0 H1 locs1 (cat N S T) → W p l e R s m args below meth c H1 locs1 (cells + mc) (slots + ms) Q (F0 m (pc + 3) ls rest)) : W p l e R s m args below meth c H locs cells slots Q (F0 m pc ls (.ref h :: rest)) := by
  obtain ⟨hx, hb, hts, hown, hK⟩ := E
  obtain ⟨hP, hD, hS⟩ := G
  subst ha
  have hC : [N].map (fun i => (cW ad (N + 1) S)[i]?) = (cW (fun _ => ad N) 1 (fun _ => .inr (ci, fs))).map some := by
    show [(cW ad (N + 1) S)[N]?] = [some (ad N, .inr (ci, fs))]
    rw [cW_e (Nat.lt_succ_self N) hSN]
  have hR : (List.range N).map (fun i => (cW ad (N + 1) S)[i]?) = (cW ad N S).map some := by
    unfold cW
    rw [List.map_map]
    refine List.map_congr_left (fun i hi => ?_)
    exact cW_at (Nat.lt_succ_of_lt (List.mem_range.mp hi))
  have hPc : va_P D vwCl (cW (fun _ => ad N) 1 (fun _ => .inr (ci, fs))) H := hP.sub [N] (by rw [List.filterMap_cons_some (cW_e (Nat.lt_succ_self N) hSN)]; rfl)
  have hDc : va_D (fun _ => True) (cW (fun _ => ad N) 1 (fun _ => .inr (ci, fs))) := (hD.sub [N] (by simp [va_nd]) hC).weaken (fun _ _ _ _ => trivial)
  have hFc := va_free (wc := cW (fun _ => ad N) 1 (fun _ => .inr (ci, fs))) hD hS hA [N] hC
  refine va_callv (va_runIN (As := []) (rest := rest) ⟨hx, hb, hml, hown, hts⟩ (hM (ad N) H.size) cw ⟨fun a U g mk q => by obtain ⟨q0, q1, qP, qK, qD, qx⟩ := q; exact ⟨q0, q1, qP, va_K.moved (u := U) (U := U.calling g mk a) (Vm.Alike.refl U.vm) qK, qD, hxv U (U.calling g mk a) (State.WarmedH.refl U) qx⟩, fun U hU hW => ⟨rfl, by rw [hU], by rw [hU]; exact hPc, va_K.moved hW.alike hK, hDc, hxv s U hW hxs⟩⟩ rfl rfl hsz rfl hW hdg hf) hS (fun q _ h => hFc q h) hFc (fun u t H1 locs1 ht hvm hw hB hz1 hk1 hS => ?_)
  obtain ⟨hP1, hK1, hD1⟩ := hB
  rw [ht] at hP1
  obtain ⟨hP2, hD2⟩ := va_join (wr := cW ad N S) (w1 := cW u.1 M u.2) hP hD [N] (List.range N) hC hR (va_nd_range N) (fun i hi h9 => by have := List.mem_range.mp hi; have h8 := List.mem_singleton.mp h9; omega) hk1 hFc hP1 hD1
  rw [cW_cat] at hP2 hD2
  exact kk u.1 u.2 H1 locs1 hw.1 hw.2 ⟨hP2, hD2, hS⟩
/-- the call of a constructor with arguments on the newest cell -/
theorem n_initA {y : MethodName} {bytes : ByteArray} {maxL nL index fr lo mc ms : Nat} {ws : List Cond} {xs : State → Prop} {ci : Nat} {fs : List Value} {M h n : Nat} {As : List Value} {post : (Nat → Nat) → (Nat → va_E) → Prop} (E : cE p c cc s m args Ts D own tys) (G : cG D ad (N + 1) A H0 H locs S) (hA : ∀ q, H0.size ≤ q → A q) (hxs : xs s) (hxv : ∀ u U : State, u.WarmedH U.vm → xs u → xs U) (hml : c.maxLocals = nL) (hM : cNA l y ws fr lo mc ms D tys xs ci fs M As post) (cw : CallB R s args own index y bytes maxL none ws { frames := fr, cells := mc, slots := ms, locals := lo } mc ms n ∧ y.name = "<init>" ∧ (Cond.instanceMethod y).before args s = true) (ha : ad N = h) (hSN : S N = .inr (ci, fs)) (hn : As.length = n) (hsz : ls.size = nL) {st : List Value} (hst : st = As.reverse ++ .ref h :: rest) (hW : 2 * (F0 m pc ls st).monitorRoom + (rest.map fun v => v.category).sum ≤ 8) (hdg : decode cc pc = .ok (.invokespecial index, 3)) (hf : cells + mc ≤ R.cells ∧ slots + ms ≤ R.slots)
    (kk : ∀ (b : Nat → Nat) (T : Nat → va_E) (H1 : Heap) (locs1 : List Loc), b 0 = h → post b T → cG D (cat N ad b) (N + M) A H0 H1 locs1 (cat N S T) → W p l e R s m args below meth c H1 locs1 (cells + mc) (slots + ms) Q (F0 m (pc + 3) ls rest)) : W p l e R s m args below meth c H locs cells slots Q (F0 m pc ls st) := by
  obtain ⟨hx, hb, hts, hown, hK⟩ := E
  obtain ⟨hP, hD, hS⟩ := G
  subst ha
  have hC : [N].map (fun i => (cW ad (N + 1) S)[i]?) = (cW (fun _ => ad N) 1 (fun _ => .inr (ci, fs))).map some := by
    show [(cW ad (N + 1) S)[N]?] = [some (ad N, .inr (ci, fs))]
    rw [cW_e (Nat.lt_succ_self N) hSN]
  have hR : (List.range N).map (fun i => (cW ad (N + 1) S)[i]?) = (cW ad N S).map some := by
    unfold cW
    rw [List.map_map]
    refine List.map_congr_left (fun i hi => ?_)
    exact cW_at (Nat.lt_succ_of_lt (List.mem_range.mp hi))
  have hPc : va_P D vwCl (cW (fun _ => ad N) 1 (fun _ => .inr (ci, fs))) H := hP.sub [N] (by rw [List.filterMap_cons_some (cW_e (Nat.lt_succ_self N) hSN)]; rfl)
  have hDc : va_D (fun _ => True) (cW (fun _ => ad N) 1 (fun _ => .inr (ci, fs))) := (hD.sub [N] (by simp [va_nd]) hC).weaken (fun _ _ _ _ => trivial)
  have hFc := va_free (wc := cW (fun _ => ad N) 1 (fun _ => .inr (ci, fs))) hD hS hA [N] hC
  refine va_callv (va_runI (As := As) (rest := rest) ⟨hx, hb, hml, hown, hts⟩ (hM (ad N) H.size) cw ⟨fun a U g mk q => by obtain ⟨q0, q1, qP, qK, qD, qx⟩ := q; exact ⟨q0, q1, qP, va_K.moved (u := U) (U := U.calling g mk a) (Vm.Alike.refl U.vm) qK, qD, hxv U (U.calling g mk a) (State.WarmedH.refl U) qx⟩, fun U hU hW => ⟨rfl, by rw [hU], by rw [hU]; exact hPc, va_K.moved hW.alike hK, hDc, hxv s U hW hxs⟩⟩ rfl hn hsz hst hW hdg hf) hS (fun q _ h => hFc q h) hFc (fun u t H1 locs1 ht hvm hw hB hz1 hk1 hS => ?_)
  obtain ⟨hP1, hK1, hD1⟩ := hB
  rw [ht] at hP1
  obtain ⟨hP2, hD2⟩ := va_join (wr := cW ad N S) (w1 := cW u.1 M u.2) hP hD [N] (List.range N) hC hR (va_nd_range N) (fun i hi h9 => by have := List.mem_range.mp hi; have h8 := List.mem_singleton.mp h9; omega) hk1 hFc hP1 hD1
  rw [cW_cat] at hP2 hD2
  exact kk u.1 u.2 H1 locs1 hw.1 hw.2 ⟨hP2, hD2, hS⟩
theorem n_astq (E : cE p c cc s m args Ts D own tys) (G : cG D ad N A H0 H locs S) (q t0 qk : Nat) {cA : ClassId} {r : vw_C} {ci n k a v : Nat} {vs : List Value} {f : Nat → Option Nat} {i : Int32} (hq : q < N) (ha : ad q = a) (hS : S q = .inl (cA, n, .inr (.inr (.inr (.inr f))))) (ht : tys[t0]? = some (cA, .object r.1)) (hqk : qk < N) (hv0 : ad qk = v) (hv : S qk = .inr (ci, vs)) (hc : vwCl[ci]? = some r) (hi : i = nI k) (hk : k < n) (hn : n < 2 ^ 31) (hdg : decode cc pc = .ok (.aastore, 1)) (kk : ∀ (H1 : Heap) (locs1 : List Loc), cG D ad N A H0 H1 locs1 (va_up S q (.inl (cA, n, .inr (.inr (.inr (.inr (va_up f k (some v)))))))) → W p l e R s m args below meth c H1 locs1 cells slots Q (F0 m (pc + 1) ls rest)) : W p l e R s m args below meth c H locs cells slots Q (F0 m pc ls (.ref v :: .int i :: .ref a :: rest)) := by
  subst hi
  subst ha
  subst hv0
  refine va_astq E.1 E.2.1 E.2.2.2.2 G.1 G.2.1 G.2.2 q t0 qk ci (cW_e hq hS) ht (cW_e hqk hv) hc (vp_in_nI hk hn) hdg (fun H1 locs1 h1 h2 h3 => kk H1 locs1 ?_)
  rw [nI_clamp (Nat.lt_trans hk hn), cW_set hq] at h1 h2
  exact ⟨h1, h2, h3⟩
theorem n_getr (E : cE p c cc s m args Ts D own tys) (G : cG D ad N A H0 H locs S) (q k a : Nat) {ref C : String} {T : u_T} {nf ci idx : Nat} {fs : List Value} {v : Value} (hq : q < N) (ha : ad q = a) (hS : S q = .inr (ci, fs)) (hc : vwCl[ci]? = some (C, T, nf)) (hin : ∀ w ∈ u_ws C T nf, w ∈ Ts) (hk : k < nf) (hl : Cond.fieldLink own idx ref (T k).2.1 (T k).2.2.1 ∈ Ts) (he : (T k).1 = ref) (hv : fs[k]? = some v) (hdg : decode cc pc = .ok (.getfield idx, 3)) (kk : W p l e R s m args below meth c H locs cells slots Q (F0 m (pc + 3) ls (v :: rest))) : W p l e R s m args below meth c H locs cells slots Q (F0 m pc ls (.ref a :: rest)) := by
  subst ha
  exact c_get E G q k hq hS hc hin hk hl he hv hdg kk
end CNR
section CNG
variable {p : Program} {l : Launch} {e : Env} {R : Room} {s : State} {m : MethodId} {args : Array Value} {below : List Frame} {meth : Method} {c : Code} {H : Heap} {locs : List Loc} {cells slots : Nat} {Q : State → Prop}
variable {cc : ByteArray} {pc : Nat} {ls : Array Slot} {rest : List Value} {D : va_G} {A : Nat → Prop} {H0 : Heap} {Ts : List Cond} {tys : List (ClassId × FieldType)} {ad : Nat → Nat} {N : Nat} {S : Nat → va_E} {own : String}
theorem n_hzI (K : Nat) (c : ClassId) : Jvm.Free.Multi.innerC c K (defaultValue .int) = vp_cell c (K, .inl (fun _ => 0)) := by
  show ({ cls := c, slots := Array.replicate K (.int 0), vm := .none } : Cell) = arrV c K (fun _ => .int 0)
  rw [arrV_new]
theorem n_hzJ (K : Nat) (c : ClassId) : Jvm.Free.Multi.innerC c K (defaultValue .long) = vp_cell c (K, .inr (.inl (fun _ => 0))) := by
  show ({ cls := c, slots := Array.replicate K (.long 0), vm := .none } : Cell) = arrV c K (fun _ => .long 0)
  rw [arrV_new]
theorem g_outer {M : Nat} {r r1 : Nat → Nat} (h : ∀ i, i < M → r i = r1 i) : (fun i => if i < M then some (r i) else none) = (fun i => if i < M then some (r1 i) else none) := by
  funext i
  by_cases hi : i < M
  · rw [if_pos hi, if_pos hi, h i hi]
  · rw [if_neg hi, if_neg hi]
theorem g_rows {r : Nat → Nat} {K : Nat} {f : Nat → va_E} {e : va_E} : va_pl ([] ++ (List.range K).map r) (vr_up f ((List.range K).map r) e) = cW r K (fun _ => e) := by
  unfold va_pl cW
  rw [List.nil_append, List.map_map]
  refine List.map_congr_left (fun i hi => ?_)
  show (r i, vr_up f ((List.range K).map r) e (r i)) = (r i, e)
  rw [vr_up_in (List.mem_map_of_mem hi)]
theorem va_asta {cl : List vw_C} {a : Nat} {ws : va_W} (hexec : p.tables.exec = Jvm.exec) (hb : c.code = cc) (hK : va_K D cl tys s) (hP : va_P D cl ws H) (hD : va_D A ws) (hS : va_S A H0 H locs) (q0 t0 qk : Nat) {ty : FieldType} {cA cy : ClassId} {n K v : Nat} {g : Nat → Int64} {f : Nat → Option Nat} (ha : ws[q0]? = some (a, .inl (cA, n, .inr (.inr (.inr (.inr f)))))) (ht : tys[t0]? = some (cA, .array ty)) (ho : va_AOA ty s) (hcy : s.vm.findClass (FieldType.array ty).toString = some cy) (hv : ws[qk]? = some (v, .inl (cy, K, .inr (.inl g)))) {i : Int32} (hin : vp_in i n) (hdg : decode cc pc = .ok (.aastore, 1))
    (kk : ∀ (H1 : Heap) (locs1 : List Loc), va_P D cl (ws.set q0 (a, .inl (cA, n, .inr (.inr (.inr (.inr (va_up f i.toNatClampNeg (some v)))))))) H1 → va_D A (ws.set q0 (a, .inl (cA, n, .inr (.inr (.inr (.inr (va_up f i.toNatClampNeg (some v)))))))) → va_S A H0 H1 locs1 → W p l e R s m args below meth c H1 locs1 cells slots Q (F0 m (pc + 1) ls rest)) : W p l e R s m args below meth c H locs cells slots Q (F0 m pc ls (.ref v :: .int i :: .ref a :: rest)) := by
  have hlt : i.toNatClampNeg < n := Nat.not_le.mp fun q => hin (Or.inr q)
  have h0 : ¬ i < 0 := fun q => hin (Or.inl q)
  obtain ⟨comp, c0, kA, f1, f2, f3, f4⟩ := Cond.arrayOver_specA (va_AOA.use (A := args) ho)
  cases Option.some.inj (f1.symm.trans hcy)
  cases Option.some.inj (f4.symm.trans (show s.vm.findClass ("[" ++ (FieldType.array ty).toString) = some cA from (hK.2 t0 _ ht).2))
  obtain ⟨kE, hkE, -⟩ := Vm.findClass_spec f1
  refine W.aast hexec hb (hP q0 _ ha) (fun q h => by cases h) (fun h => by cases h) f2 f3 rfl hkE ⟨h0, by show _ < (arrV _ _ _).slots.size; rw [arrV_size]; exact hlt⟩ (hP qk _ hv) (fun q h => by cases h) hkE (va_asg _ _) rfl rfl hdg fun H1 e z oq => ?_
  refine kk H1 _ (hP.set hD ha ?_ oq) (hD.set ha) (hS.put z oq (hD.2 q0 _ ha))
  show H1[a]? = some (vp_cell _ _)
  rw [e]
  rw [vp_cell_q, vp_cell_q, arrV_store]
  congr 2
  funext q
  by_cases hq : q = i.toNatClampNeg
  · subst hq
    simp [updV, va_up, va_rf]
  · simp [updV, va_up, hq]
theorem n_asta (E : cE p c cc s m args Ts D own tys) (G : cG D ad N A H0 H locs S) (q t0 qk : Nat) {cA cy : ClassId} {ty : FieldType} {n K k a v : Nat} {g : Nat → Int64} {f : Nat → Option Nat} {i : Int32} (hq : q < N) (ha : ad q = a) (hS : S q = .inl (cA, n, .inr (.inr (.inr (.inr f))))) (ht : tys[t0]? = some (cA, .array ty)) (ho : va_AOA ty s) (hcy : s.vm.findClass (FieldType.array ty).toString = some cy) (hqk : qk < N) (hv0 : ad qk = v) (hv : S qk = .inl (cy, K, .inr (.inl g))) (hi : i = nI k) (hk : k < n) (hn : n < 2 ^ 31) (hdg : decode cc pc = .ok (.aastore, 1)) (kk : ∀ (H1 : Heap) (locs1 : List Loc), cG D ad N A H0 H1 locs1 (va_up S q (.inl (cA, n, .inr (.inr (.inr (.inr (va_up f k (some v)))))))) → W p l e R s m args below meth c H1 locs1 cells slots Q (F0 m (pc + 1) ls rest)) : W p l e R s m args below meth c H locs cells slots Q (F0 m pc ls (.ref v :: .int i :: .ref a :: rest)) := by
  subst hi
  subst ha
  subst hv0
  refine va_asta E.1 E.2.1 E.2.2.2.2 G.1 G.2.1 G.2.2 q t0 qk (cW_e hq hS) ht ho hcy (cW_e hqk hv) (vp_in_nI hk hn) hdg (fun H1 locs1 h1 h2 h3 => kk H1 locs1 ?_)
  rw [nI_clamp (Nat.lt_trans hk hn), cW_set hq] at h1 h2
  exact ⟨h1, h2, h3⟩
theorem n_mna (E : cE p c cc s m args Ts D own tys) (G : cG D ad N A H0 H locs S) (hA : ∀ q, H0.size ≤ q → A q) (t0 t1 : Nat) {cA cy : ClassId} {ty : FieldType} {idx : Nat} {n k : Int32} {M K : Nat} {z : vp_A} (h1 : (Cond.classLink own idx ("[" ++ (FieldType.array ty).toString)) ∈ Ts) (ho : va_AOA ty s) (h2 : Cond.arrayClass ty ∈ Ts) (hcy : s.vm.findClass (FieldType.array ty).toString = some cy) (ht : tys[t0]? = some (cA, .array ty)) (hn : n = nI M) (hk : k = nI K) (hM : M ≤ 1000) (hK : K ≤ 1000) (hb2 : K * componentBytes ty ≤ 536870912) (hdf : fits ty (defaultValue ty) = true) (hdd : (defaultValue ty).isDefault = true) (hz : ∀ c : ClassId, Jvm.Free.Multi.innerC c K (defaultValue ty) = vp_cell c z) (hcells : cells + (1 + M) ≤ R.cells) (hslots : slots + (M + M * K) ≤ R.slots) (hdg : decode cc pc = .ok (.multianewarray idx 2, 4))
    (kk : ∀ (q : Nat) (r : Nat → Nat) (H1 : Heap), cG D (cat (N + 1) (cat N ad (fun _ => q)) r) (N + 1 + M) A H0 H1 locs (cat (N + 1) (cat N S (fun _ => .inl (cA, M, .inr (.inr (.inr (.inr (fun i => if i < M then some (r i) else none))))))) (fun _ => .inl (cy, z))) → W p l e R s m args below meth c H1 locs (cells + 1 + M) (slots + M + M * K) Q (F0 m (pc + 4) ls (.ref q :: rest))) : W p l e R s m args below meth c H locs cells slots Q (F0 m pc ls (.int k :: .int n :: rest)) := by
  subst hn
  subst hk
  have e0 : cW ad N S ++ va_pl [] (fun _ => .inr (0, [])) = cW ad N S := List.append_nil _
  refine va_mna (X := cW ad N S) (L := []) (f := fun _ => .inr (0, [])) (K' := K) (N' := M) (z := z) E.1 E.2.1 E.2.2.2.1 (E.2.2.1 _ h1) ho (E.2.2.1 _ h2) hcy E.2.2.2.2 (by rw [e0]; exact G.1) (by rw [e0]; exact G.2.1) G.2.2 hA (nI_pos (by omega)) (nI_pos (by omega)) (nI_clamp (by omega)) (nI_clamp (by omega)) (by omega) hb2 (by omega) hdf hdd hcells hslots hz hdg (fun q r cB H1 hi hl k1 g1 g2 g3 => ?_)
  have e : cB = cA := Option.some.inj ((show s.vm.findClass ("[" ++ (FieldType.array ty).toString) = some cB from (k1.2 tys.length (cB, .array ty) (by rw [List.getElem?_append_right (Nat.le_refl _), Nat.sub_self]; rfl)).2).symm.trans (show s.vm.findClass ("[" ++ (FieldType.array ty).toString) = some cA from (E.2.2.2.2.2 t0 _ ht).2))
  subst e
  rw [g_rows] at g1 g2
  have e1 : cW ad N S ++ [(q, (.inl (cB, M, .inr (.inr (.inr (.inr (fun i => if i < M then some (r i) else none))))) : va_E))] = cW (cat N ad (fun _ => q)) (N + 1) (cat N S (fun _ => .inl (cB, M, .inr (.inr (.inr (.inr (fun i => if i < M then some (r i) else none))))))) := cW_cat (b := fun _ => q) (M := 1) (T := fun _ => .inl (cB, M, .inr (.inr (.inr (.inr (fun i => if i < M then some (r i) else none))))))
  rw [e1, cW_cat] at g1 g2
  exact kk q r H1 ⟨g1, g2, g3⟩
end CNG
end
