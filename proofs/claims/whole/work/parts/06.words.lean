/-! ===== the words that are used, by their places ===== -/
theorem t_1 : lw_tbl[1]? = some (.selects RX3 yX3_cartoonNumbered yX3_cartoonNumbered) := by decide +kernel
theorem t_2 : lw_tbl[2]? = some (.selects RX3 yX3_requireRoomForPiece yX3_requireRoomForPiece) := by decide +kernel
theorem t_3 : lw_tbl[3]? = some (.selects RX3 yX3_keepPiece yX3_keepPiece) := by decide +kernel
theorem t_4 : lw_tbl[4]? = some (.selects RX3 yX3_pieceNumbered yX3_pieceNumbered) := by decide +kernel
theorem t_5 : lw_tbl[5]? = some (.selects RX2 yX2_countInNextRow yX2_countInNextRow) := by decide +kernel
theorem t_6 : lw_tbl[6]? = some (.selects RX2 yX2_firstColumnOf yX2_firstColumnOf) := by decide +kernel
theorem t_7 : lw_tbl[7]? = some (.selects RX2 yX2_isSewnAhead yX2_isSewnAhead) := by decide +kernel
theorem t_8 : lw_tbl[8]? = some (.selects RX2 yX2_longestUnlikeAhead yX2_longestUnlikeAhead) := by decide +kernel
theorem t_9 : lw_tbl[9]? = some (.selects RX2 yX2_setSewnAhead yX2_setSewnAhead) := by decide +kernel
theorem t_10 : lw_tbl[10]? = some (.selects RX2 yX2_dim yX2_dim) := by decide +kernel
theorem t_11 : lw_tbl[11]? = some (.selects RX2 yX2_stain yX2_stain) := by decide +kernel
theorem t_12 : lw_tbl[12]? = some (.selects RX2 yX2_copyColumn yX2_copyColumn) := by decide +kernel
theorem t_13 : lw_tbl[13]? = some (.selects RX3 yX3_dropPiece yX3_dropPiece) := by decide +kernel
theorem t_14 : lw_tbl[14]? = some (.selects RX4 yX4_goes yX4_goes) := by decide +kernel
theorem t_15 : lw_tbl[15]? = some (.selects RX4 yX4_isCartoon yX4_isCartoon) := by decide +kernel
theorem t_16 : lw_tbl[16]? = some (.selects RX4 yX4_wovenOf yX4_wovenOf) := by decide +kernel
theorem t_17 : lw_tbl[17]? = some (.selects RX4 yX4_setsColumn yX4_setsColumn) := by decide +kernel
theorem t_18 : lw_tbl[18]? = some (.selects RX4 yX4_drawnAt yX4_drawnAt) := by decide +kernel
theorem t_19 : lw_tbl[19]? = some (.selects RX4 yX4_isPiece yX4_isPiece) := by decide +kernel
theorem t_20 : lw_tbl[20]? = some (.selects RX4 yX4_mayWeave yX4_mayWeave) := by decide +kernel
theorem t_21 : lw_tbl[21]? = some (.selects RX4 yX4_weaves yX4_weaves) := by decide +kernel
theorem t_22 : lw_tbl[22]? = some (.selects RX4 yX4_giver yX4_giver) := by decide +kernel
theorem t_23 : lw_tbl[23]? = some (.selects RX4 yX4_wovenIn yX4_wovenIn) := by decide +kernel
theorem t_24 : lw_tbl[24]? = some (.selects RX4 yX4_isDone yX4_isDone) := by decide +kernel
theorem t_25 : lw_tbl[25]? = some (.selects RX4 yX4_slits yX4_slits) := by decide +kernel
theorem t_26 : lw_tbl[26]? = some (.selects RX4 yX4_isSlit yX4_isSlit) := by decide +kernel
theorem t_27 : lw_tbl[27]? = some (.selects RX4 yX4_isUnlike yX4_isUnlike) := by decide +kernel
theorem t_28 : lw_tbl[28]? = some (.selects RX4 yX4_shades yX4_shades) := by decide +kernel
theorem t_29 : lw_tbl[29]? = some (.selects RX4 yX4_isInner yX4_isInner) := by decide +kernel
theorem t_30 : lw_tbl[30]? = some (.selects RX4 yX4_runs yX4_runs) := by decide +kernel
theorem t_31 : lw_tbl[31]? = some (.selects RX4 yX4_copies yX4_copies) := by decide +kernel
theorem t_32 : lw_tbl[32]? = some (.selects RX4 yX4_isRight yX4_isRight) := by decide +kernel
theorem t_33 : lw_tbl[33]? = some (.initialized RL) := by decide +kernel
theorem t_34 : lw_tbl[34]? = some (.initialized RX3) := by decide +kernel
theorem t_35 : lw_tbl[35]? = some (.initialized RX1) := by decide +kernel
theorem t_36 : lw_tbl[36]? = some (.initialized RX4) := by decide +kernel
theorem t_37 : lw_tbl[37]? = some (.initialized "java/lang/Throwable") := by decide +kernel
theorem t_38 : lw_tbl[38]? = some (.initialized "java/lang/Exception") := by decide +kernel
theorem t_39 : lw_tbl[39]? = some (.initialized "java/lang/RuntimeException") := by decide +kernel
theorem t_40 : lw_tbl[40]? = some (.initialized "java/lang/IllegalArgumentException") := by decide +kernel
theorem t_41 : lw_tbl[41]? = some (.initialized "java/lang/IllegalStateException") := by decide +kernel
theorem t_42 : lw_tbl[42]? = some (.initialized RX0) := by decide +kernel
theorem t_43 : lw_tbl[43]? = some (.initialized "java/lang/IndexOutOfBoundsException") := by decide +kernel
theorem t_44 : lw_tbl[44]? = some (.initialized RX2) := by decide +kernel
theorem t_45 : lw_tbl[45]? = some (.initialized "java/lang/Math") := by decide +kernel
theorem t_46 : lw_tbl[46]? = some (.classLink RL 8 RX3) := by decide +kernel
theorem t_47 : lw_tbl[47]? = some (.instantiable RX3 8) := by decide +kernel
theorem t_48 : lw_tbl[48]? = some (.methodLink RL 78 yX3_init) := by decide +kernel
theorem t_49 : lw_tbl[49]? = some (.instanceMethod yX3_init) := by decide +kernel
theorem t_50 : lw_tbl[50]? = some (.code yX3_init cX3_init 1 (none : Option FieldType)) := by decide +kernel
theorem t_51 : lw_tbl[51]? = some (.methodLink RX3 1 ⟨"java/lang/Object", "<init>", "()V"⟩) := by decide +kernel
theorem t_52 : lw_tbl[52]? = some (.instanceMethod ⟨"java/lang/Object", "<init>", "()V"⟩) := by decide +kernel
theorem t_53 : lw_tbl[53]? = some (.code ⟨"java/lang/Object", "<init>", "()V"⟩ object_method_1_code 1 (none : Option FieldType)) := by decide +kernel
theorem t_54 : lw_tbl[54]? = some (.classLink RX3 17 RX0) := by decide +kernel
theorem t_56 : lw_tbl[56]? = some (.classLink RX3 26 RX1) := by decide +kernel
theorem t_57 : lw_tbl[57]? = some (.instantiable RX1 6) := by decide +kernel
theorem t_58 : lw_tbl[58]? = some (.methodLink RX3 28 yX1_init) := by decide +kernel
theorem t_59 : lw_tbl[59]? = some (.instanceMethod yX1_init) := by decide +kernel
theorem t_60 : lw_tbl[60]? = some (.code yX1_init cX1_init 1 (none : Option FieldType)) := by decide +kernel
theorem t_61 : lw_tbl[61]? = some (.methodLink RX1 3 ⟨"java/lang/Object", "<init>", "()V"⟩) := by decide +kernel
theorem t_62 : lw_tbl[62]? = some (.fieldLink RX1 9 RX1 "count" "I") := by decide +kernel
theorem t_63 : lw_tbl[63]? = some (.fieldLink RX1 15 RX1 "colours" "[I") := by decide +kernel
theorem t_64 : lw_tbl[64]? = some (.fieldLink RX1 19 RX1 "threadsAtFirst" "[I") := by decide +kernel
theorem t_65 : lw_tbl[65]? = some (.fieldLink RX1 22 RX1 "threadsLeft" "[I") := by decide +kernel
theorem t_66 : lw_tbl[66]? = some (.fieldLink RX1 25 RX1 "fades" "[I") := by decide +kernel
theorem t_67 : lw_tbl[67]? = some (.fieldLink RX1 28 RX1 "bleeding" "[Z") := by decide +kernel
theorem t_83 : lw_tbl[83]? = some (.classLink RX3 33 RX2) := by decide +kernel
theorem t_85 : lw_tbl[85]? = some (.fieldLink RX3 9 RX3 "word" "[I") := by decide +kernel
theorem t_86 : lw_tbl[86]? = some (.fieldLink RX3 13 RX3 "wordLength" "I") := by decide +kernel
theorem t_87 : lw_tbl[87]? = some (.fieldLink RX3 19 RX3 "cartoons" "[LWeftHouse$Cartoon;") := by decide +kernel
theorem t_88 : lw_tbl[88]? = some (.fieldLink RX3 23 RX3 "cartoonCount" "I") := by decide +kernel
theorem t_89 : lw_tbl[89]? = some (.fieldLink RX3 29 RX3 "lots" "LWeftHouse$Lots;") := by decide +kernel
theorem t_90 : lw_tbl[90]? = some (.fieldLink RX3 35 RX3 "pieces" "[LWeftHouse$Piece;") := by decide +kernel
theorem t_91 : lw_tbl[91]? = some (.fieldLink RX3 39 RX3 "pieceCount" "I") := by decide +kernel
theorem t_92 : lw_tbl[92]? = some (.fieldLink RX3 42 RX3 "threadsByLot" "[I") := by decide +kernel
theorem t_110 : lw_tbl[110]? = some (.methodLink RL 92 yX3_empty) := by decide +kernel
theorem t_111 : lw_tbl[111]? = some (.instanceMethod yX3_empty) := by decide +kernel
theorem t_112 : lw_tbl[112]? = some (.selects RX3 yX3_empty yX3_empty) := by decide +kernel
theorem t_113 : lw_tbl[113]? = some (.code yX3_empty cX3_empty 2 (some FieldType.int)) := by decide +kernel
theorem t_114 : lw_tbl[114]? = some (.methodLink RL 114 yX3_gold) := by decide +kernel
theorem t_115 : lw_tbl[115]? = some (.instanceMethod yX3_gold) := by decide +kernel
theorem t_116 : lw_tbl[116]? = some (.selects RX3 yX3_gold yX3_gold) := by decide +kernel
theorem t_117 : lw_tbl[117]? = some (.code yX3_gold cX3_gold 4 (some FieldType.int)) := by decide +kernel
theorem t_118 : lw_tbl[118]? = some (.methodLink RX3 120 yX2_countWovenOf) := by decide +kernel
theorem t_119 : lw_tbl[119]? = some (.instanceMethod yX2_countWovenOf) := by decide +kernel
theorem t_120 : lw_tbl[120]? = some (.selects RX2 yX2_countWovenOf yX2_countWovenOf) := by decide +kernel
theorem t_121 : lw_tbl[121]? = some (.code yX2_countWovenOf cX2_countWovenOf 5 (some FieldType.int)) := by decide +kernel
theorem t_122 : lw_tbl[122]? = some (.methodLink RX2 82 yX2_lotAt) := by decide +kernel
theorem t_123 : lw_tbl[123]? = some (.instanceMethod yX2_lotAt) := by decide +kernel
theorem t_124 : lw_tbl[124]? = some (.selects RX2 yX2_lotAt yX2_lotAt) := by decide +kernel
theorem t_125 : lw_tbl[125]? = some (.code yX2_lotAt cX2_lotAt 3 (some FieldType.int)) := by decide +kernel
theorem t_126 : lw_tbl[126]? = some (.methodLink RX2 41 yX2_placeOf) := by decide +kernel
theorem t_127 : lw_tbl[127]? = some (.static yX2_placeOf) := by decide +kernel
theorem t_128 : lw_tbl[128]? = some (.code yX2_placeOf cX2_placeOf 2 (some FieldType.int)) := by decide +kernel
theorem t_129 : lw_tbl[129]? = some (.methodLinkNest RX2 45 yX3_valueAt RX3) := by decide +kernel
theorem t_130 : lw_tbl[130]? = some (.static yX3_valueAt) := by decide +kernel
theorem t_131 : lw_tbl[131]? = some (.code yX3_valueAt cX3_valueAt 2 (some FieldType.int)) := by decide +kernel
theorem t_132 : lw_tbl[132]? = some (.methodLink RX2 77 yX2_colourAt) := by decide +kernel
theorem t_133 : lw_tbl[133]? = some (.instanceMethod yX2_colourAt) := by decide +kernel
theorem t_134 : lw_tbl[134]? = some (.selects RX2 yX2_colourAt yX2_colourAt) := by decide +kernel
theorem t_135 : lw_tbl[135]? = some (.code yX2_colourAt cX2_colourAt 3 (some FieldType.int)) := by decide +kernel
theorem t_136 : lw_tbl[136]? = some (.methodLink RL 157 yX3_balances) := by decide +kernel
theorem t_137 : lw_tbl[137]? = some (.instanceMethod yX3_balances) := by decide +kernel
theorem t_138 : lw_tbl[138]? = some (.selects RX3 yX3_balances yX3_balances) := by decide +kernel
theorem t_139 : lw_tbl[139]? = some (.code yX3_balances cX3_balances 3 (some FieldType.boolean)) := by decide +kernel
theorem t_140 : lw_tbl[140]? = some (.methodLink RX3 264 yX2_addThreadsTo) := by decide +kernel
theorem t_141 : lw_tbl[141]? = some (.instanceMethod yX2_addThreadsTo) := by decide +kernel
theorem t_142 : lw_tbl[142]? = some (.selects RX2 yX2_addThreadsTo yX2_addThreadsTo) := by decide +kernel
theorem t_143 : lw_tbl[143]? = some (.code yX2_addThreadsTo cX2_addThreadsTo 5 (none : Option FieldType)) := by decide +kernel
theorem t_144 : lw_tbl[144]? = some (.methodLinkNest RX2 57 yX3_setAt RX3) := by decide +kernel
theorem t_145 : lw_tbl[145]? = some (.static yX3_setAt) := by decide +kernel
theorem t_146 : lw_tbl[146]? = some (.code yX3_setAt cX3_setAt 3 (none : Option FieldType)) := by decide +kernel
theorem t_147 : lw_tbl[147]? = some (.methodLink RX3 267 yX1_threadsGivenBy) := by decide +kernel
theorem t_148 : lw_tbl[148]? = some (.instanceMethod yX1_threadsGivenBy) := by decide +kernel
theorem t_149 : lw_tbl[149]? = some (.selects RX1 yX1_threadsGivenBy yX1_threadsGivenBy) := by decide +kernel
theorem t_150 : lw_tbl[150]? = some (.code yX1_threadsGivenBy cX1_threadsGivenBy 2 (some FieldType.int)) := by decide +kernel
theorem t_151 : lw_tbl[151]? = some (.methodLinkNest RX1 36 yX3_valueAt RX3) := by decide +kernel
theorem t_152 : lw_tbl[152]? = some (.methodLink RL 82 yL_type) := by decide +kernel
theorem t_153 : lw_tbl[153]? = some (.static yL_type) := by decide +kernel
theorem t_154 : lw_tbl[154]? = some (.codeWith yL_type cL_type 4 (some FieldType.int) [(0, 9, 12, 13), (0, 9, 15, 15)]) := by decide +kernel
theorem t_155 : lw_tbl[155]? = some (.classLink RL 13 "java/lang/IllegalArgumentException") := by decide +kernel
theorem t_156 : lw_tbl[156]? = some (.classLink RL 15 "java/lang/IllegalStateException") := by decide +kernel
theorem t_157 : lw_tbl[157]? = some (.methodLink RL 7 yX3_type) := by decide +kernel
theorem t_158 : lw_tbl[158]? = some (.instanceMethod yX3_type) := by decide +kernel
theorem t_159 : lw_tbl[159]? = some (.selects RX3 yX3_type yX3_type) := by decide +kernel
theorem t_160 : lw_tbl[160]? = some (.code yX3_type cX3_type 3 (some FieldType.int)) := by decide +kernel
theorem t_161 : lw_tbl[161]? = some (.methodLink RX3 45 yX3_signOf) := by decide +kernel
theorem t_162 : lw_tbl[162]? = some (.static yX3_signOf) := by decide +kernel
theorem t_163 : lw_tbl[163]? = some (.code yX3_signOf cX3_signOf 1 (some FieldType.int)) := by decide +kernel
theorem t_164 : lw_tbl[164]? = some (.classLink RX3 49 "java/lang/IllegalArgumentException") := by decide +kernel
theorem t_165 : lw_tbl[165]? = some (.instantiable "java/lang/IllegalArgumentException" 6) := by decide +kernel
theorem t_166 : lw_tbl[166]? = some (.castable "java/lang/IllegalArgumentException" "java/lang/IllegalArgumentException") := by decide +kernel
theorem t_185 : lw_tbl[185]? = some (.fieldLink "java/lang/Throwable" 198 "java/lang/Throwable" "backtrace" "Ljava/lang/Object;") := by decide +kernel
theorem t_187 : lw_tbl[187]? = some (.instanceMethod ⟨"java/lang/Throwable", "<init>", "()V"⟩) := by decide +kernel
theorem t_188 : lw_tbl[188]? = some (.code ⟨"java/lang/Throwable", "<init>", "()V"⟩ prog_14_method_1_code 1 (none : Option FieldType)) := by decide +kernel
theorem t_189 : lw_tbl[189]? = some (.methodLink "java/lang/Throwable" 1 ⟨"java/lang/Object", "<init>", "()V"⟩) := by decide +kernel
theorem t_190 : lw_tbl[190]? = some (.fieldLink "java/lang/Throwable" 13 "java/lang/Throwable" "UNASSIGNED_STACK" "[Ljava/lang/StackTraceElement;") := by decide +kernel
theorem t_192 : lw_tbl[192]? = some (.fieldLink "java/lang/Throwable" 20 "java/lang/Throwable" "SUPPRESSED_SENTINEL" "Ljava/util/List;") := by decide +kernel
theorem t_203 : lw_tbl[203]? = some (.instantiable "java/lang/Throwable" 6) := by decide +kernel
theorem t_205 : lw_tbl[205]? = some (.stringRef RX3 51 "no such letter") := by decide +kernel
theorem t_218 : lw_tbl[218]? = some (.fieldLink "java/lang/Throwable" 198 "java/lang/Throwable" "backtrace" "Ljava/lang/Object;") := by decide +kernel
theorem t_219 : lw_tbl[219]? = some (.fieldLink "java/lang/Throwable" 31 "java/lang/Throwable" "detailMessage" "Ljava/lang/String;") := by decide +kernel
theorem t_220 : lw_tbl[220]? = some (.fieldLink "java/lang/Throwable" 7 "java/lang/Throwable" "cause" "Ljava/lang/Throwable;") := by decide +kernel
theorem t_221 : lw_tbl[221]? = some (.fieldLink "java/lang/Throwable" 17 "java/lang/Throwable" "stackTrace" "[Ljava/lang/StackTraceElement;") := by decide +kernel
theorem t_222 : lw_tbl[222]? = some (.fieldLink "java/lang/Throwable" 24 "java/lang/Throwable" "suppressedExceptions" "Ljava/util/List;") := by decide +kernel
theorem t_232 : lw_tbl[232]? = some (.classLink RX3 56 "java/lang/IllegalStateException") := by decide +kernel
theorem t_233 : lw_tbl[233]? = some (.instantiable "java/lang/IllegalStateException" 6) := by decide +kernel
theorem t_234 : lw_tbl[234]? = some (.castable "java/lang/IllegalStateException" "java/lang/IllegalStateException") := by decide +kernel
theorem t_241 : lw_tbl[241]? = some (.stringRef RX3 58 "the word is full") := by decide +kernel
theorem t_248 : lw_tbl[248]? = some (.methodLink RX3 61 yX3_setAt) := by decide +kernel
theorem t_249 : lw_tbl[249]? = some (.methodLink RL 96 yL_cartoon) := by decide +kernel
theorem t_250 : lw_tbl[250]? = some (.static yL_cartoon) := by decide +kernel
theorem t_251 : lw_tbl[251]? = some (.codeWith yL_cartoon cL_cartoon 4 (some FieldType.int) [(0, 9, 12, 13), (0, 9, 15, 15)]) := by decide +kernel
theorem t_252 : lw_tbl[252]? = some (.methodLink RL 17 yX3_cartoon) := by decide +kernel
theorem t_253 : lw_tbl[253]? = some (.instanceMethod yX3_cartoon) := by decide +kernel
theorem t_254 : lw_tbl[254]? = some (.selects RX3 yX3_cartoon yX3_cartoon) := by decide +kernel
theorem t_255 : lw_tbl[255]? = some (.code yX3_cartoon cX3_cartoon 3 (some FieldType.int)) := by decide +kernel
theorem t_256 : lw_tbl[256]? = some (.stringRef RX3 65 "the width is out of its range") := by decide +kernel
theorem t_257 : lw_tbl[257]? = some (.stringRef RX3 67 "there are as many cartoons as there can be") := by decide +kernel
theorem t_258 : lw_tbl[258]? = some (.instantiable RX0 5) := by decide +kernel
theorem t_259 : lw_tbl[259]? = some (.methodLink RX3 69 yX0_init) := by decide +kernel
theorem t_260 : lw_tbl[260]? = some (.instanceMethod yX0_init) := by decide +kernel
theorem t_261 : lw_tbl[261]? = some (.code yX0_init cX0_init 2 (none : Option FieldType)) := by decide +kernel
theorem t_262 : lw_tbl[262]? = some (.methodLink RX0 3 ⟨"java/lang/Object", "<init>", "()V"⟩) := by decide +kernel
theorem t_263 : lw_tbl[263]? = some (.fieldLink RX0 25 RX0 "width" "I") := by decide +kernel
theorem t_264 : lw_tbl[264]? = some (.fieldLink RX0 9 RX0 "height" "I") := by decide +kernel
theorem t_265 : lw_tbl[265]? = some (.fieldLink RX0 15 RX0 "signs" "[I") := by decide +kernel
theorem t_266 : lw_tbl[266]? = some (.fieldLink RX0 19 RX0 "firstHatching" "I") := by decide +kernel
theorem t_267 : lw_tbl[267]? = some (.fieldLink RX0 22 RX0 "secondHatching" "I") := by decide +kernel
theorem t_279 : lw_tbl[279]? = some (.methodLink RL 100 yL_row) := by decide +kernel
theorem t_280 : lw_tbl[280]? = some (.static yL_row) := by decide +kernel
theorem t_281 : lw_tbl[281]? = some (.codeWith yL_row cL_row 4 (some FieldType.int) [(0, 9, 12, 24), (0, 9, 15, 15)]) := by decide +kernel
theorem t_282 : lw_tbl[282]? = some (.classLink RL 24 "java/lang/IndexOutOfBoundsException") := by decide +kernel
theorem t_283 : lw_tbl[283]? = some (.methodLink RL 21 yX3_row) := by decide +kernel
theorem t_284 : lw_tbl[284]? = some (.instanceMethod yX3_row) := by decide +kernel
theorem t_285 : lw_tbl[285]? = some (.selects RX3 yX3_row yX3_row) := by decide +kernel
theorem t_286 : lw_tbl[286]? = some (.code yX3_row cX3_row 3 (some FieldType.int)) := by decide +kernel
theorem t_287 : lw_tbl[287]? = some (.methodLink RX3 72 yX3_cartoonNumbered) := by decide +kernel
theorem t_289 : lw_tbl[289]? = some (.instanceMethod yX3_cartoonNumbered) := by decide +kernel
theorem t_290 : lw_tbl[290]? = some (.code yX3_cartoonNumbered cX3_cartoonNumbered 3 (some (FieldType.object "WeftHouse$Cartoon"))) := by decide +kernel
theorem t_291 : lw_tbl[291]? = some (.classLink RX3 111 "java/lang/IndexOutOfBoundsException") := by decide +kernel
theorem t_292 : lw_tbl[292]? = some (.instantiable "java/lang/IndexOutOfBoundsException" 6) := by decide +kernel
theorem t_293 : lw_tbl[293]? = some (.castable "java/lang/IndexOutOfBoundsException" "java/lang/IndexOutOfBoundsException") := by decide +kernel
theorem t_300 : lw_tbl[300]? = some (.stringRef RX3 270 "no such cartoon") := by decide +kernel
theorem t_307 : lw_tbl[307]? = some (.methodLink RX3 76 yX0_width) := by decide +kernel
theorem t_308 : lw_tbl[308]? = some (.instanceMethod yX0_width) := by decide +kernel
theorem t_309 : lw_tbl[309]? = some (.selects RX0 yX0_width yX0_width) := by decide +kernel
theorem t_310 : lw_tbl[310]? = some (.code yX0_width cX0_width 1 (some FieldType.int)) := by decide +kernel
theorem t_311 : lw_tbl[311]? = some (.stringRef RX3 80 "the word is not as long as the cartoon is wide") := by decide +kernel
theorem t_312 : lw_tbl[312]? = some (.methodLink RX3 82 yX0_height) := by decide +kernel
theorem t_313 : lw_tbl[313]? = some (.instanceMethod yX0_height) := by decide +kernel
theorem t_314 : lw_tbl[314]? = some (.selects RX0 yX0_height yX0_height) := by decide +kernel
theorem t_315 : lw_tbl[315]? = some (.code yX0_height cX0_height 1 (some FieldType.int)) := by decide +kernel
theorem t_316 : lw_tbl[316]? = some (.stringRef RX3 85 "the cartoon has as many rows as it can have") := by decide +kernel
theorem t_317 : lw_tbl[317]? = some (.methodLink RX3 87 yX0_addRow) := by decide +kernel
theorem t_318 : lw_tbl[318]? = some (.instanceMethod yX0_addRow) := by decide +kernel
theorem t_319 : lw_tbl[319]? = some (.selects RX0 yX0_addRow yX0_addRow) := by decide +kernel
theorem t_320 : lw_tbl[320]? = some (.code yX0_addRow cX0_addRow 3 (none : Option FieldType)) := by decide +kernel
theorem t_321 : lw_tbl[321]? = some (.methodLinkNest RX0 28 yX3_valueAt RX3) := by decide +kernel
theorem t_322 : lw_tbl[322]? = some (.methodLinkNest RX0 32 yX3_setAt RX3) := by decide +kernel
theorem t_323 : lw_tbl[323]? = some (.methodLink RL 103 yL_hatch) := by decide +kernel
theorem t_324 : lw_tbl[324]? = some (.static yL_hatch) := by decide +kernel
theorem t_325 : lw_tbl[325]? = some (.codeWith yL_hatch cL_hatch 5 (some FieldType.int) [(0, 7, 10, 24)]) := by decide +kernel
theorem t_326 : lw_tbl[326]? = some (.methodLink RL 26 yX3_hatch) := by decide +kernel
theorem t_327 : lw_tbl[327]? = some (.instanceMethod yX3_hatch) := by decide +kernel
theorem t_328 : lw_tbl[328]? = some (.selects RX3 yX3_hatch yX3_hatch) := by decide +kernel
theorem t_329 : lw_tbl[329]? = some (.code yX3_hatch cX3_hatch 5 (none : Option FieldType)) := by decide +kernel
theorem t_330 : lw_tbl[330]? = some (.methodLink RX3 91 yX3_requireColour) := by decide +kernel
theorem t_331 : lw_tbl[331]? = some (.static yX3_requireColour) := by decide +kernel
theorem t_332 : lw_tbl[332]? = some (.code yX3_requireColour cX3_requireColour 1 (none : Option FieldType)) := by decide +kernel
theorem t_333 : lw_tbl[333]? = some (.stringRef RX3 274 "no such colour") := by decide +kernel
theorem t_334 : lw_tbl[334]? = some (.methodLink RX3 94 yX0_hatchBetween) := by decide +kernel
theorem t_335 : lw_tbl[335]? = some (.instanceMethod yX0_hatchBetween) := by decide +kernel
theorem t_336 : lw_tbl[336]? = some (.selects RX0 yX0_hatchBetween yX0_hatchBetween) := by decide +kernel
theorem t_337 : lw_tbl[337]? = some (.code yX0_hatchBetween cX0_hatchBetween 3 (none : Option FieldType)) := by decide +kernel
theorem t_338 : lw_tbl[338]? = some (.methodLink RL 107 yL_dye) := by decide +kernel
theorem t_339 : lw_tbl[339]? = some (.static yL_dye) := by decide +kernel
theorem t_340 : lw_tbl[340]? = some (.codeWith yL_dye cL_dye 7 (some FieldType.int) [(0, 14, 17, 24), (0, 14, 21, 13), (0, 14, 25, 15)]) := by decide +kernel
theorem t_341 : lw_tbl[341]? = some (.methodLink RL 30 yX3_dye) := by decide +kernel
theorem t_342 : lw_tbl[342]? = some (.instanceMethod yX3_dye) := by decide +kernel
theorem t_343 : lw_tbl[343]? = some (.selects RX3 yX3_dye yX3_dye) := by decide +kernel
theorem t_344 : lw_tbl[344]? = some (.code yX3_dye cX3_dye 5 (some FieldType.int)) := by decide +kernel
theorem t_345 : lw_tbl[345]? = some (.stringRef RX3 98 "the threads are out of their range") := by decide +kernel
theorem t_346 : lw_tbl[346]? = some (.stringRef RX3 100 "the fade is out of its range") := by decide +kernel
theorem t_347 : lw_tbl[347]? = some (.methodLink RX3 102 yX1_count) := by decide +kernel
theorem t_348 : lw_tbl[348]? = some (.instanceMethod yX1_count) := by decide +kernel
theorem t_349 : lw_tbl[349]? = some (.selects RX1 yX1_count yX1_count) := by decide +kernel
theorem t_350 : lw_tbl[350]? = some (.code yX1_count cX1_count 1 (some FieldType.int)) := by decide +kernel
theorem t_351 : lw_tbl[351]? = some (.stringRef RX3 105 "there are as many lots as there can be") := by decide +kernel
theorem t_352 : lw_tbl[352]? = some (.methodLink RX3 107 yX1_add) := by decide +kernel
theorem t_353 : lw_tbl[353]? = some (.instanceMethod yX1_add) := by decide +kernel
theorem t_354 : lw_tbl[354]? = some (.selects RX1 yX1_add yX1_add) := by decide +kernel
theorem t_355 : lw_tbl[355]? = some (.code yX1_add cX1_add 6 (some FieldType.int)) := by decide +kernel
theorem t_356 : lw_tbl[356]? = some (.methodLinkNest RX1 32 yX3_setAt RX3) := by decide +kernel
theorem t_357 : lw_tbl[357]? = some (.methodLink RL 111 yL_left) := by decide +kernel
theorem t_358 : lw_tbl[358]? = some (.static yL_left) := by decide +kernel
theorem t_359 : lw_tbl[359]? = some (.codeWith yL_left cL_left 4 (some FieldType.int) [(0, 9, 12, 24)]) := by decide +kernel
theorem t_360 : lw_tbl[360]? = some (.methodLink RL 34 yX3_left) := by decide +kernel
theorem t_361 : lw_tbl[361]? = some (.instanceMethod yX3_left) := by decide +kernel
theorem t_362 : lw_tbl[362]? = some (.selects RX3 yX3_left yX3_left) := by decide +kernel
theorem t_363 : lw_tbl[363]? = some (.code yX3_left cX3_left 2 (some FieldType.int)) := by decide +kernel
theorem t_364 : lw_tbl[364]? = some (.stringRef RX3 113 "no such lot") := by decide +kernel
theorem t_365 : lw_tbl[365]? = some (.methodLink RX3 116 yX1_threadsIn) := by decide +kernel
theorem t_366 : lw_tbl[366]? = some (.instanceMethod yX1_threadsIn) := by decide +kernel
theorem t_367 : lw_tbl[367]? = some (.selects RX1 yX1_threadsIn yX1_threadsIn) := by decide +kernel
theorem t_368 : lw_tbl[368]? = some (.code yX1_threadsIn cX1_threadsIn 2 (some FieldType.int)) := by decide +kernel
theorem t_369 : lw_tbl[369]? = some (.methodLink RL 118 yL_loom) := by decide +kernel
theorem t_370 : lw_tbl[370]? = some (.static yL_loom) := by decide +kernel
theorem t_371 : lw_tbl[371]? = some (.codeWith yL_loom cL_loom 6 (some FieldType.int) [(0, 12, 15, 24), (0, 12, 19, 13), (0, 12, 23, 15)]) := by decide +kernel
theorem t_372 : lw_tbl[372]? = some (.methodLink RL 37 yX3_loom) := by decide +kernel
theorem t_373 : lw_tbl[373]? = some (.instanceMethod yX3_loom) := by decide +kernel
theorem t_374 : lw_tbl[374]? = some (.selects RX3 yX3_loom yX3_loom) := by decide +kernel
theorem t_375 : lw_tbl[375]? = some (.code yX3_loom cX3_loom 6 (some FieldType.int)) := by decide +kernel
theorem t_376 : lw_tbl[376]? = some (.stringRef RX3 123 "the weavers are out of their range") := by decide +kernel
theorem t_377 : lw_tbl[377]? = some (.stringRef RX3 125 "the cartoon has no row") := by decide +kernel
theorem t_378 : lw_tbl[378]? = some (.methodLink RX3 127 yX3_requireRoomForPiece) := by decide +kernel
theorem t_380 : lw_tbl[380]? = some (.instanceMethod yX3_requireRoomForPiece) := by decide +kernel
theorem t_381 : lw_tbl[381]? = some (.code yX3_requireRoomForPiece cX3_requireRoomForPiece 1 (none : Option FieldType)) := by decide +kernel
theorem t_382 : lw_tbl[382]? = some (.stringRef RX3 282 "there were as many pieces as there can be") := by decide +kernel
theorem t_383 : lw_tbl[383]? = some (.instantiable RX2 9) := by decide +kernel
theorem t_384 : lw_tbl[384]? = some (.methodLink RX3 130 yX2_init) := by decide +kernel
theorem t_385 : lw_tbl[385]? = some (.instanceMethod yX2_init) := by decide +kernel
theorem t_386 : lw_tbl[386]? = some (.code yX2_init cX2_init 3 (none : Option FieldType)) := by decide +kernel
theorem t_387 : lw_tbl[387]? = some (.methodLink RX2 3 ⟨"java/lang/Object", "<init>", "()V"⟩) := by decide +kernel
theorem t_388 : lw_tbl[388]? = some (.fieldLink RX2 9 RX2 "width" "I") := by decide +kernel
theorem t_389 : lw_tbl[389]? = some (.fieldLink RX2 35 RX2 "height" "I") := by decide +kernel
theorem t_390 : lw_tbl[390]? = some (.fieldLink RX2 38 RX2 "weavers" "I") := by decide +kernel
theorem t_391 : lw_tbl[391]? = some (.fieldLink RX2 15 RX2 "rowsWoven" "[I") := by decide +kernel
theorem t_392 : lw_tbl[392]? = some (.fieldLink RX2 19 RX2 "colours" "[I") := by decide +kernel
theorem t_393 : lw_tbl[393]? = some (.fieldLink RX2 22 RX2 "lotNumbers" "[I") := by decide +kernel
theorem t_394 : lw_tbl[394]? = some (.fieldLink RX2 25 RX2 "shades" "[I") := by decide +kernel
theorem t_395 : lw_tbl[395]? = some (.fieldLink RX2 28 RX2 "origins" "[I") := by decide +kernel
theorem t_396 : lw_tbl[396]? = some (.fieldLink RX2 31 RX2 "sewnAhead" "[Z") := by decide +kernel
theorem t_416 : lw_tbl[416]? = some (.methodLink RX3 132 yX2_drawFrom) := by decide +kernel
theorem t_417 : lw_tbl[417]? = some (.instanceMethod yX2_drawFrom) := by decide +kernel
theorem t_418 : lw_tbl[418]? = some (.selects RX2 yX2_drawFrom yX2_drawFrom) := by decide +kernel
theorem t_419 : lw_tbl[419]? = some (.code yX2_drawFrom cX2_drawFrom 6 (none : Option FieldType)) := by decide +kernel
theorem t_420 : lw_tbl[420]? = some (.methodLink RX2 49 yX0_width) := by decide +kernel
theorem t_421 : lw_tbl[421]? = some (.methodLink RX2 54 yX2_originOf) := by decide +kernel
theorem t_422 : lw_tbl[422]? = some (.static yX2_originOf) := by decide +kernel
theorem t_423 : lw_tbl[423]? = some (.code yX2_originOf cX2_originOf 2 (some FieldType.int)) := by decide +kernel
theorem t_424 : lw_tbl[424]? = some (.methodLink RX2 61 yX0_colourAt) := by decide +kernel
theorem t_425 : lw_tbl[425]? = some (.instanceMethod yX0_colourAt) := by decide +kernel
theorem t_426 : lw_tbl[426]? = some (.selects RX0 yX0_colourAt yX0_colourAt) := by decide +kernel
theorem t_427 : lw_tbl[427]? = some (.code yX0_colourAt cX0_colourAt 6 (some FieldType.int)) := by decide +kernel
theorem t_428 : lw_tbl[428]? = some (.methodLink RX3 136 yX3_keepPiece) := by decide +kernel
theorem t_430 : lw_tbl[430]? = some (.instanceMethod yX3_keepPiece) := by decide +kernel
theorem t_431 : lw_tbl[431]? = some (.code yX3_keepPiece cX3_keepPiece 3 (some FieldType.int)) := by decide +kernel
theorem t_432 : lw_tbl[432]? = some (.methodLink RL 122 yL_weave) := by decide +kernel
theorem t_433 : lw_tbl[433]? = some (.static yL_weave) := by decide +kernel
theorem t_434 : lw_tbl[434]? = some (.codeWith yL_weave cL_weave 5 (some FieldType.int) [(0, 10, 13, 24), (0, 10, 17, 15)]) := by decide +kernel
theorem t_435 : lw_tbl[435]? = some (.methodLink RL 41 yX3_weave) := by decide +kernel
theorem t_436 : lw_tbl[436]? = some (.instanceMethod yX3_weave) := by decide +kernel
theorem t_437 : lw_tbl[437]? = some (.selects RX3 yX3_weave yX3_weave) := by decide +kernel
theorem t_438 : lw_tbl[438]? = some (.code yX3_weave cX3_weave 4 (some FieldType.int)) := by decide +kernel
theorem t_439 : lw_tbl[439]? = some (.methodLink RX3 140 yX3_pieceNumbered) := by decide +kernel
theorem t_441 : lw_tbl[441]? = some (.instanceMethod yX3_pieceNumbered) := by decide +kernel
theorem t_442 : lw_tbl[442]? = some (.code yX3_pieceNumbered cX3_pieceNumbered 3 (some (FieldType.object "WeftHouse$Piece"))) := by decide +kernel
theorem t_443 : lw_tbl[443]? = some (.stringRef RX3 272 "no such piece") := by decide +kernel
theorem t_444 : lw_tbl[444]? = some (.methodLink RX3 144 yX2_weavers) := by decide +kernel
theorem t_445 : lw_tbl[445]? = some (.instanceMethod yX2_weavers) := by decide +kernel
theorem t_446 : lw_tbl[446]? = some (.selects RX2 yX2_weavers yX2_weavers) := by decide +kernel
theorem t_447 : lw_tbl[447]? = some (.code yX2_weavers cX2_weavers 1 (some FieldType.int)) := by decide +kernel
theorem t_448 : lw_tbl[448]? = some (.stringRef RX3 147 "no such weaver") := by decide +kernel
theorem t_449 : lw_tbl[449]? = some (.methodLink RX3 149 yX2_hasWovenAll) := by decide +kernel
theorem t_450 : lw_tbl[450]? = some (.instanceMethod yX2_hasWovenAll) := by decide +kernel
theorem t_451 : lw_tbl[451]? = some (.selects RX2 yX2_hasWovenAll yX2_hasWovenAll) := by decide +kernel
theorem t_452 : lw_tbl[452]? = some (.code yX2_hasWovenAll cX2_hasWovenAll 2 (some FieldType.boolean)) := by decide +kernel
theorem t_453 : lw_tbl[453]? = some (.stringRef RX3 153 "the weaver has woven all his rows") := by decide +kernel
theorem t_454 : lw_tbl[454]? = some (.methodLink RX3 155 yX2_isAboveNeighbour) := by decide +kernel
theorem t_455 : lw_tbl[455]? = some (.instanceMethod yX2_isAboveNeighbour) := by decide +kernel
theorem t_456 : lw_tbl[456]? = some (.selects RX2 yX2_isAboveNeighbour yX2_isAboveNeighbour) := by decide +kernel
theorem t_457 : lw_tbl[457]? = some (.code yX2_isAboveNeighbour cX2_isAboveNeighbour 5 (some FieldType.boolean)) := by decide +kernel
theorem t_458 : lw_tbl[458]? = some (.stringRef RX3 158 "a neighbour has woven less") := by decide +kernel
theorem t_459 : lw_tbl[459]? = some (.methodLink RX3 160 yX2_threadsSuffice) := by decide +kernel
theorem t_460 : lw_tbl[460]? = some (.instanceMethod yX2_threadsSuffice) := by decide +kernel
theorem t_461 : lw_tbl[461]? = some (.selects RX2 yX2_threadsSuffice yX2_threadsSuffice) := by decide +kernel
theorem t_462 : lw_tbl[462]? = some (.code yX2_threadsSuffice cX2_threadsSuffice 4 (some FieldType.boolean)) := by decide +kernel
theorem t_463 : lw_tbl[463]? = some (.methodLink RX2 65 yX2_countInNextRow) := by decide +kernel
theorem t_465 : lw_tbl[465]? = some (.instanceMethod yX2_countInNextRow) := by decide +kernel
theorem t_466 : lw_tbl[466]? = some (.code yX2_countInNextRow cX2_countInNextRow 7 (some FieldType.int)) := by decide +kernel
theorem t_467 : lw_tbl[467]? = some (.methodLink RX2 74 yX2_firstColumnOf) := by decide +kernel
theorem t_469 : lw_tbl[469]? = some (.instanceMethod yX2_firstColumnOf) := by decide +kernel
theorem t_470 : lw_tbl[470]? = some (.code yX2_firstColumnOf cX2_firstColumnOf 2 (some FieldType.int)) := by decide +kernel
theorem t_471 : lw_tbl[471]? = some (.methodLink RX2 68 yX1_threadsOfColour) := by decide +kernel
theorem t_472 : lw_tbl[472]? = some (.instanceMethod yX1_threadsOfColour) := by decide +kernel
theorem t_473 : lw_tbl[473]? = some (.selects RX1 yX1_threadsOfColour yX1_threadsOfColour) := by decide +kernel
theorem t_474 : lw_tbl[474]? = some (.code yX1_threadsOfColour cX1_threadsOfColour 4 (some FieldType.int)) := by decide +kernel
theorem t_475 : lw_tbl[475]? = some (.methodLink RX1 40 yX1_threadsIn) := by decide +kernel
theorem t_476 : lw_tbl[476]? = some (.stringRef RX3 164 "threads lack") := by decide +kernel
theorem t_477 : lw_tbl[477]? = some (.methodLink RX3 166 yX2_weaveRow) := by decide +kernel
theorem t_478 : lw_tbl[478]? = some (.instanceMethod yX2_weaveRow) := by decide +kernel
theorem t_479 : lw_tbl[479]? = some (.selects RX2 yX2_weaveRow yX2_weaveRow) := by decide +kernel
theorem t_480 : lw_tbl[480]? = some (.code yX2_weaveRow cX2_weaveRow 6 (some FieldType.int)) := by decide +kernel
theorem t_481 : lw_tbl[481]? = some (.methodLink RX2 79 yX1_takeThread) := by decide +kernel
theorem t_482 : lw_tbl[482]? = some (.instanceMethod yX1_takeThread) := by decide +kernel
theorem t_483 : lw_tbl[483]? = some (.selects RX1 yX1_takeThread yX1_takeThread) := by decide +kernel
theorem t_484 : lw_tbl[484]? = some (.code yX1_takeThread cX1_takeThread 4 (some FieldType.int)) := by decide +kernel
theorem t_485 : lw_tbl[485]? = some (.methodLink RL 126 yL_pieceIs) := by decide +kernel
theorem t_486 : lw_tbl[486]? = some (.static yL_pieceIs) := by decide +kernel
theorem t_487 : lw_tbl[487]? = some (.codeWith yL_pieceIs cL_pieceIs 5 (some FieldType.int) [(0, 10, 13, 24), (0, 10, 17, 13)]) := by decide +kernel
theorem t_488 : lw_tbl[488]? = some (.methodLink RL 45 yX3_pieceIs) := by decide +kernel
theorem t_489 : lw_tbl[489]? = some (.instanceMethod yX3_pieceIs) := by decide +kernel
theorem t_490 : lw_tbl[490]? = some (.selects RX3 yX3_pieceIs yX3_pieceIs) := by decide +kernel
theorem t_491 : lw_tbl[491]? = some (.code yX3_pieceIs cX3_pieceIs 4 (some FieldType.int)) := by decide +kernel
theorem t_492 : lw_tbl[492]? = some (.methodLink RX3 170 yX2_width) := by decide +kernel
theorem t_493 : lw_tbl[493]? = some (.instanceMethod yX2_width) := by decide +kernel
theorem t_494 : lw_tbl[494]? = some (.selects RX2 yX2_width yX2_width) := by decide +kernel
theorem t_495 : lw_tbl[495]? = some (.code yX2_width cX2_width 1 (some FieldType.int)) := by decide +kernel
theorem t_496 : lw_tbl[496]? = some (.methodLink RX3 171 yX2_height) := by decide +kernel
theorem t_497 : lw_tbl[497]? = some (.instanceMethod yX2_height) := by decide +kernel
theorem t_498 : lw_tbl[498]? = some (.selects RX2 yX2_height yX2_height) := by decide +kernel
theorem t_499 : lw_tbl[499]? = some (.code yX2_height cX2_height 1 (some FieldType.int)) := by decide +kernel
theorem t_500 : lw_tbl[500]? = some (.methodLink RX3 172 yX2_countWoven) := by decide +kernel
theorem t_501 : lw_tbl[501]? = some (.instanceMethod yX2_countWoven) := by decide +kernel
theorem t_502 : lw_tbl[502]? = some (.selects RX2 yX2_countWoven yX2_countWoven) := by decide +kernel
theorem t_503 : lw_tbl[503]? = some (.code yX2_countWoven cX2_countWoven 4 (some FieldType.int)) := by decide +kernel
theorem t_504 : lw_tbl[504]? = some (.methodLink RX3 175 yX2_isDone) := by decide +kernel
theorem t_505 : lw_tbl[505]? = some (.instanceMethod yX2_isDone) := by decide +kernel
theorem t_506 : lw_tbl[506]? = some (.selects RX2 yX2_isDone yX2_isDone) := by decide +kernel
theorem t_507 : lw_tbl[507]? = some (.code yX2_isDone cX2_isDone 1 (some FieldType.boolean)) := by decide +kernel
theorem t_508 : lw_tbl[508]? = some (.methodLink RX2 85 yX2_countWoven) := by decide +kernel
theorem t_509 : lw_tbl[509]? = some (.methodLink RX3 179 yX2_countSlits) := by decide +kernel
theorem t_510 : lw_tbl[510]? = some (.instanceMethod yX2_countSlits) := by decide +kernel
theorem t_511 : lw_tbl[511]? = some (.selects RX2 yX2_countSlits yX2_countSlits) := by decide +kernel
theorem t_512 : lw_tbl[512]? = some (.code yX2_countSlits cX2_countSlits 3 (some FieldType.int)) := by decide +kernel
theorem t_513 : lw_tbl[513]? = some (.methodLink RX2 91 yX2_hasSlitAhead) := by decide +kernel
theorem t_514 : lw_tbl[514]? = some (.instanceMethod yX2_hasSlitAhead) := by decide +kernel
theorem t_515 : lw_tbl[515]? = some (.selects RX2 yX2_hasSlitAhead yX2_hasSlitAhead) := by decide +kernel
theorem t_516 : lw_tbl[516]? = some (.code yX2_hasSlitAhead cX2_hasSlitAhead 2 (some FieldType.boolean)) := by decide +kernel
theorem t_517 : lw_tbl[517]? = some (.methodLink RX2 95 yX2_isSewnAhead) := by decide +kernel
theorem t_519 : lw_tbl[519]? = some (.instanceMethod yX2_isSewnAhead) := by decide +kernel
theorem t_520 : lw_tbl[520]? = some (.code yX2_isSewnAhead cX2_isSewnAhead 2 (some FieldType.boolean)) := by decide +kernel
theorem t_521 : lw_tbl[521]? = some (.methodLink RX2 98 yX2_longestUnlikeAhead) := by decide +kernel
theorem t_523 : lw_tbl[523]? = some (.instanceMethod yX2_longestUnlikeAhead) := by decide +kernel
theorem t_524 : lw_tbl[524]? = some (.code yX2_longestUnlikeAhead cX2_longestUnlikeAhead 6 (some FieldType.int)) := by decide +kernel
theorem t_525 : lw_tbl[525]? = some (.methodLink RX2 101 yJ9_max_7cf53) := by decide +kernel
theorem t_526 : lw_tbl[526]? = some (.static yJ9_max_7cf53) := by decide +kernel
theorem t_527 : lw_tbl[527]? = some (.code yJ9_max_7cf53 cJ9_max_7cf53 2 (some FieldType.int)) := by decide +kernel
theorem t_528 : lw_tbl[528]? = some (.methodLink RX3 182 yX2_sumOfShades) := by decide +kernel
theorem t_529 : lw_tbl[529]? = some (.instanceMethod yX2_sumOfShades) := by decide +kernel
theorem t_530 : lw_tbl[530]? = some (.selects RX2 yX2_sumOfShades yX2_sumOfShades) := by decide +kernel
theorem t_531 : lw_tbl[531]? = some (.code yX2_sumOfShades cX2_sumOfShades 4 (some FieldType.int)) := by decide +kernel
theorem t_532 : lw_tbl[532]? = some (.methodLink RX2 88 yX2_shadeAt) := by decide +kernel
theorem t_533 : lw_tbl[533]? = some (.instanceMethod yX2_shadeAt) := by decide +kernel
theorem t_534 : lw_tbl[534]? = some (.selects RX2 yX2_shadeAt yX2_shadeAt) := by decide +kernel
theorem t_535 : lw_tbl[535]? = some (.code yX2_shadeAt cX2_shadeAt 3 (some FieldType.int)) := by decide +kernel
theorem t_536 : lw_tbl[536]? = some (.stringRef RX3 185 "a piece is nothing of that number") := by decide +kernel
theorem t_537 : lw_tbl[537]? = some (.methodLink RL 129 yL_cell) := by decide +kernel
theorem t_538 : lw_tbl[538]? = some (.static yL_cell) := by decide +kernel
theorem t_539 : lw_tbl[539]? = some (.codeWith yL_cell cL_cell 7 (some FieldType.int) [(0, 14, 17, 24), (0, 14, 21, 13)]) := by decide +kernel
theorem t_540 : lw_tbl[540]? = some (.methodLink RL 48 yX3_cell) := by decide +kernel
theorem t_541 : lw_tbl[541]? = some (.instanceMethod yX3_cell) := by decide +kernel
theorem t_542 : lw_tbl[542]? = some (.selects RX3 yX3_cell yX3_cell) := by decide +kernel
theorem t_543 : lw_tbl[543]? = some (.code yX3_cell cX3_cell 6 (some FieldType.int)) := by decide +kernel
theorem t_544 : lw_tbl[544]? = some (.methodLink RX3 187 yX2_holds) := by decide +kernel
theorem t_545 : lw_tbl[545]? = some (.instanceMethod yX2_holds) := by decide +kernel
theorem t_546 : lw_tbl[546]? = some (.selects RX2 yX2_holds yX2_holds) := by decide +kernel
theorem t_547 : lw_tbl[547]? = some (.code yX2_holds cX2_holds 3 (some FieldType.boolean)) := by decide +kernel
theorem t_548 : lw_tbl[548]? = some (.stringRef RX3 191 "no such row or column") := by decide +kernel
theorem t_549 : lw_tbl[549]? = some (.methodLink RX3 193 yX2_colourAt) := by decide +kernel
theorem t_550 : lw_tbl[550]? = some (.methodLink RX3 197 yX2_lotAt) := by decide +kernel
theorem t_551 : lw_tbl[551]? = some (.methodLink RX3 200 yX2_shadeAt) := by decide +kernel
theorem t_552 : lw_tbl[552]? = some (.stringRef RX3 203 "a cell is nothing of that number") := by decide +kernel
theorem t_553 : lw_tbl[553]? = some (.methodLink RL 133 yL_sew) := by decide +kernel
theorem t_554 : lw_tbl[554]? = some (.static yL_sew) := by decide +kernel
theorem t_555 : lw_tbl[555]? = some (.codeWith yL_sew cL_sew 5 (some FieldType.int) [(0, 17, 20, 24), (0, 17, 24, 15)]) := by decide +kernel
theorem t_556 : lw_tbl[556]? = some (.methodLink RL 52 yX3_sew) := by decide +kernel
theorem t_557 : lw_tbl[557]? = some (.instanceMethod yX3_sew) := by decide +kernel
theorem t_558 : lw_tbl[558]? = some (.selects RX3 yX3_sew yX3_sew) := by decide +kernel
theorem t_559 : lw_tbl[559]? = some (.code yX3_sew cX3_sew 5 (some FieldType.boolean)) := by decide +kernel
theorem t_560 : lw_tbl[560]? = some (.methodLink RX3 205 yX3_requireSecondColumn) := by decide +kernel
theorem t_561 : lw_tbl[561]? = some (.static yX3_requireSecondColumn) := by decide +kernel
theorem t_562 : lw_tbl[562]? = some (.code yX3_requireSecondColumn cX3_requireSecondColumn 2 (none : Option FieldType)) := by decide +kernel
theorem t_563 : lw_tbl[563]? = some (.stringRef RX3 276 "no such column behind another one") := by decide +kernel
theorem t_564 : lw_tbl[564]? = some (.methodLink RX3 209 yX3_requireDone) := by decide +kernel
theorem t_565 : lw_tbl[565]? = some (.static yX3_requireDone) := by decide +kernel
theorem t_566 : lw_tbl[566]? = some (.code yX3_requireDone cX3_requireDone 1 (none : Option FieldType)) := by decide +kernel
theorem t_567 : lw_tbl[567]? = some (.stringRef RX3 278 "the piece is not done") := by decide +kernel
theorem t_568 : lw_tbl[568]? = some (.methodLink RX3 213 yX2_hasSlitAhead) := by decide +kernel
theorem t_569 : lw_tbl[569]? = some (.methodLink RX3 216 yX2_sewAhead) := by decide +kernel
theorem t_570 : lw_tbl[570]? = some (.instanceMethod yX2_sewAhead) := by decide +kernel
theorem t_571 : lw_tbl[571]? = some (.selects RX2 yX2_sewAhead yX2_sewAhead) := by decide +kernel
theorem t_572 : lw_tbl[572]? = some (.code yX2_sewAhead cX2_sewAhead 2 (none : Option FieldType)) := by decide +kernel
theorem t_573 : lw_tbl[573]? = some (.methodLink RX2 106 yX2_setSewnAhead) := by decide +kernel
theorem t_575 : lw_tbl[575]? = some (.instanceMethod yX2_setSewnAhead) := by decide +kernel
theorem t_576 : lw_tbl[576]? = some (.code yX2_setSewnAhead cX2_setSewnAhead 3 (none : Option FieldType)) := by decide +kernel
theorem t_577 : lw_tbl[577]? = some (.methodLink RL 136 yL_light) := by decide +kernel
theorem t_578 : lw_tbl[578]? = some (.static yL_light) := by decide +kernel
theorem t_579 : lw_tbl[579]? = some (.codeWith yL_light cL_light 5 (some FieldType.int) [(0, 10, 13, 24), (0, 10, 17, 13), (0, 10, 21, 15)]) := by decide +kernel
theorem t_580 : lw_tbl[580]? = some (.methodLink RL 56 yX3_light) := by decide +kernel
theorem t_581 : lw_tbl[581]? = some (.instanceMethod yX3_light) := by decide +kernel
theorem t_582 : lw_tbl[582]? = some (.selects RX3 yX3_light yX3_light) := by decide +kernel
theorem t_583 : lw_tbl[583]? = some (.code yX3_light cX3_light 4 (some FieldType.int)) := by decide +kernel
theorem t_584 : lw_tbl[584]? = some (.stringRef RX3 219 "the hours are out of their range") := by decide +kernel
theorem t_585 : lw_tbl[585]? = some (.methodLink RX3 221 yX2_fade) := by decide +kernel
theorem t_586 : lw_tbl[586]? = some (.instanceMethod yX2_fade) := by decide +kernel
theorem t_587 : lw_tbl[587]? = some (.selects RX2 yX2_fade yX2_fade) := by decide +kernel
theorem t_588 : lw_tbl[588]? = some (.code yX2_fade cX2_fade 5 (none : Option FieldType)) := by decide +kernel
theorem t_589 : lw_tbl[589]? = some (.methodLink RX2 110 yX1_fadeOf) := by decide +kernel
theorem t_590 : lw_tbl[590]? = some (.instanceMethod yX1_fadeOf) := by decide +kernel
theorem t_591 : lw_tbl[591]? = some (.selects RX1 yX1_fadeOf yX1_fadeOf) := by decide +kernel
theorem t_592 : lw_tbl[592]? = some (.code yX1_fadeOf cX1_fadeOf 2 (some FieldType.int)) := by decide +kernel
theorem t_593 : lw_tbl[593]? = some (.methodLink RX2 113 yX2_dim) := by decide +kernel
theorem t_595 : lw_tbl[595]? = some (.instanceMethod yX2_dim) := by decide +kernel
theorem t_596 : lw_tbl[596]? = some (.code yX2_dim cX2_dim 4 (none : Option FieldType)) := by decide +kernel
theorem t_597 : lw_tbl[597]? = some (.methodLink RL 139 yL_wash) := by decide +kernel
theorem t_598 : lw_tbl[598]? = some (.static yL_wash) := by decide +kernel
theorem t_599 : lw_tbl[599]? = some (.codeWith yL_wash cL_wash 4 (some FieldType.int) [(0, 9, 12, 24), (0, 9, 15, 15)]) := by decide +kernel
theorem t_600 : lw_tbl[600]? = some (.methodLink RL 59 yX3_wash) := by decide +kernel
theorem t_601 : lw_tbl[601]? = some (.instanceMethod yX3_wash) := by decide +kernel
theorem t_602 : lw_tbl[602]? = some (.selects RX3 yX3_wash yX3_wash) := by decide +kernel
theorem t_603 : lw_tbl[603]? = some (.code yX3_wash cX3_wash 3 (some FieldType.int)) := by decide +kernel
theorem t_604 : lw_tbl[604]? = some (.methodLink RX3 225 yX2_bleed) := by decide +kernel
theorem t_605 : lw_tbl[605]? = some (.instanceMethod yX2_bleed) := by decide +kernel
theorem t_606 : lw_tbl[606]? = some (.selects RX2 yX2_bleed yX2_bleed) := by decide +kernel
theorem t_607 : lw_tbl[607]? = some (.code yX2_bleed cX2_bleed 5 (none : Option FieldType)) := by decide +kernel
theorem t_608 : lw_tbl[608]? = some (.methodLink RX2 117 yX1_isBleeding) := by decide +kernel
theorem t_609 : lw_tbl[609]? = some (.instanceMethod yX1_isBleeding) := by decide +kernel
theorem t_610 : lw_tbl[610]? = some (.selects RX1 yX1_isBleeding yX1_isBleeding) := by decide +kernel
theorem t_611 : lw_tbl[611]? = some (.code yX1_isBleeding cX1_isBleeding 2 (some FieldType.boolean)) := by decide +kernel
theorem t_612 : lw_tbl[612]? = some (.methodLink RX2 120 yX2_stain) := by decide +kernel
theorem t_614 : lw_tbl[614]? = some (.instanceMethod yX2_stain) := by decide +kernel
theorem t_615 : lw_tbl[615]? = some (.code yX2_stain cX2_stain 4 (none : Option FieldType)) := by decide +kernel
theorem t_616 : lw_tbl[616]? = some (.methodLink RX2 123 yX2_holds) := by decide +kernel
theorem t_617 : lw_tbl[617]? = some (.methodLink RL 142 yL_cut) := by decide +kernel
theorem t_618 : lw_tbl[618]? = some (.static yL_cut) := by decide +kernel
theorem t_619 : lw_tbl[619]? = some (.codeWith yL_cut cL_cut 5 (some FieldType.int) [(0, 10, 13, 24), (0, 10, 17, 15)]) := by decide +kernel
theorem t_620 : lw_tbl[620]? = some (.methodLink RL 62 yX3_cut) := by decide +kernel
theorem t_621 : lw_tbl[621]? = some (.instanceMethod yX3_cut) := by decide +kernel
theorem t_622 : lw_tbl[622]? = some (.selects RX3 yX3_cut yX3_cut) := by decide +kernel
theorem t_623 : lw_tbl[623]? = some (.code yX3_cut cX3_cut 5 (some FieldType.int)) := by decide +kernel
theorem t_624 : lw_tbl[624]? = some (.methodLink RX3 229 yX2_append) := by decide +kernel
theorem t_625 : lw_tbl[625]? = some (.instanceMethod yX2_append) := by decide +kernel
theorem t_626 : lw_tbl[626]? = some (.selects RX2 yX2_append yX2_append) := by decide +kernel
theorem t_627 : lw_tbl[627]? = some (.code yX2_append cX2_append 4 (none : Option FieldType)) := by decide +kernel
theorem t_628 : lw_tbl[628]? = some (.methodLink RX2 127 yX2_copyColumn) := by decide +kernel
theorem t_630 : lw_tbl[630]? = some (.instanceMethod yX2_copyColumn) := by decide +kernel
theorem t_631 : lw_tbl[631]? = some (.code yX2_copyColumn cX2_copyColumn 5 (none : Option FieldType)) := by decide +kernel
theorem t_632 : lw_tbl[632]? = some (.methodLink RX3 232 yX2_keepAhead) := by decide +kernel
theorem t_633 : lw_tbl[633]? = some (.instanceMethod yX2_keepAhead) := by decide +kernel
theorem t_634 : lw_tbl[634]? = some (.selects RX2 yX2_keepAhead yX2_keepAhead) := by decide +kernel
theorem t_635 : lw_tbl[635]? = some (.code yX2_keepAhead cX2_keepAhead 2 (none : Option FieldType)) := by decide +kernel
theorem t_636 : lw_tbl[636]? = some (.methodLink RL 145 yL_match) := by decide +kernel
theorem t_637 : lw_tbl[637]? = some (.static yL_match) := by decide +kernel
theorem t_638 : lw_tbl[638]? = some (.codeWith yL_match cL_match 5 (some FieldType.int) [(0, 10, 13, 24), (0, 10, 17, 13), (0, 10, 21, 15)]) := by decide +kernel
theorem t_639 : lw_tbl[639]? = some (.methodLink RL 65 yX3_match) := by decide +kernel
theorem t_640 : lw_tbl[640]? = some (.instanceMethod yX3_match) := by decide +kernel
theorem t_641 : lw_tbl[641]? = some (.selects RX3 yX3_match yX3_match) := by decide +kernel
theorem t_642 : lw_tbl[642]? = some (.code yX3_match cX3_match 5 (some FieldType.int)) := by decide +kernel
theorem t_643 : lw_tbl[643]? = some (.methodLink RX3 235 yX3_requireTwoDone) := by decide +kernel
theorem t_644 : lw_tbl[644]? = some (.static yX3_requireTwoDone) := by decide +kernel
theorem t_645 : lw_tbl[645]? = some (.code yX3_requireTwoDone cX3_requireTwoDone 4 (none : Option FieldType)) := by decide +kernel
theorem t_646 : lw_tbl[646]? = some (.stringRef RX3 280 "both pieces are the same") := by decide +kernel
theorem t_647 : lw_tbl[647]? = some (.methodLink RX3 239 yX2_countMatching) := by decide +kernel
theorem t_648 : lw_tbl[648]? = some (.instanceMethod yX2_countMatching) := by decide +kernel
theorem t_649 : lw_tbl[649]? = some (.selects RX2 yX2_countMatching yX2_countMatching) := by decide +kernel
theorem t_650 : lw_tbl[650]? = some (.code yX2_countMatching cX2_countMatching 4 (some FieldType.int)) := by decide +kernel
theorem t_651 : lw_tbl[651]? = some (.methodLink RL 148 yL_join) := by decide +kernel
theorem t_652 : lw_tbl[652]? = some (.static yL_join) := by decide +kernel
theorem t_653 : lw_tbl[653]? = some (.codeWith yL_join cL_join 5 (some FieldType.int) [(0, 17, 20, 24), (0, 17, 24, 13), (0, 17, 28, 15)]) := by decide +kernel
theorem t_654 : lw_tbl[654]? = some (.methodLink RL 68 yX3_join) := by decide +kernel
theorem t_655 : lw_tbl[655]? = some (.instanceMethod yX3_join) := by decide +kernel
theorem t_656 : lw_tbl[656]? = some (.selects RX3 yX3_join yX3_join) := by decide +kernel
theorem t_657 : lw_tbl[657]? = some (.code yX3_join cX3_join 6 (some FieldType.boolean)) := by decide +kernel
theorem t_658 : lw_tbl[658]? = some (.stringRef RX3 242 "the pieces have not as many rows") := by decide +kernel
theorem t_659 : lw_tbl[659]? = some (.stringRef RX3 244 "the pieces have too many columns together") := by decide +kernel
theorem t_660 : lw_tbl[660]? = some (.methodLink RX3 246 yX3_dropPiece) := by decide +kernel
theorem t_662 : lw_tbl[662]? = some (.instanceMethod yX3_dropPiece) := by decide +kernel
theorem t_663 : lw_tbl[663]? = some (.code yX3_dropPiece cX3_dropPiece 2 (none : Option FieldType)) := by decide +kernel
theorem t_664 : lw_tbl[664]? = some (.methodLink RX3 249 yX2_isTrueAhead) := by decide +kernel
theorem t_665 : lw_tbl[665]? = some (.instanceMethod yX2_isTrueAhead) := by decide +kernel
theorem t_666 : lw_tbl[666]? = some (.selects RX2 yX2_isTrueAhead yX2_isTrueAhead) := by decide +kernel
theorem t_667 : lw_tbl[667]? = some (.code yX2_isTrueAhead cX2_isTrueAhead 2 (some FieldType.boolean)) := by decide +kernel
theorem t_668 : lw_tbl[668]? = some (.methodLink RL 151 yL_isTrue) := by decide +kernel
theorem t_669 : lw_tbl[669]? = some (.static yL_isTrue) := by decide +kernel
theorem t_670 : lw_tbl[670]? = some (.codeWith yL_isTrue cL_isTrue 4 (some FieldType.int) [(0, 16, 19, 24)]) := by decide +kernel
theorem t_671 : lw_tbl[671]? = some (.methodLink RL 71 yX3_isTrue) := by decide +kernel
theorem t_672 : lw_tbl[672]? = some (.instanceMethod yX3_isTrue) := by decide +kernel
theorem t_673 : lw_tbl[673]? = some (.selects RX3 yX3_isTrue yX3_isTrue) := by decide +kernel
theorem t_674 : lw_tbl[674]? = some (.code yX3_isTrue cX3_isTrue 2 (some FieldType.boolean)) := by decide +kernel
theorem t_675 : lw_tbl[675]? = some (.methodLink RX3 252 yX2_isAllTrue) := by decide +kernel
theorem t_676 : lw_tbl[676]? = some (.instanceMethod yX2_isAllTrue) := by decide +kernel
theorem t_677 : lw_tbl[677]? = some (.selects RX2 yX2_isAllTrue yX2_isAllTrue) := by decide +kernel
theorem t_678 : lw_tbl[678]? = some (.code yX2_isAllTrue cX2_isAllTrue 2 (some FieldType.boolean)) := by decide +kernel
theorem t_679 : lw_tbl[679]? = some (.methodLink RX2 131 yX2_isTrueAhead) := by decide +kernel
theorem t_680 : lw_tbl[680]? = some (.methodLink RL 154 yL_likeness) := by decide +kernel
theorem t_681 : lw_tbl[681]? = some (.static yL_likeness) := by decide +kernel
theorem t_682 : lw_tbl[682]? = some (.codeWith yL_likeness cL_likeness 5 (some FieldType.int) [(0, 10, 13, 24)]) := by decide +kernel
theorem t_683 : lw_tbl[683]? = some (.methodLink RL 75 yX3_likeness) := by decide +kernel
theorem t_684 : lw_tbl[684]? = some (.instanceMethod yX3_likeness) := by decide +kernel
theorem t_685 : lw_tbl[685]? = some (.selects RX3 yX3_likeness yX3_likeness) := by decide +kernel
theorem t_686 : lw_tbl[686]? = some (.code yX3_likeness cX3_likeness 5 (some FieldType.int)) := by decide +kernel
theorem t_687 : lw_tbl[687]? = some (.methodLink RX3 255 yX2_countLike) := by decide +kernel
theorem t_688 : lw_tbl[688]? = some (.instanceMethod yX2_countLike) := by decide +kernel
theorem t_689 : lw_tbl[689]? = some (.selects RX2 yX2_countLike yX2_countLike) := by decide +kernel
theorem t_690 : lw_tbl[690]? = some (.code yX2_countLike cX2_countLike 6 (some FieldType.int)) := by decide +kernel
theorem t_691 : lw_tbl[691]? = some (.methodLink RX3 259 yJ9_max_7cf53) := by decide +kernel
theorem t_692 : lw_tbl[692]? = some (.classLink RL 79 RX4) := by decide +kernel
theorem t_693 : lw_tbl[693]? = some (.instantiable RX4 28) := by decide +kernel
theorem t_694 : lw_tbl[694]? = some (.methodLink RL 81 yX4_init) := by decide +kernel
theorem t_695 : lw_tbl[695]? = some (.instanceMethod yX4_init) := by decide +kernel
theorem t_696 : lw_tbl[696]? = some (.code yX4_init cX4_init 1 (none : Option FieldType)) := by decide +kernel
theorem t_697 : lw_tbl[697]? = some (.methodLink RX4 1 ⟨"java/lang/Object", "<init>", "()V"⟩) := by decide +kernel
theorem t_698 : lw_tbl[698]? = some (.fieldLink RX4 98 RX4 "letters" "I") := by decide +kernel
theorem t_699 : lw_tbl[699]? = some (.fieldLink RX4 7 RX4 "word" "[I") := by decide +kernel
theorem t_700 : lw_tbl[700]? = some (.fieldLink RX4 84 RX4 "cartoons" "I") := by decide +kernel
theorem t_701 : lw_tbl[701]? = some (.fieldLink RX4 13 RX4 "width" "[I") := by decide +kernel
theorem t_702 : lw_tbl[702]? = some (.fieldLink RX4 16 RX4 "height" "[I") := by decide +kernel
theorem t_703 : lw_tbl[703]? = some (.fieldLink RX4 19 RX4 "first" "[I") := by decide +kernel
theorem t_704 : lw_tbl[704]? = some (.fieldLink RX4 22 RX4 "second" "[I") := by decide +kernel
theorem t_705 : lw_tbl[705]? = some (.fieldLink RX4 25 RX4 "drawn" "[I") := by decide +kernel
theorem t_706 : lw_tbl[706]? = some (.fieldLink RX4 112 RX4 "lots" "I") := by decide +kernel
theorem t_707 : lw_tbl[707]? = some (.fieldLink RX4 28 RX4 "colourOf" "[I") := by decide +kernel
theorem t_708 : lw_tbl[708]? = some (.fieldLink RX4 31 RX4 "had" "[I") := by decide +kernel
theorem t_709 : lw_tbl[709]? = some (.fieldLink RX4 34 RX4 "left" "[I") := by decide +kernel
theorem t_710 : lw_tbl[710]? = some (.fieldLink RX4 37 RX4 "fade" "[I") := by decide +kernel
theorem t_711 : lw_tbl[711]? = some (.fieldLink RX4 40 RX4 "bleeds" "[Z") := by decide +kernel
theorem t_712 : lw_tbl[712]? = some (.fieldLink RX4 91 RX4 "pieces" "I") := by decide +kernel
theorem t_713 : lw_tbl[713]? = some (.fieldLink RX4 44 RX4 "columns" "[I") := by decide +kernel
theorem t_714 : lw_tbl[714]? = some (.fieldLink RX4 47 RX4 "rows" "[I") := by decide +kernel
theorem t_715 : lw_tbl[715]? = some (.fieldLink RX4 50 RX4 "weavers" "[I") := by decide +kernel
theorem t_716 : lw_tbl[716]? = some (.fieldLink RX4 53 RX4 "isGone" "[Z") := by decide +kernel
theorem t_717 : lw_tbl[717]? = some (.fieldLink RX4 56 RX4 "woven" "[I") := by decide +kernel
theorem t_718 : lw_tbl[718]? = some (.fieldLink RX4 59 RX4 "wide" "[I") := by decide +kernel
theorem t_719 : lw_tbl[719]? = some (.fieldLink RX4 62 RX4 "fromPiece" "[I") := by decide +kernel
theorem t_720 : lw_tbl[720]? = some (.fieldLink RX4 65 RX4 "fromColumn" "[I") := by decide +kernel
theorem t_721 : lw_tbl[721]? = some (.fieldLink RX4 68 RX4 "isSewn" "[Z") := by decide +kernel
theorem t_722 : lw_tbl[722]? = some (.fieldLink RX4 71 RX4 "colour" "[I") := by decide +kernel
theorem t_723 : lw_tbl[723]? = some (.fieldLink RX4 74 RX4 "lot" "[I") := by decide +kernel
theorem t_724 : lw_tbl[724]? = some (.fieldLink RX4 77 RX4 "shade" "[I") := by decide +kernel
theorem t_725 : lw_tbl[725]? = some (.fieldLink RX4 80 RX4 "thrown" "I") := by decide +kernel
theorem t_783 : lw_tbl[783]? = some (.methodLink RL 88 yX4_thrown) := by decide +kernel
theorem t_784 : lw_tbl[784]? = some (.instanceMethod yX4_thrown) := by decide +kernel
theorem t_785 : lw_tbl[785]? = some (.selects RX4 yX4_thrown yX4_thrown) := by decide +kernel
theorem t_786 : lw_tbl[786]? = some (.code yX4_thrown cX4_thrown 1 (some FieldType.int)) := by decide +kernel
theorem t_787 : lw_tbl[787]? = some (.methodLink RL 87 yX4_type) := by decide +kernel
theorem t_788 : lw_tbl[788]? = some (.instanceMethod yX4_type) := by decide +kernel
theorem t_789 : lw_tbl[789]? = some (.selects RX4 yX4_type yX4_type) := by decide +kernel
theorem t_790 : lw_tbl[790]? = some (.code yX4_type cX4_type 2 (some FieldType.int)) := by decide +kernel
theorem t_791 : lw_tbl[791]? = some (.methodLink RX4 94 yX4_numberOf) := by decide +kernel
theorem t_792 : lw_tbl[792]? = some (.static yX4_numberOf) := by decide +kernel
theorem t_793 : lw_tbl[793]? = some (.code yX4_numberOf cX4_numberOf 1 (some FieldType.int)) := by decide +kernel
theorem t_794 : lw_tbl[794]? = some (.methodLink RX4 101 yX4_goes) := by decide +kernel
theorem t_796 : lw_tbl[796]? = some (.instanceMethod yX4_goes) := by decide +kernel
theorem t_797 : lw_tbl[797]? = some (.code yX4_goes cX4_goes 4 (some FieldType.boolean)) := by decide +kernel
theorem t_798 : lw_tbl[798]? = some (.methodLink RL 95 yX4_empty) := by decide +kernel
theorem t_799 : lw_tbl[799]? = some (.instanceMethod yX4_empty) := by decide +kernel
theorem t_800 : lw_tbl[800]? = some (.selects RX4 yX4_empty yX4_empty) := by decide +kernel
theorem t_801 : lw_tbl[801]? = some (.code yX4_empty cX4_empty 2 (some FieldType.int)) := by decide +kernel
theorem t_802 : lw_tbl[802]? = some (.methodLink RL 99 yX4_cartoon) := by decide +kernel
theorem t_803 : lw_tbl[803]? = some (.instanceMethod yX4_cartoon) := by decide +kernel
theorem t_804 : lw_tbl[804]? = some (.selects RX4 yX4_cartoon yX4_cartoon) := by decide +kernel
theorem t_805 : lw_tbl[805]? = some (.code yX4_cartoon cX4_cartoon 2 (some FieldType.int)) := by decide +kernel
theorem t_806 : lw_tbl[806]? = some (.methodLink RX4 87 yX4_in) := by decide +kernel
theorem t_807 : lw_tbl[807]? = some (.static yX4_in) := by decide +kernel
theorem t_808 : lw_tbl[808]? = some (.code yX4_in cX4_in 3 (some FieldType.boolean)) := by decide +kernel
theorem t_809 : lw_tbl[809]? = some (.methodLink RL 102 yX4_row) := by decide +kernel
theorem t_810 : lw_tbl[810]? = some (.instanceMethod yX4_row) := by decide +kernel
theorem t_811 : lw_tbl[811]? = some (.selects RX4 yX4_row yX4_row) := by decide +kernel
theorem t_812 : lw_tbl[812]? = some (.code yX4_row cX4_row 4 (some FieldType.int)) := by decide +kernel
theorem t_813 : lw_tbl[813]? = some (.methodLink RX4 105 yX4_isCartoon) := by decide +kernel
theorem t_815 : lw_tbl[815]? = some (.instanceMethod yX4_isCartoon) := by decide +kernel
theorem t_816 : lw_tbl[816]? = some (.code yX4_isCartoon cX4_isCartoon 2 (some FieldType.boolean)) := by decide +kernel
theorem t_817 : lw_tbl[817]? = some (.methodLink RL 106 yX4_hatch) := by decide +kernel
theorem t_818 : lw_tbl[818]? = some (.instanceMethod yX4_hatch) := by decide +kernel
theorem t_819 : lw_tbl[819]? = some (.selects RX4 yX4_hatch yX4_hatch) := by decide +kernel
theorem t_820 : lw_tbl[820]? = some (.code yX4_hatch cX4_hatch 4 (none : Option FieldType)) := by decide +kernel
theorem t_821 : lw_tbl[821]? = some (.methodLink RX4 109 yX4_isColour) := by decide +kernel
theorem t_822 : lw_tbl[822]? = some (.static yX4_isColour) := by decide +kernel
theorem t_823 : lw_tbl[823]? = some (.code yX4_isColour cX4_isColour 1 (some FieldType.boolean)) := by decide +kernel
theorem t_824 : lw_tbl[824]? = some (.methodLink RL 110 yX4_dye) := by decide +kernel
theorem t_825 : lw_tbl[825]? = some (.instanceMethod yX4_dye) := by decide +kernel
theorem t_826 : lw_tbl[826]? = some (.selects RX4 yX4_dye yX4_dye) := by decide +kernel
theorem t_827 : lw_tbl[827]? = some (.code yX4_dye cX4_dye 5 (some FieldType.int)) := by decide +kernel
theorem t_828 : lw_tbl[828]? = some (.methodLink RL 113 yX4_left) := by decide +kernel
theorem t_829 : lw_tbl[829]? = some (.instanceMethod yX4_left) := by decide +kernel
theorem t_830 : lw_tbl[830]? = some (.selects RX4 yX4_left yX4_left) := by decide +kernel
theorem t_831 : lw_tbl[831]? = some (.code yX4_left cX4_left 2 (some FieldType.int)) := by decide +kernel
theorem t_832 : lw_tbl[832]? = some (.methodLink RL 117 yX4_gold) := by decide +kernel
theorem t_833 : lw_tbl[833]? = some (.instanceMethod yX4_gold) := by decide +kernel
theorem t_834 : lw_tbl[834]? = some (.selects RX4 yX4_gold yX4_gold) := by decide +kernel
theorem t_835 : lw_tbl[835]? = some (.code yX4_gold cX4_gold 3 (some FieldType.int)) := by decide +kernel
theorem t_836 : lw_tbl[836]? = some (.methodLink RX4 119 yX4_wovenOf) := by decide +kernel
theorem t_838 : lw_tbl[838]? = some (.instanceMethod yX4_wovenOf) := by decide +kernel
theorem t_839 : lw_tbl[839]? = some (.code yX4_wovenOf cX4_wovenOf 5 (some FieldType.int)) := by decide +kernel
theorem t_840 : lw_tbl[840]? = some (.methodLink RX4 115 yX4_at) := by decide +kernel
theorem t_841 : lw_tbl[841]? = some (.static yX4_at) := by decide +kernel
theorem t_842 : lw_tbl[842]? = some (.code yX4_at cX4_at 3 (some FieldType.int)) := by decide +kernel
theorem t_843 : lw_tbl[843]? = some (.methodLink RL 121 yX4_loom) := by decide +kernel
theorem t_844 : lw_tbl[844]? = some (.instanceMethod yX4_loom) := by decide +kernel
theorem t_845 : lw_tbl[845]? = some (.selects RX4 yX4_loom yX4_loom) := by decide +kernel
theorem t_846 : lw_tbl[846]? = some (.code yX4_loom cX4_loom 9 (some FieldType.int)) := by decide +kernel
theorem t_847 : lw_tbl[847]? = some (.methodLink RX4 123 yX4_setsColumn) := by decide +kernel
theorem t_849 : lw_tbl[849]? = some (.instanceMethod yX4_setsColumn) := by decide +kernel
theorem t_850 : lw_tbl[850]? = some (.code yX4_setsColumn cX4_setsColumn 5 (none : Option FieldType)) := by decide +kernel
theorem t_851 : lw_tbl[851]? = some (.methodLink RX4 127 yX4_drawnAt) := by decide +kernel
theorem t_853 : lw_tbl[853]? = some (.instanceMethod yX4_drawnAt) := by decide +kernel
theorem t_854 : lw_tbl[854]? = some (.code yX4_drawnAt cX4_drawnAt 5 (some FieldType.int)) := by decide +kernel
theorem t_855 : lw_tbl[855]? = some (.methodLink RL 125 yX4_weave) := by decide +kernel
theorem t_856 : lw_tbl[856]? = some (.instanceMethod yX4_weave) := by decide +kernel
theorem t_857 : lw_tbl[857]? = some (.selects RX4 yX4_weave yX4_weave) := by decide +kernel
theorem t_858 : lw_tbl[858]? = some (.code yX4_weave cX4_weave 7 (some FieldType.int)) := by decide +kernel
theorem t_859 : lw_tbl[859]? = some (.methodLink RX4 133 yX4_isPiece) := by decide +kernel
theorem t_861 : lw_tbl[861]? = some (.instanceMethod yX4_isPiece) := by decide +kernel
theorem t_862 : lw_tbl[862]? = some (.code yX4_isPiece cX4_isPiece 2 (some FieldType.boolean)) := by decide +kernel
theorem t_863 : lw_tbl[863]? = some (.methodLink RX4 136 yX4_mayWeave) := by decide +kernel
theorem t_865 : lw_tbl[865]? = some (.instanceMethod yX4_mayWeave) := by decide +kernel
theorem t_866 : lw_tbl[866]? = some (.code yX4_mayWeave cX4_mayWeave 6 (some FieldType.boolean)) := by decide +kernel
theorem t_867 : lw_tbl[867]? = some (.methodLink RX4 140 yX4_weaves) := by decide +kernel
theorem t_869 : lw_tbl[869]? = some (.instanceMethod yX4_weaves) := by decide +kernel
theorem t_870 : lw_tbl[870]? = some (.code yX4_weaves cX4_weaves 9 (some FieldType.boolean)) := by decide +kernel
theorem t_871 : lw_tbl[871]? = some (.methodLink RX4 130 yX4_giver) := by decide +kernel
theorem t_873 : lw_tbl[873]? = some (.instanceMethod yX4_giver) := by decide +kernel
theorem t_874 : lw_tbl[874]? = some (.code yX4_giver cX4_giver 4 (some FieldType.int)) := by decide +kernel
theorem t_875 : lw_tbl[875]? = some (.methodLink RL 128 yX4_pieceIs) := by decide +kernel
theorem t_876 : lw_tbl[876]? = some (.instanceMethod yX4_pieceIs) := by decide +kernel
theorem t_877 : lw_tbl[877]? = some (.selects RX4 yX4_pieceIs yX4_pieceIs) := by decide +kernel
theorem t_878 : lw_tbl[878]? = some (.code yX4_pieceIs cX4_pieceIs 3 (some FieldType.int)) := by decide +kernel
theorem t_879 : lw_tbl[879]? = some (.methodLink RX4 153 yX4_wovenIn) := by decide +kernel
theorem t_881 : lw_tbl[881]? = some (.instanceMethod yX4_wovenIn) := by decide +kernel
theorem t_882 : lw_tbl[882]? = some (.code yX4_wovenIn cX4_wovenIn 4 (some FieldType.int)) := by decide +kernel
theorem t_883 : lw_tbl[883]? = some (.methodLink RX4 147 yX4_isDone) := by decide +kernel
theorem t_885 : lw_tbl[885]? = some (.instanceMethod yX4_isDone) := by decide +kernel
theorem t_886 : lw_tbl[886]? = some (.code yX4_isDone cX4_isDone 4 (some FieldType.boolean)) := by decide +kernel
theorem t_887 : lw_tbl[887]? = some (.methodLink RX4 156 yX4_slits) := by decide +kernel
theorem t_889 : lw_tbl[889]? = some (.instanceMethod yX4_slits) := by decide +kernel
theorem t_890 : lw_tbl[890]? = some (.code yX4_slits cX4_slits 4 (some FieldType.int)) := by decide +kernel
theorem t_891 : lw_tbl[891]? = some (.methodLink RX4 150 yX4_isSlit) := by decide +kernel
theorem t_893 : lw_tbl[893]? = some (.instanceMethod yX4_isSlit) := by decide +kernel
theorem t_894 : lw_tbl[894]? = some (.code yX4_isSlit cX4_isSlit 6 (some FieldType.boolean)) := by decide +kernel
theorem t_895 : lw_tbl[895]? = some (.methodLink RX4 144 yX4_isUnlike) := by decide +kernel
theorem t_897 : lw_tbl[897]? = some (.instanceMethod yX4_isUnlike) := by decide +kernel
theorem t_898 : lw_tbl[898]? = some (.code yX4_isUnlike cX4_isUnlike 4 (some FieldType.boolean)) := by decide +kernel
theorem t_899 : lw_tbl[899]? = some (.methodLink RX4 159 yX4_shades) := by decide +kernel
theorem t_901 : lw_tbl[901]? = some (.instanceMethod yX4_shades) := by decide +kernel
theorem t_902 : lw_tbl[902]? = some (.code yX4_shades cX4_shades 4 (some FieldType.int)) := by decide +kernel
theorem t_903 : lw_tbl[903]? = some (.methodLink RL 132 yX4_cell) := by decide +kernel
theorem t_904 : lw_tbl[904]? = some (.instanceMethod yX4_cell) := by decide +kernel
theorem t_905 : lw_tbl[905]? = some (.selects RX4 yX4_cell yX4_cell) := by decide +kernel
theorem t_906 : lw_tbl[906]? = some (.code yX4_cell cX4_cell 7 (some FieldType.int)) := by decide +kernel
theorem t_907 : lw_tbl[907]? = some (.methodLink RL 135 yX4_sew) := by decide +kernel
theorem t_908 : lw_tbl[908]? = some (.instanceMethod yX4_sew) := by decide +kernel
theorem t_909 : lw_tbl[909]? = some (.selects RX4 yX4_sew yX4_sew) := by decide +kernel
theorem t_910 : lw_tbl[910]? = some (.code yX4_sew cX4_sew 5 (some FieldType.boolean)) := by decide +kernel
theorem t_911 : lw_tbl[911]? = some (.methodLink RX4 162 yX4_isInner) := by decide +kernel
theorem t_913 : lw_tbl[913]? = some (.instanceMethod yX4_isInner) := by decide +kernel
theorem t_914 : lw_tbl[914]? = some (.code yX4_isInner cX4_isInner 3 (some FieldType.boolean)) := by decide +kernel
theorem t_915 : lw_tbl[915]? = some (.methodLink RL 138 yX4_light) := by decide +kernel
theorem t_916 : lw_tbl[916]? = some (.instanceMethod yX4_light) := by decide +kernel
theorem t_917 : lw_tbl[917]? = some (.selects RX4 yX4_light yX4_light) := by decide +kernel
theorem t_918 : lw_tbl[918]? = some (.code yX4_light cX4_light 7 (some FieldType.int)) := by decide +kernel
theorem t_919 : lw_tbl[919]? = some (.methodLink RL 141 yX4_wash) := by decide +kernel
theorem t_920 : lw_tbl[920]? = some (.instanceMethod yX4_wash) := by decide +kernel
theorem t_921 : lw_tbl[921]? = some (.selects RX4 yX4_wash yX4_wash) := by decide +kernel
theorem t_922 : lw_tbl[922]? = some (.code yX4_wash cX4_wash 8 (some FieldType.int)) := by decide +kernel
theorem t_923 : lw_tbl[923]? = some (.methodLink RX4 165 yX4_runs) := by decide +kernel
theorem t_925 : lw_tbl[925]? = some (.instanceMethod yX4_runs) := by decide +kernel
theorem t_926 : lw_tbl[926]? = some (.code yX4_runs cX4_runs 7 (some FieldType.int)) := by decide +kernel
theorem t_927 : lw_tbl[927]? = some (.methodLink RL 144 yX4_cut) := by decide +kernel
theorem t_928 : lw_tbl[928]? = some (.instanceMethod yX4_cut) := by decide +kernel
theorem t_929 : lw_tbl[929]? = some (.selects RX4 yX4_cut yX4_cut) := by decide +kernel
theorem t_930 : lw_tbl[930]? = some (.code yX4_cut cX4_cut 5 (some FieldType.int)) := by decide +kernel
theorem t_931 : lw_tbl[931]? = some (.methodLink RX4 169 yX4_copies) := by decide +kernel
theorem t_933 : lw_tbl[933]? = some (.instanceMethod yX4_copies) := by decide +kernel
theorem t_934 : lw_tbl[934]? = some (.code yX4_copies cX4_copies 8 (none : Option FieldType)) := by decide +kernel
theorem t_935 : lw_tbl[935]? = some (.methodLink RL 147 yX4_match) := by decide +kernel
theorem t_936 : lw_tbl[936]? = some (.instanceMethod yX4_match) := by decide +kernel
theorem t_937 : lw_tbl[937]? = some (.selects RX4 yX4_match yX4_match) := by decide +kernel
theorem t_938 : lw_tbl[938]? = some (.code yX4_match cX4_match 6 (some FieldType.int)) := by decide +kernel
theorem t_939 : lw_tbl[939]? = some (.methodLink RL 150 yX4_join) := by decide +kernel
theorem t_940 : lw_tbl[940]? = some (.instanceMethod yX4_join) := by decide +kernel
theorem t_941 : lw_tbl[941]? = some (.selects RX4 yX4_join yX4_join) := by decide +kernel
theorem t_942 : lw_tbl[942]? = some (.code yX4_join cX4_join 7 (some FieldType.boolean)) := by decide +kernel
theorem t_943 : lw_tbl[943]? = some (.methodLink RX4 172 yX4_isRight) := by decide +kernel
theorem t_945 : lw_tbl[945]? = some (.instanceMethod yX4_isRight) := by decide +kernel
theorem t_946 : lw_tbl[946]? = some (.code yX4_isRight cX4_isRight 4 (some FieldType.boolean)) := by decide +kernel
theorem t_947 : lw_tbl[947]? = some (.methodLink RL 153 yX4_isTrue) := by decide +kernel
theorem t_948 : lw_tbl[948]? = some (.instanceMethod yX4_isTrue) := by decide +kernel
theorem t_949 : lw_tbl[949]? = some (.selects RX4 yX4_isTrue yX4_isTrue) := by decide +kernel
theorem t_950 : lw_tbl[950]? = some (.code yX4_isTrue cX4_isTrue 4 (some FieldType.boolean)) := by decide +kernel
theorem t_951 : lw_tbl[951]? = some (.methodLink RL 156 yX4_likeness) := by decide +kernel
theorem t_952 : lw_tbl[952]? = some (.instanceMethod yX4_likeness) := by decide +kernel
theorem t_953 : lw_tbl[953]? = some (.selects RX4 yX4_likeness yX4_likeness) := by decide +kernel
theorem t_954 : lw_tbl[954]? = some (.code yX4_likeness cX4_likeness 9 (some FieldType.int)) := by decide +kernel
theorem t_955 : lw_tbl[955]? = some (.methodLink RL 161 yX4_balances) := by decide +kernel
theorem t_956 : lw_tbl[956]? = some (.instanceMethod yX4_balances) := by decide +kernel
theorem t_957 : lw_tbl[957]? = some (.selects RX4 yX4_balances yX4_balances) := by decide +kernel
theorem t_958 : lw_tbl[958]? = some (.code yX4_balances cX4_balances 3 (some FieldType.boolean)) := by decide +kernel
theorem KK.all {g : GT} {s : State} {args : Array Value} (h : KK g s) (ws : List Cond) (ps : List Nat) (hp : ws = ps.filterMap (fun i => lw_tbl[i]?)) (hk : ws.all kw = true) : ∀ w ∈ ws, w.before args s = true := by
  intro w hw
  have h1 := List.all_eq_true.mp hk w hw
  rw [hp] at hw
  obtain ⟨i, -, hi⟩ := List.mem_filterMap.mp hw
  exact h.b i hi h1
theorem lay_X0 {g : GT} {s : State} {args : Array Value} (h : KK g s) : ∀ w ∈ u_ws RX0 TX0 5, w.before args s = true := h.all _ [268, 270, 272, 274, 276] (by decide +kernel) (by decide +kernel)
theorem lay_X1 {g : GT} {s : State} {args : Array Value} (h : KK g s) : ∀ w ∈ u_ws RX1 TX1 6, w.before args s = true := h.all _ [68, 70, 72, 74, 76, 78] (by decide +kernel) (by decide +kernel)
theorem lay_X2 {g : GT} {s : State} {args : Array Value} (h : KK g s) : ∀ w ∈ u_ws RX2 TX2 9, w.before args s = true := h.all _ [397, 399, 401, 403, 405, 407, 409, 411, 413] (by decide +kernel) (by decide +kernel)
theorem lay_X3 {g : GT} {s : State} {args : Array Value} (h : KK g s) : ∀ w ∈ u_ws RX3 TX3 8, w.before args s = true := h.all _ [93, 95, 97, 99, 101, 103, 105, 107] (by decide +kernel) (by decide +kernel)
theorem lay_X4 {g : GT} {s : State} {args : Array Value} (h : KK g s) : ∀ w ∈ u_ws RX4 TX4 28, w.before args s = true := h.all _ [726, 728, 730, 732, 734, 736, 738, 740, 742, 744, 746, 748, 750, 752, 754, 756, 758, 760, 762, 764, 766, 768, 770, 772, 774, 776, 778, 780] (by decide +kernel) (by decide +kernel)
set_option maxRecDepth 20000 in
theorem at_A {g : GT} {s : State} {args : Array Value} (h : KK g s) : ∀ w ∈ vx_atS RX3 53 "java/lang/IllegalArgumentException" ["java/lang/RuntimeException", "java/lang/Exception"], w.before args s = true := h.all _ [37, 186, 195, 199, 202, 204, 187, 188, 52, 53, 189, 194, 200, 220, 176, 221, 178, 222, 180, 190, 192, 182, 216, 217, 219, 182, 207, 208, 209, 210, 168, 210, 211, 212, 213, 170, 213, 214, 215, 216, 172, 206, 165, 166, 173, 174, 175, 177, 179, 181, 185, 184, 183] (by decide +kernel) (by decide +kernel)
set_option maxRecDepth 20000 in
theorem ao_A : ∀ w ∈ Cond.classLink RX3 49 "java/lang/IllegalArgumentException" :: Cond.initialized "java/lang/IllegalArgumentException" :: vx_atS RX3 53 "java/lang/IllegalArgumentException" ["java/lang/RuntimeException", "java/lang/Exception"], vx_ot w = true := List.all_eq_true.mp (by decide +kernel)
set_option maxRecDepth 20000 in
theorem at_S {g : GT} {s : State} {args : Array Value} (h : KK g s) : ∀ w ∈ vx_atS RX3 60 "java/lang/IllegalStateException" ["java/lang/RuntimeException", "java/lang/Exception"], w.before args s = true := h.all _ [37, 186, 195, 199, 202, 204, 187, 188, 52, 53, 189, 194, 200, 220, 176, 221, 178, 222, 180, 190, 192, 182, 216, 217, 219, 182, 243, 244, 245, 210, 168, 210, 211, 212, 213, 170, 213, 214, 215, 216, 172, 242, 233, 234, 235, 197, 236, 237, 238, 239, 185, 184, 240] (by decide +kernel) (by decide +kernel)
set_option maxRecDepth 20000 in
theorem ao_S : ∀ w ∈ Cond.classLink RX3 56 "java/lang/IllegalStateException" :: Cond.initialized "java/lang/IllegalStateException" :: vx_atS RX3 60 "java/lang/IllegalStateException" ["java/lang/RuntimeException", "java/lang/Exception"], vx_ot w = true := List.all_eq_true.mp (by decide +kernel)
set_option maxRecDepth 20000 in
theorem at_B {g : GT} {s : State} {args : Array Value} (h : KK g s) : ∀ w ∈ vx_atS RX3 115 "java/lang/IndexOutOfBoundsException" ["java/lang/RuntimeException", "java/lang/Exception"], w.before args s = true := h.all _ [37, 186, 195, 199, 202, 204, 187, 188, 52, 53, 189, 194, 200, 220, 176, 221, 178, 222, 180, 190, 192, 182, 216, 217, 219, 182, 302, 303, 304, 210, 168, 210, 211, 212, 213, 170, 213, 214, 215, 216, 172, 301, 292, 293, 294, 198, 295, 296, 297, 298, 185, 184, 299] (by decide +kernel) (by decide +kernel)
set_option maxRecDepth 20000 in
theorem ao_B : ∀ w ∈ Cond.classLink RX3 111 "java/lang/IndexOutOfBoundsException" :: Cond.initialized "java/lang/IndexOutOfBoundsException" :: vx_atS RX3 115 "java/lang/IndexOutOfBoundsException" ["java/lang/RuntimeException", "java/lang/Exception"], vx_ot w = true := List.all_eq_true.mp (by decide +kernel)
theorem f_yL_cartoon : (yL_cartoon.cls ≠ "java/lang/invoke/MethodHandle" ∧ yL_cartoon.cls ≠ "java/lang/invoke/VarHandle") ∧ (parseMethodDescriptor yL_cartoon.desc).map (fun d => d.parameters.length) = some 3 := by decide +kernel
theorem f_yL_cell : (yL_cell.cls ≠ "java/lang/invoke/MethodHandle" ∧ yL_cell.cls ≠ "java/lang/invoke/VarHandle") ∧ (parseMethodDescriptor yL_cell.desc).map (fun d => d.parameters.length) = some 6 := by decide +kernel
theorem f_yL_cut : (yL_cut.cls ≠ "java/lang/invoke/MethodHandle" ∧ yL_cut.cls ≠ "java/lang/invoke/VarHandle") ∧ (parseMethodDescriptor yL_cut.desc).map (fun d => d.parameters.length) = some 4 := by decide +kernel
theorem f_yL_dye : (yL_dye.cls ≠ "java/lang/invoke/MethodHandle" ∧ yL_dye.cls ≠ "java/lang/invoke/VarHandle") ∧ (parseMethodDescriptor yL_dye.desc).map (fun d => d.parameters.length) = some 6 := by decide +kernel
theorem f_yL_hatch : (yL_hatch.cls ≠ "java/lang/invoke/MethodHandle" ∧ yL_hatch.cls ≠ "java/lang/invoke/VarHandle") ∧ (parseMethodDescriptor yL_hatch.desc).map (fun d => d.parameters.length) = some 4 := by decide +kernel
theorem f_yL_isTrue : (yL_isTrue.cls ≠ "java/lang/invoke/MethodHandle" ∧ yL_isTrue.cls ≠ "java/lang/invoke/VarHandle") ∧ (parseMethodDescriptor yL_isTrue.desc).map (fun d => d.parameters.length) = some 3 := by decide +kernel
theorem f_yL_join : (yL_join.cls ≠ "java/lang/invoke/MethodHandle" ∧ yL_join.cls ≠ "java/lang/invoke/VarHandle") ∧ (parseMethodDescriptor yL_join.desc).map (fun d => d.parameters.length) = some 4 := by decide +kernel
theorem f_yL_law : (yL_law.cls ≠ "java/lang/invoke/MethodHandle" ∧ yL_law.cls ≠ "java/lang/invoke/VarHandle") ∧ (parseMethodDescriptor yL_law.desc).map (fun d => d.parameters.length) = some 1 := by decide +kernel
theorem f_yL_left : (yL_left.cls ≠ "java/lang/invoke/MethodHandle" ∧ yL_left.cls ≠ "java/lang/invoke/VarHandle") ∧ (parseMethodDescriptor yL_left.desc).map (fun d => d.parameters.length) = some 3 := by decide +kernel
theorem f_yL_light : (yL_light.cls ≠ "java/lang/invoke/MethodHandle" ∧ yL_light.cls ≠ "java/lang/invoke/VarHandle") ∧ (parseMethodDescriptor yL_light.desc).map (fun d => d.parameters.length) = some 4 := by decide +kernel
theorem f_yL_likeness : (yL_likeness.cls ≠ "java/lang/invoke/MethodHandle" ∧ yL_likeness.cls ≠ "java/lang/invoke/VarHandle") ∧ (parseMethodDescriptor yL_likeness.desc).map (fun d => d.parameters.length) = some 4 := by decide +kernel
theorem f_yL_loom : (yL_loom.cls ≠ "java/lang/invoke/MethodHandle" ∧ yL_loom.cls ≠ "java/lang/invoke/VarHandle") ∧ (parseMethodDescriptor yL_loom.desc).map (fun d => d.parameters.length) = some 5 := by decide +kernel
theorem f_yL_match : (yL_match.cls ≠ "java/lang/invoke/MethodHandle" ∧ yL_match.cls ≠ "java/lang/invoke/VarHandle") ∧ (parseMethodDescriptor yL_match.desc).map (fun d => d.parameters.length) = some 4 := by decide +kernel
theorem f_yL_pieceIs : (yL_pieceIs.cls ≠ "java/lang/invoke/MethodHandle" ∧ yL_pieceIs.cls ≠ "java/lang/invoke/VarHandle") ∧ (parseMethodDescriptor yL_pieceIs.desc).map (fun d => d.parameters.length) = some 4 := by decide +kernel
theorem f_yL_row : (yL_row.cls ≠ "java/lang/invoke/MethodHandle" ∧ yL_row.cls ≠ "java/lang/invoke/VarHandle") ∧ (parseMethodDescriptor yL_row.desc).map (fun d => d.parameters.length) = some 3 := by decide +kernel
theorem f_yL_sew : (yL_sew.cls ≠ "java/lang/invoke/MethodHandle" ∧ yL_sew.cls ≠ "java/lang/invoke/VarHandle") ∧ (parseMethodDescriptor yL_sew.desc).map (fun d => d.parameters.length) = some 4 := by decide +kernel
theorem f_yL_type : (yL_type.cls ≠ "java/lang/invoke/MethodHandle" ∧ yL_type.cls ≠ "java/lang/invoke/VarHandle") ∧ (parseMethodDescriptor yL_type.desc).map (fun d => d.parameters.length) = some 3 := by decide +kernel
theorem f_yL_wash : (yL_wash.cls ≠ "java/lang/invoke/MethodHandle" ∧ yL_wash.cls ≠ "java/lang/invoke/VarHandle") ∧ (parseMethodDescriptor yL_wash.desc).map (fun d => d.parameters.length) = some 3 := by decide +kernel
theorem f_yL_weave : (yL_weave.cls ≠ "java/lang/invoke/MethodHandle" ∧ yL_weave.cls ≠ "java/lang/invoke/VarHandle") ∧ (parseMethodDescriptor yL_weave.desc).map (fun d => d.parameters.length) = some 4 := by decide +kernel
theorem f_yX0_addRow : (yX0_addRow.cls ≠ "java/lang/invoke/MethodHandle" ∧ yX0_addRow.cls ≠ "java/lang/invoke/VarHandle") ∧ (parseMethodDescriptor yX0_addRow.desc).map (fun d => d.parameters.length) = some 1 := by decide +kernel
theorem f_yX0_colourAt : (yX0_colourAt.cls ≠ "java/lang/invoke/MethodHandle" ∧ yX0_colourAt.cls ≠ "java/lang/invoke/VarHandle") ∧ (parseMethodDescriptor yX0_colourAt.desc).map (fun d => d.parameters.length) = some 3 := by decide +kernel
theorem f_yX0_hatchBetween : (yX0_hatchBetween.cls ≠ "java/lang/invoke/MethodHandle" ∧ yX0_hatchBetween.cls ≠ "java/lang/invoke/VarHandle") ∧ (parseMethodDescriptor yX0_hatchBetween.desc).map (fun d => d.parameters.length) = some 2 := by decide +kernel
theorem f_yX0_height : (yX0_height.cls ≠ "java/lang/invoke/MethodHandle" ∧ yX0_height.cls ≠ "java/lang/invoke/VarHandle") ∧ (parseMethodDescriptor yX0_height.desc).map (fun d => d.parameters.length) = some 0 := by decide +kernel
theorem f_yX0_init : (yX0_init.cls ≠ "java/lang/invoke/MethodHandle" ∧ yX0_init.cls ≠ "java/lang/invoke/VarHandle") ∧ (parseMethodDescriptor yX0_init.desc).map (fun d => d.parameters.length) = some 1 := by decide +kernel
theorem f_yX0_width : (yX0_width.cls ≠ "java/lang/invoke/MethodHandle" ∧ yX0_width.cls ≠ "java/lang/invoke/VarHandle") ∧ (parseMethodDescriptor yX0_width.desc).map (fun d => d.parameters.length) = some 0 := by decide +kernel
theorem f_yX1_add : (yX1_add.cls ≠ "java/lang/invoke/MethodHandle" ∧ yX1_add.cls ≠ "java/lang/invoke/VarHandle") ∧ (parseMethodDescriptor yX1_add.desc).map (fun d => d.parameters.length) = some 4 := by decide +kernel
theorem f_yX1_count : (yX1_count.cls ≠ "java/lang/invoke/MethodHandle" ∧ yX1_count.cls ≠ "java/lang/invoke/VarHandle") ∧ (parseMethodDescriptor yX1_count.desc).map (fun d => d.parameters.length) = some 0 := by decide +kernel
theorem f_yX1_fadeOf : (yX1_fadeOf.cls ≠ "java/lang/invoke/MethodHandle" ∧ yX1_fadeOf.cls ≠ "java/lang/invoke/VarHandle") ∧ (parseMethodDescriptor yX1_fadeOf.desc).map (fun d => d.parameters.length) = some 1 := by decide +kernel
theorem f_yX1_init : (yX1_init.cls ≠ "java/lang/invoke/MethodHandle" ∧ yX1_init.cls ≠ "java/lang/invoke/VarHandle") ∧ (parseMethodDescriptor yX1_init.desc).map (fun d => d.parameters.length) = some 0 := by decide +kernel
theorem f_yX1_isBleeding : (yX1_isBleeding.cls ≠ "java/lang/invoke/MethodHandle" ∧ yX1_isBleeding.cls ≠ "java/lang/invoke/VarHandle") ∧ (parseMethodDescriptor yX1_isBleeding.desc).map (fun d => d.parameters.length) = some 1 := by decide +kernel
theorem f_yX1_takeThread : (yX1_takeThread.cls ≠ "java/lang/invoke/MethodHandle" ∧ yX1_takeThread.cls ≠ "java/lang/invoke/VarHandle") ∧ (parseMethodDescriptor yX1_takeThread.desc).map (fun d => d.parameters.length) = some 1 := by decide +kernel
theorem f_yX1_threadsGivenBy : (yX1_threadsGivenBy.cls ≠ "java/lang/invoke/MethodHandle" ∧ yX1_threadsGivenBy.cls ≠ "java/lang/invoke/VarHandle") ∧ (parseMethodDescriptor yX1_threadsGivenBy.desc).map (fun d => d.parameters.length) = some 1 := by decide +kernel
theorem f_yX1_threadsIn : (yX1_threadsIn.cls ≠ "java/lang/invoke/MethodHandle" ∧ yX1_threadsIn.cls ≠ "java/lang/invoke/VarHandle") ∧ (parseMethodDescriptor yX1_threadsIn.desc).map (fun d => d.parameters.length) = some 1 := by decide +kernel
theorem f_yX1_threadsOfColour : (yX1_threadsOfColour.cls ≠ "java/lang/invoke/MethodHandle" ∧ yX1_threadsOfColour.cls ≠ "java/lang/invoke/VarHandle") ∧ (parseMethodDescriptor yX1_threadsOfColour.desc).map (fun d => d.parameters.length) = some 1 := by decide +kernel
theorem f_yX2_addThreadsTo : (yX2_addThreadsTo.cls ≠ "java/lang/invoke/MethodHandle" ∧ yX2_addThreadsTo.cls ≠ "java/lang/invoke/VarHandle") ∧ (parseMethodDescriptor yX2_addThreadsTo.desc).map (fun d => d.parameters.length) = some 1 := by decide +kernel
theorem f_yX2_append : (yX2_append.cls ≠ "java/lang/invoke/MethodHandle" ∧ yX2_append.cls ≠ "java/lang/invoke/VarHandle") ∧ (parseMethodDescriptor yX2_append.desc).map (fun d => d.parameters.length) = some 2 := by decide +kernel
theorem f_yX2_bleed : (yX2_bleed.cls ≠ "java/lang/invoke/MethodHandle" ∧ yX2_bleed.cls ≠ "java/lang/invoke/VarHandle") ∧ (parseMethodDescriptor yX2_bleed.desc).map (fun d => d.parameters.length) = some 1 := by decide +kernel
theorem f_yX2_colourAt : (yX2_colourAt.cls ≠ "java/lang/invoke/MethodHandle" ∧ yX2_colourAt.cls ≠ "java/lang/invoke/VarHandle") ∧ (parseMethodDescriptor yX2_colourAt.desc).map (fun d => d.parameters.length) = some 2 := by decide +kernel
theorem f_yX2_copyColumn : (yX2_copyColumn.cls ≠ "java/lang/invoke/MethodHandle" ∧ yX2_copyColumn.cls ≠ "java/lang/invoke/VarHandle") ∧ (parseMethodDescriptor yX2_copyColumn.desc).map (fun d => d.parameters.length) = some 3 := by decide +kernel
theorem f_yX2_countInNextRow : (yX2_countInNextRow.cls ≠ "java/lang/invoke/MethodHandle" ∧ yX2_countInNextRow.cls ≠ "java/lang/invoke/VarHandle") ∧ (parseMethodDescriptor yX2_countInNextRow.desc).map (fun d => d.parameters.length) = some 2 := by decide +kernel
theorem f_yX2_countLike : (yX2_countLike.cls ≠ "java/lang/invoke/MethodHandle" ∧ yX2_countLike.cls ≠ "java/lang/invoke/VarHandle") ∧ (parseMethodDescriptor yX2_countLike.desc).map (fun d => d.parameters.length) = some 2 := by decide +kernel
theorem f_yX2_countMatching : (yX2_countMatching.cls ≠ "java/lang/invoke/MethodHandle" ∧ yX2_countMatching.cls ≠ "java/lang/invoke/VarHandle") ∧ (parseMethodDescriptor yX2_countMatching.desc).map (fun d => d.parameters.length) = some 1 := by decide +kernel
theorem f_yX2_countSlits : (yX2_countSlits.cls ≠ "java/lang/invoke/MethodHandle" ∧ yX2_countSlits.cls ≠ "java/lang/invoke/VarHandle") ∧ (parseMethodDescriptor yX2_countSlits.desc).map (fun d => d.parameters.length) = some 0 := by decide +kernel
theorem f_yX2_countWoven : (yX2_countWoven.cls ≠ "java/lang/invoke/MethodHandle" ∧ yX2_countWoven.cls ≠ "java/lang/invoke/VarHandle") ∧ (parseMethodDescriptor yX2_countWoven.desc).map (fun d => d.parameters.length) = some 0 := by decide +kernel
theorem f_yX2_countWovenOf : (yX2_countWovenOf.cls ≠ "java/lang/invoke/MethodHandle" ∧ yX2_countWovenOf.cls ≠ "java/lang/invoke/VarHandle") ∧ (parseMethodDescriptor yX2_countWovenOf.desc).map (fun d => d.parameters.length) = some 1 := by decide +kernel
theorem f_yX2_dim : (yX2_dim.cls ≠ "java/lang/invoke/MethodHandle" ∧ yX2_dim.cls ≠ "java/lang/invoke/VarHandle") ∧ (parseMethodDescriptor yX2_dim.desc).map (fun d => d.parameters.length) = some 3 := by decide +kernel
theorem f_yX2_drawFrom : (yX2_drawFrom.cls ≠ "java/lang/invoke/MethodHandle" ∧ yX2_drawFrom.cls ≠ "java/lang/invoke/VarHandle") ∧ (parseMethodDescriptor yX2_drawFrom.desc).map (fun d => d.parameters.length) = some 3 := by decide +kernel
theorem f_yX2_fade : (yX2_fade.cls ≠ "java/lang/invoke/MethodHandle" ∧ yX2_fade.cls ≠ "java/lang/invoke/VarHandle") ∧ (parseMethodDescriptor yX2_fade.desc).map (fun d => d.parameters.length) = some 2 := by decide +kernel
theorem f_yX2_firstColumnOf : (yX2_firstColumnOf.cls ≠ "java/lang/invoke/MethodHandle" ∧ yX2_firstColumnOf.cls ≠ "java/lang/invoke/VarHandle") ∧ (parseMethodDescriptor yX2_firstColumnOf.desc).map (fun d => d.parameters.length) = some 1 := by decide +kernel
theorem f_yX2_hasSlitAhead : (yX2_hasSlitAhead.cls ≠ "java/lang/invoke/MethodHandle" ∧ yX2_hasSlitAhead.cls ≠ "java/lang/invoke/VarHandle") ∧ (parseMethodDescriptor yX2_hasSlitAhead.desc).map (fun d => d.parameters.length) = some 1 := by decide +kernel
theorem f_yX2_hasWovenAll : (yX2_hasWovenAll.cls ≠ "java/lang/invoke/MethodHandle" ∧ yX2_hasWovenAll.cls ≠ "java/lang/invoke/VarHandle") ∧ (parseMethodDescriptor yX2_hasWovenAll.desc).map (fun d => d.parameters.length) = some 1 := by decide +kernel
theorem f_yX2_height : (yX2_height.cls ≠ "java/lang/invoke/MethodHandle" ∧ yX2_height.cls ≠ "java/lang/invoke/VarHandle") ∧ (parseMethodDescriptor yX2_height.desc).map (fun d => d.parameters.length) = some 0 := by decide +kernel
theorem f_yX2_holds : (yX2_holds.cls ≠ "java/lang/invoke/MethodHandle" ∧ yX2_holds.cls ≠ "java/lang/invoke/VarHandle") ∧ (parseMethodDescriptor yX2_holds.desc).map (fun d => d.parameters.length) = some 2 := by decide +kernel
theorem f_yX2_init : (yX2_init.cls ≠ "java/lang/invoke/MethodHandle" ∧ yX2_init.cls ≠ "java/lang/invoke/VarHandle") ∧ (parseMethodDescriptor yX2_init.desc).map (fun d => d.parameters.length) = some 2 := by decide +kernel
theorem f_yX2_isAboveNeighbour : (yX2_isAboveNeighbour.cls ≠ "java/lang/invoke/MethodHandle" ∧ yX2_isAboveNeighbour.cls ≠ "java/lang/invoke/VarHandle") ∧ (parseMethodDescriptor yX2_isAboveNeighbour.desc).map (fun d => d.parameters.length) = some 1 := by decide +kernel
theorem f_yX2_isAllTrue : (yX2_isAllTrue.cls ≠ "java/lang/invoke/MethodHandle" ∧ yX2_isAllTrue.cls ≠ "java/lang/invoke/VarHandle") ∧ (parseMethodDescriptor yX2_isAllTrue.desc).map (fun d => d.parameters.length) = some 0 := by decide +kernel
theorem f_yX2_isDone : (yX2_isDone.cls ≠ "java/lang/invoke/MethodHandle" ∧ yX2_isDone.cls ≠ "java/lang/invoke/VarHandle") ∧ (parseMethodDescriptor yX2_isDone.desc).map (fun d => d.parameters.length) = some 0 := by decide +kernel
theorem f_yX2_isSewnAhead : (yX2_isSewnAhead.cls ≠ "java/lang/invoke/MethodHandle" ∧ yX2_isSewnAhead.cls ≠ "java/lang/invoke/VarHandle") ∧ (parseMethodDescriptor yX2_isSewnAhead.desc).map (fun d => d.parameters.length) = some 1 := by decide +kernel
theorem f_yX2_isTrueAhead : (yX2_isTrueAhead.cls ≠ "java/lang/invoke/MethodHandle" ∧ yX2_isTrueAhead.cls ≠ "java/lang/invoke/VarHandle") ∧ (parseMethodDescriptor yX2_isTrueAhead.desc).map (fun d => d.parameters.length) = some 1 := by decide +kernel
theorem f_yX2_keepAhead : (yX2_keepAhead.cls ≠ "java/lang/invoke/MethodHandle" ∧ yX2_keepAhead.cls ≠ "java/lang/invoke/VarHandle") ∧ (parseMethodDescriptor yX2_keepAhead.desc).map (fun d => d.parameters.length) = some 1 := by decide +kernel
theorem f_yX2_longestUnlikeAhead : (yX2_longestUnlikeAhead.cls ≠ "java/lang/invoke/MethodHandle" ∧ yX2_longestUnlikeAhead.cls ≠ "java/lang/invoke/VarHandle") ∧ (parseMethodDescriptor yX2_longestUnlikeAhead.desc).map (fun d => d.parameters.length) = some 1 := by decide +kernel
theorem f_yX2_lotAt : (yX2_lotAt.cls ≠ "java/lang/invoke/MethodHandle" ∧ yX2_lotAt.cls ≠ "java/lang/invoke/VarHandle") ∧ (parseMethodDescriptor yX2_lotAt.desc).map (fun d => d.parameters.length) = some 2 := by decide +kernel
theorem f_yX2_originOf : (yX2_originOf.cls ≠ "java/lang/invoke/MethodHandle" ∧ yX2_originOf.cls ≠ "java/lang/invoke/VarHandle") ∧ (parseMethodDescriptor yX2_originOf.desc).map (fun d => d.parameters.length) = some 2 := by decide +kernel
theorem f_yX2_placeOf : (yX2_placeOf.cls ≠ "java/lang/invoke/MethodHandle" ∧ yX2_placeOf.cls ≠ "java/lang/invoke/VarHandle") ∧ (parseMethodDescriptor yX2_placeOf.desc).map (fun d => d.parameters.length) = some 2 := by decide +kernel
theorem f_yX2_setSewnAhead : (yX2_setSewnAhead.cls ≠ "java/lang/invoke/MethodHandle" ∧ yX2_setSewnAhead.cls ≠ "java/lang/invoke/VarHandle") ∧ (parseMethodDescriptor yX2_setSewnAhead.desc).map (fun d => d.parameters.length) = some 2 := by decide +kernel
theorem f_yX2_sewAhead : (yX2_sewAhead.cls ≠ "java/lang/invoke/MethodHandle" ∧ yX2_sewAhead.cls ≠ "java/lang/invoke/VarHandle") ∧ (parseMethodDescriptor yX2_sewAhead.desc).map (fun d => d.parameters.length) = some 1 := by decide +kernel
theorem f_yX2_shadeAt : (yX2_shadeAt.cls ≠ "java/lang/invoke/MethodHandle" ∧ yX2_shadeAt.cls ≠ "java/lang/invoke/VarHandle") ∧ (parseMethodDescriptor yX2_shadeAt.desc).map (fun d => d.parameters.length) = some 2 := by decide +kernel
theorem f_yX2_stain : (yX2_stain.cls ≠ "java/lang/invoke/MethodHandle" ∧ yX2_stain.cls ≠ "java/lang/invoke/VarHandle") ∧ (parseMethodDescriptor yX2_stain.desc).map (fun d => d.parameters.length) = some 3 := by decide +kernel
theorem f_yX2_sumOfShades : (yX2_sumOfShades.cls ≠ "java/lang/invoke/MethodHandle" ∧ yX2_sumOfShades.cls ≠ "java/lang/invoke/VarHandle") ∧ (parseMethodDescriptor yX2_sumOfShades.desc).map (fun d => d.parameters.length) = some 0 := by decide +kernel
theorem f_yX2_threadsSuffice : (yX2_threadsSuffice.cls ≠ "java/lang/invoke/MethodHandle" ∧ yX2_threadsSuffice.cls ≠ "java/lang/invoke/VarHandle") ∧ (parseMethodDescriptor yX2_threadsSuffice.desc).map (fun d => d.parameters.length) = some 2 := by decide +kernel
theorem f_yX2_weaveRow : (yX2_weaveRow.cls ≠ "java/lang/invoke/MethodHandle" ∧ yX2_weaveRow.cls ≠ "java/lang/invoke/VarHandle") ∧ (parseMethodDescriptor yX2_weaveRow.desc).map (fun d => d.parameters.length) = some 2 := by decide +kernel
theorem f_yX2_weavers : (yX2_weavers.cls ≠ "java/lang/invoke/MethodHandle" ∧ yX2_weavers.cls ≠ "java/lang/invoke/VarHandle") ∧ (parseMethodDescriptor yX2_weavers.desc).map (fun d => d.parameters.length) = some 0 := by decide +kernel
theorem f_yX2_width : (yX2_width.cls ≠ "java/lang/invoke/MethodHandle" ∧ yX2_width.cls ≠ "java/lang/invoke/VarHandle") ∧ (parseMethodDescriptor yX2_width.desc).map (fun d => d.parameters.length) = some 0 := by decide +kernel
theorem f_yX3_balances : (yX3_balances.cls ≠ "java/lang/invoke/MethodHandle" ∧ yX3_balances.cls ≠ "java/lang/invoke/VarHandle") ∧ (parseMethodDescriptor yX3_balances.desc).map (fun d => d.parameters.length) = some 0 := by decide +kernel
theorem f_yX3_cartoon : (yX3_cartoon.cls ≠ "java/lang/invoke/MethodHandle" ∧ yX3_cartoon.cls ≠ "java/lang/invoke/VarHandle") ∧ (parseMethodDescriptor yX3_cartoon.desc).map (fun d => d.parameters.length) = some 1 := by decide +kernel
theorem f_yX3_cartoonNumbered : (yX3_cartoonNumbered.cls ≠ "java/lang/invoke/MethodHandle" ∧ yX3_cartoonNumbered.cls ≠ "java/lang/invoke/VarHandle") ∧ (parseMethodDescriptor yX3_cartoonNumbered.desc).map (fun d => d.parameters.length) = some 1 := by decide +kernel
theorem f_yX3_cell : (yX3_cell.cls ≠ "java/lang/invoke/MethodHandle" ∧ yX3_cell.cls ≠ "java/lang/invoke/VarHandle") ∧ (parseMethodDescriptor yX3_cell.desc).map (fun d => d.parameters.length) = some 4 := by decide +kernel
theorem f_yX3_cut : (yX3_cut.cls ≠ "java/lang/invoke/MethodHandle" ∧ yX3_cut.cls ≠ "java/lang/invoke/VarHandle") ∧ (parseMethodDescriptor yX3_cut.desc).map (fun d => d.parameters.length) = some 2 := by decide +kernel
theorem f_yX3_dropPiece : (yX3_dropPiece.cls ≠ "java/lang/invoke/MethodHandle" ∧ yX3_dropPiece.cls ≠ "java/lang/invoke/VarHandle") ∧ (parseMethodDescriptor yX3_dropPiece.desc).map (fun d => d.parameters.length) = some 1 := by decide +kernel
theorem f_yX3_dye : (yX3_dye.cls ≠ "java/lang/invoke/MethodHandle" ∧ yX3_dye.cls ≠ "java/lang/invoke/VarHandle") ∧ (parseMethodDescriptor yX3_dye.desc).map (fun d => d.parameters.length) = some 4 := by decide +kernel
theorem f_yX3_empty : (yX3_empty.cls ≠ "java/lang/invoke/MethodHandle" ∧ yX3_empty.cls ≠ "java/lang/invoke/VarHandle") ∧ (parseMethodDescriptor yX3_empty.desc).map (fun d => d.parameters.length) = some 0 := by decide +kernel
theorem f_yX3_gold : (yX3_gold.cls ≠ "java/lang/invoke/MethodHandle" ∧ yX3_gold.cls ≠ "java/lang/invoke/VarHandle") ∧ (parseMethodDescriptor yX3_gold.desc).map (fun d => d.parameters.length) = some 0 := by decide +kernel
theorem f_yX3_hatch : (yX3_hatch.cls ≠ "java/lang/invoke/MethodHandle" ∧ yX3_hatch.cls ≠ "java/lang/invoke/VarHandle") ∧ (parseMethodDescriptor yX3_hatch.desc).map (fun d => d.parameters.length) = some 3 := by decide +kernel
theorem f_yX3_init : (yX3_init.cls ≠ "java/lang/invoke/MethodHandle" ∧ yX3_init.cls ≠ "java/lang/invoke/VarHandle") ∧ (parseMethodDescriptor yX3_init.desc).map (fun d => d.parameters.length) = some 0 := by decide +kernel
theorem f_yX3_isTrue : (yX3_isTrue.cls ≠ "java/lang/invoke/MethodHandle" ∧ yX3_isTrue.cls ≠ "java/lang/invoke/VarHandle") ∧ (parseMethodDescriptor yX3_isTrue.desc).map (fun d => d.parameters.length) = some 1 := by decide +kernel
theorem f_yX3_join : (yX3_join.cls ≠ "java/lang/invoke/MethodHandle" ∧ yX3_join.cls ≠ "java/lang/invoke/VarHandle") ∧ (parseMethodDescriptor yX3_join.desc).map (fun d => d.parameters.length) = some 2 := by decide +kernel
theorem f_yX3_keepPiece : (yX3_keepPiece.cls ≠ "java/lang/invoke/MethodHandle" ∧ yX3_keepPiece.cls ≠ "java/lang/invoke/VarHandle") ∧ (parseMethodDescriptor yX3_keepPiece.desc).map (fun d => d.parameters.length) = some 1 := by decide +kernel
theorem f_yX3_left : (yX3_left.cls ≠ "java/lang/invoke/MethodHandle" ∧ yX3_left.cls ≠ "java/lang/invoke/VarHandle") ∧ (parseMethodDescriptor yX3_left.desc).map (fun d => d.parameters.length) = some 1 := by decide +kernel
theorem f_yX3_light : (yX3_light.cls ≠ "java/lang/invoke/MethodHandle" ∧ yX3_light.cls ≠ "java/lang/invoke/VarHandle") ∧ (parseMethodDescriptor yX3_light.desc).map (fun d => d.parameters.length) = some 2 := by decide +kernel
theorem f_yX3_likeness : (yX3_likeness.cls ≠ "java/lang/invoke/MethodHandle" ∧ yX3_likeness.cls ≠ "java/lang/invoke/VarHandle") ∧ (parseMethodDescriptor yX3_likeness.desc).map (fun d => d.parameters.length) = some 2 := by decide +kernel
theorem f_yX3_loom : (yX3_loom.cls ≠ "java/lang/invoke/MethodHandle" ∧ yX3_loom.cls ≠ "java/lang/invoke/VarHandle") ∧ (parseMethodDescriptor yX3_loom.desc).map (fun d => d.parameters.length) = some 3 := by decide +kernel
theorem f_yX3_match : (yX3_match.cls ≠ "java/lang/invoke/MethodHandle" ∧ yX3_match.cls ≠ "java/lang/invoke/VarHandle") ∧ (parseMethodDescriptor yX3_match.desc).map (fun d => d.parameters.length) = some 2 := by decide +kernel
theorem f_yX3_pieceIs : (yX3_pieceIs.cls ≠ "java/lang/invoke/MethodHandle" ∧ yX3_pieceIs.cls ≠ "java/lang/invoke/VarHandle") ∧ (parseMethodDescriptor yX3_pieceIs.desc).map (fun d => d.parameters.length) = some 2 := by decide +kernel
theorem f_yX3_pieceNumbered : (yX3_pieceNumbered.cls ≠ "java/lang/invoke/MethodHandle" ∧ yX3_pieceNumbered.cls ≠ "java/lang/invoke/VarHandle") ∧ (parseMethodDescriptor yX3_pieceNumbered.desc).map (fun d => d.parameters.length) = some 1 := by decide +kernel
theorem f_yX3_requireColour : (yX3_requireColour.cls ≠ "java/lang/invoke/MethodHandle" ∧ yX3_requireColour.cls ≠ "java/lang/invoke/VarHandle") ∧ (parseMethodDescriptor yX3_requireColour.desc).map (fun d => d.parameters.length) = some 1 := by decide +kernel
theorem f_yX3_requireDone : (yX3_requireDone.cls ≠ "java/lang/invoke/MethodHandle" ∧ yX3_requireDone.cls ≠ "java/lang/invoke/VarHandle") ∧ (parseMethodDescriptor yX3_requireDone.desc).map (fun d => d.parameters.length) = some 1 := by decide +kernel
theorem f_yX3_requireRoomForPiece : (yX3_requireRoomForPiece.cls ≠ "java/lang/invoke/MethodHandle" ∧ yX3_requireRoomForPiece.cls ≠ "java/lang/invoke/VarHandle") ∧ (parseMethodDescriptor yX3_requireRoomForPiece.desc).map (fun d => d.parameters.length) = some 0 := by decide +kernel
theorem f_yX3_requireSecondColumn : (yX3_requireSecondColumn.cls ≠ "java/lang/invoke/MethodHandle" ∧ yX3_requireSecondColumn.cls ≠ "java/lang/invoke/VarHandle") ∧ (parseMethodDescriptor yX3_requireSecondColumn.desc).map (fun d => d.parameters.length) = some 2 := by decide +kernel
theorem f_yX3_requireTwoDone : (yX3_requireTwoDone.cls ≠ "java/lang/invoke/MethodHandle" ∧ yX3_requireTwoDone.cls ≠ "java/lang/invoke/VarHandle") ∧ (parseMethodDescriptor yX3_requireTwoDone.desc).map (fun d => d.parameters.length) = some 4 := by decide +kernel
theorem f_yX3_row : (yX3_row.cls ≠ "java/lang/invoke/MethodHandle" ∧ yX3_row.cls ≠ "java/lang/invoke/VarHandle") ∧ (parseMethodDescriptor yX3_row.desc).map (fun d => d.parameters.length) = some 1 := by decide +kernel
theorem f_yX3_setAt : (yX3_setAt.cls ≠ "java/lang/invoke/MethodHandle" ∧ yX3_setAt.cls ≠ "java/lang/invoke/VarHandle") ∧ (parseMethodDescriptor yX3_setAt.desc).map (fun d => d.parameters.length) = some 3 := by decide +kernel
theorem f_yX3_sew : (yX3_sew.cls ≠ "java/lang/invoke/MethodHandle" ∧ yX3_sew.cls ≠ "java/lang/invoke/VarHandle") ∧ (parseMethodDescriptor yX3_sew.desc).map (fun d => d.parameters.length) = some 2 := by decide +kernel
theorem f_yX3_signOf : (yX3_signOf.cls ≠ "java/lang/invoke/MethodHandle" ∧ yX3_signOf.cls ≠ "java/lang/invoke/VarHandle") ∧ (parseMethodDescriptor yX3_signOf.desc).map (fun d => d.parameters.length) = some 1 := by decide +kernel
theorem f_yX3_type : (yX3_type.cls ≠ "java/lang/invoke/MethodHandle" ∧ yX3_type.cls ≠ "java/lang/invoke/VarHandle") ∧ (parseMethodDescriptor yX3_type.desc).map (fun d => d.parameters.length) = some 1 := by decide +kernel
theorem f_yX3_valueAt : (yX3_valueAt.cls ≠ "java/lang/invoke/MethodHandle" ∧ yX3_valueAt.cls ≠ "java/lang/invoke/VarHandle") ∧ (parseMethodDescriptor yX3_valueAt.desc).map (fun d => d.parameters.length) = some 2 := by decide +kernel
theorem f_yX3_wash : (yX3_wash.cls ≠ "java/lang/invoke/MethodHandle" ∧ yX3_wash.cls ≠ "java/lang/invoke/VarHandle") ∧ (parseMethodDescriptor yX3_wash.desc).map (fun d => d.parameters.length) = some 1 := by decide +kernel
theorem f_yX3_weave : (yX3_weave.cls ≠ "java/lang/invoke/MethodHandle" ∧ yX3_weave.cls ≠ "java/lang/invoke/VarHandle") ∧ (parseMethodDescriptor yX3_weave.desc).map (fun d => d.parameters.length) = some 2 := by decide +kernel
theorem f_yX4_at : (yX4_at.cls ≠ "java/lang/invoke/MethodHandle" ∧ yX4_at.cls ≠ "java/lang/invoke/VarHandle") ∧ (parseMethodDescriptor yX4_at.desc).map (fun d => d.parameters.length) = some 3 := by decide +kernel
theorem f_yX4_balances : (yX4_balances.cls ≠ "java/lang/invoke/MethodHandle" ∧ yX4_balances.cls ≠ "java/lang/invoke/VarHandle") ∧ (parseMethodDescriptor yX4_balances.desc).map (fun d => d.parameters.length) = some 0 := by decide +kernel
theorem f_yX4_cartoon : (yX4_cartoon.cls ≠ "java/lang/invoke/MethodHandle" ∧ yX4_cartoon.cls ≠ "java/lang/invoke/VarHandle") ∧ (parseMethodDescriptor yX4_cartoon.desc).map (fun d => d.parameters.length) = some 1 := by decide +kernel
theorem f_yX4_cell : (yX4_cell.cls ≠ "java/lang/invoke/MethodHandle" ∧ yX4_cell.cls ≠ "java/lang/invoke/VarHandle") ∧ (parseMethodDescriptor yX4_cell.desc).map (fun d => d.parameters.length) = some 4 := by decide +kernel
theorem f_yX4_copies : (yX4_copies.cls ≠ "java/lang/invoke/MethodHandle" ∧ yX4_copies.cls ≠ "java/lang/invoke/VarHandle") ∧ (parseMethodDescriptor yX4_copies.desc).map (fun d => d.parameters.length) = some 4 := by decide +kernel
theorem f_yX4_cut : (yX4_cut.cls ≠ "java/lang/invoke/MethodHandle" ∧ yX4_cut.cls ≠ "java/lang/invoke/VarHandle") ∧ (parseMethodDescriptor yX4_cut.desc).map (fun d => d.parameters.length) = some 2 := by decide +kernel
theorem f_yX4_drawnAt : (yX4_drawnAt.cls ≠ "java/lang/invoke/MethodHandle" ∧ yX4_drawnAt.cls ≠ "java/lang/invoke/VarHandle") ∧ (parseMethodDescriptor yX4_drawnAt.desc).map (fun d => d.parameters.length) = some 3 := by decide +kernel
theorem f_yX4_dye : (yX4_dye.cls ≠ "java/lang/invoke/MethodHandle" ∧ yX4_dye.cls ≠ "java/lang/invoke/VarHandle") ∧ (parseMethodDescriptor yX4_dye.desc).map (fun d => d.parameters.length) = some 4 := by decide +kernel
theorem f_yX4_empty : (yX4_empty.cls ≠ "java/lang/invoke/MethodHandle" ∧ yX4_empty.cls ≠ "java/lang/invoke/VarHandle") ∧ (parseMethodDescriptor yX4_empty.desc).map (fun d => d.parameters.length) = some 0 := by decide +kernel
theorem f_yX4_giver : (yX4_giver.cls ≠ "java/lang/invoke/MethodHandle" ∧ yX4_giver.cls ≠ "java/lang/invoke/VarHandle") ∧ (parseMethodDescriptor yX4_giver.desc).map (fun d => d.parameters.length) = some 1 := by decide +kernel
theorem f_yX4_goes : (yX4_goes.cls ≠ "java/lang/invoke/MethodHandle" ∧ yX4_goes.cls ≠ "java/lang/invoke/VarHandle") ∧ (parseMethodDescriptor yX4_goes.desc).map (fun d => d.parameters.length) = some 3 := by decide +kernel
theorem f_yX4_gold : (yX4_gold.cls ≠ "java/lang/invoke/MethodHandle" ∧ yX4_gold.cls ≠ "java/lang/invoke/VarHandle") ∧ (parseMethodDescriptor yX4_gold.desc).map (fun d => d.parameters.length) = some 0 := by decide +kernel
theorem f_yX4_hatch : (yX4_hatch.cls ≠ "java/lang/invoke/MethodHandle" ∧ yX4_hatch.cls ≠ "java/lang/invoke/VarHandle") ∧ (parseMethodDescriptor yX4_hatch.desc).map (fun d => d.parameters.length) = some 3 := by decide +kernel
theorem f_yX4_in : (yX4_in.cls ≠ "java/lang/invoke/MethodHandle" ∧ yX4_in.cls ≠ "java/lang/invoke/VarHandle") ∧ (parseMethodDescriptor yX4_in.desc).map (fun d => d.parameters.length) = some 3 := by decide +kernel
theorem f_yX4_init : (yX4_init.cls ≠ "java/lang/invoke/MethodHandle" ∧ yX4_init.cls ≠ "java/lang/invoke/VarHandle") ∧ (parseMethodDescriptor yX4_init.desc).map (fun d => d.parameters.length) = some 0 := by decide +kernel
theorem f_yX4_isCartoon : (yX4_isCartoon.cls ≠ "java/lang/invoke/MethodHandle" ∧ yX4_isCartoon.cls ≠ "java/lang/invoke/VarHandle") ∧ (parseMethodDescriptor yX4_isCartoon.desc).map (fun d => d.parameters.length) = some 1 := by decide +kernel
theorem f_yX4_isColour : (yX4_isColour.cls ≠ "java/lang/invoke/MethodHandle" ∧ yX4_isColour.cls ≠ "java/lang/invoke/VarHandle") ∧ (parseMethodDescriptor yX4_isColour.desc).map (fun d => d.parameters.length) = some 1 := by decide +kernel
theorem f_yX4_isDone : (yX4_isDone.cls ≠ "java/lang/invoke/MethodHandle" ∧ yX4_isDone.cls ≠ "java/lang/invoke/VarHandle") ∧ (parseMethodDescriptor yX4_isDone.desc).map (fun d => d.parameters.length) = some 1 := by decide +kernel
theorem f_yX4_isInner : (yX4_isInner.cls ≠ "java/lang/invoke/MethodHandle" ∧ yX4_isInner.cls ≠ "java/lang/invoke/VarHandle") ∧ (parseMethodDescriptor yX4_isInner.desc).map (fun d => d.parameters.length) = some 2 := by decide +kernel
theorem f_yX4_isPiece : (yX4_isPiece.cls ≠ "java/lang/invoke/MethodHandle" ∧ yX4_isPiece.cls ≠ "java/lang/invoke/VarHandle") ∧ (parseMethodDescriptor yX4_isPiece.desc).map (fun d => d.parameters.length) = some 1 := by decide +kernel
theorem f_yX4_isRight : (yX4_isRight.cls ≠ "java/lang/invoke/MethodHandle" ∧ yX4_isRight.cls ≠ "java/lang/invoke/VarHandle") ∧ (parseMethodDescriptor yX4_isRight.desc).map (fun d => d.parameters.length) = some 2 := by decide +kernel
theorem f_yX4_isSlit : (yX4_isSlit.cls ≠ "java/lang/invoke/MethodHandle" ∧ yX4_isSlit.cls ≠ "java/lang/invoke/VarHandle") ∧ (parseMethodDescriptor yX4_isSlit.desc).map (fun d => d.parameters.length) = some 2 := by decide +kernel
theorem f_yX4_isTrue : (yX4_isTrue.cls ≠ "java/lang/invoke/MethodHandle" ∧ yX4_isTrue.cls ≠ "java/lang/invoke/VarHandle") ∧ (parseMethodDescriptor yX4_isTrue.desc).map (fun d => d.parameters.length) = some 1 := by decide +kernel
theorem f_yX4_isUnlike : (yX4_isUnlike.cls ≠ "java/lang/invoke/MethodHandle" ∧ yX4_isUnlike.cls ≠ "java/lang/invoke/VarHandle") ∧ (parseMethodDescriptor yX4_isUnlike.desc).map (fun d => d.parameters.length) = some 3 := by decide +kernel
theorem f_yX4_join : (yX4_join.cls ≠ "java/lang/invoke/MethodHandle" ∧ yX4_join.cls ≠ "java/lang/invoke/VarHandle") ∧ (parseMethodDescriptor yX4_join.desc).map (fun d => d.parameters.length) = some 2 := by decide +kernel
theorem f_yX4_left : (yX4_left.cls ≠ "java/lang/invoke/MethodHandle" ∧ yX4_left.cls ≠ "java/lang/invoke/VarHandle") ∧ (parseMethodDescriptor yX4_left.desc).map (fun d => d.parameters.length) = some 1 := by decide +kernel
theorem f_yX4_light : (yX4_light.cls ≠ "java/lang/invoke/MethodHandle" ∧ yX4_light.cls ≠ "java/lang/invoke/VarHandle") ∧ (parseMethodDescriptor yX4_light.desc).map (fun d => d.parameters.length) = some 2 := by decide +kernel
theorem f_yX4_likeness : (yX4_likeness.cls ≠ "java/lang/invoke/MethodHandle" ∧ yX4_likeness.cls ≠ "java/lang/invoke/VarHandle") ∧ (parseMethodDescriptor yX4_likeness.desc).map (fun d => d.parameters.length) = some 2 := by decide +kernel
theorem f_yX4_loom : (yX4_loom.cls ≠ "java/lang/invoke/MethodHandle" ∧ yX4_loom.cls ≠ "java/lang/invoke/VarHandle") ∧ (parseMethodDescriptor yX4_loom.desc).map (fun d => d.parameters.length) = some 3 := by decide +kernel
theorem f_yX4_match : (yX4_match.cls ≠ "java/lang/invoke/MethodHandle" ∧ yX4_match.cls ≠ "java/lang/invoke/VarHandle") ∧ (parseMethodDescriptor yX4_match.desc).map (fun d => d.parameters.length) = some 2 := by decide +kernel
theorem f_yX4_mayWeave : (yX4_mayWeave.cls ≠ "java/lang/invoke/MethodHandle" ∧ yX4_mayWeave.cls ≠ "java/lang/invoke/VarHandle") ∧ (parseMethodDescriptor yX4_mayWeave.desc).map (fun d => d.parameters.length) = some 2 := by decide +kernel
theorem f_yX4_numberOf : (yX4_numberOf.cls ≠ "java/lang/invoke/MethodHandle" ∧ yX4_numberOf.cls ≠ "java/lang/invoke/VarHandle") ∧ (parseMethodDescriptor yX4_numberOf.desc).map (fun d => d.parameters.length) = some 1 := by decide +kernel
theorem f_yX4_pieceIs : (yX4_pieceIs.cls ≠ "java/lang/invoke/MethodHandle" ∧ yX4_pieceIs.cls ≠ "java/lang/invoke/VarHandle") ∧ (parseMethodDescriptor yX4_pieceIs.desc).map (fun d => d.parameters.length) = some 2 := by decide +kernel
theorem f_yX4_row : (yX4_row.cls ≠ "java/lang/invoke/MethodHandle" ∧ yX4_row.cls ≠ "java/lang/invoke/VarHandle") ∧ (parseMethodDescriptor yX4_row.desc).map (fun d => d.parameters.length) = some 1 := by decide +kernel
theorem f_yX4_runs : (yX4_runs.cls ≠ "java/lang/invoke/MethodHandle" ∧ yX4_runs.cls ≠ "java/lang/invoke/VarHandle") ∧ (parseMethodDescriptor yX4_runs.desc).map (fun d => d.parameters.length) = some 4 := by decide +kernel
theorem f_yX4_setsColumn : (yX4_setsColumn.cls ≠ "java/lang/invoke/MethodHandle" ∧ yX4_setsColumn.cls ≠ "java/lang/invoke/VarHandle") ∧ (parseMethodDescriptor yX4_setsColumn.desc).map (fun d => d.parameters.length) = some 4 := by decide +kernel
theorem f_yX4_sew : (yX4_sew.cls ≠ "java/lang/invoke/MethodHandle" ∧ yX4_sew.cls ≠ "java/lang/invoke/VarHandle") ∧ (parseMethodDescriptor yX4_sew.desc).map (fun d => d.parameters.length) = some 2 := by decide +kernel
theorem f_yX4_shades : (yX4_shades.cls ≠ "java/lang/invoke/MethodHandle" ∧ yX4_shades.cls ≠ "java/lang/invoke/VarHandle") ∧ (parseMethodDescriptor yX4_shades.desc).map (fun d => d.parameters.length) = some 1 := by decide +kernel
theorem f_yX4_slits : (yX4_slits.cls ≠ "java/lang/invoke/MethodHandle" ∧ yX4_slits.cls ≠ "java/lang/invoke/VarHandle") ∧ (parseMethodDescriptor yX4_slits.desc).map (fun d => d.parameters.length) = some 1 := by decide +kernel
theorem f_yX4_thrown : (yX4_thrown.cls ≠ "java/lang/invoke/MethodHandle" ∧ yX4_thrown.cls ≠ "java/lang/invoke/VarHandle") ∧ (parseMethodDescriptor yX4_thrown.desc).map (fun d => d.parameters.length) = some 0 := by decide +kernel
theorem f_yX4_type : (yX4_type.cls ≠ "java/lang/invoke/MethodHandle" ∧ yX4_type.cls ≠ "java/lang/invoke/VarHandle") ∧ (parseMethodDescriptor yX4_type.desc).map (fun d => d.parameters.length) = some 1 := by decide +kernel
theorem f_yX4_wash : (yX4_wash.cls ≠ "java/lang/invoke/MethodHandle" ∧ yX4_wash.cls ≠ "java/lang/invoke/VarHandle") ∧ (parseMethodDescriptor yX4_wash.desc).map (fun d => d.parameters.length) = some 1 := by decide +kernel
theorem f_yX4_weave : (yX4_weave.cls ≠ "java/lang/invoke/MethodHandle" ∧ yX4_weave.cls ≠ "java/lang/invoke/VarHandle") ∧ (parseMethodDescriptor yX4_weave.desc).map (fun d => d.parameters.length) = some 2 := by decide +kernel
theorem f_yX4_weaves : (yX4_weaves.cls ≠ "java/lang/invoke/MethodHandle" ∧ yX4_weaves.cls ≠ "java/lang/invoke/VarHandle") ∧ (parseMethodDescriptor yX4_weaves.desc).map (fun d => d.parameters.length) = some 4 := by decide +kernel
theorem f_yX4_wovenIn : (yX4_wovenIn.cls ≠ "java/lang/invoke/MethodHandle" ∧ yX4_wovenIn.cls ≠ "java/lang/invoke/VarHandle") ∧ (parseMethodDescriptor yX4_wovenIn.desc).map (fun d => d.parameters.length) = some 1 := by decide +kernel
theorem f_yX4_wovenOf : (yX4_wovenOf.cls ≠ "java/lang/invoke/MethodHandle" ∧ yX4_wovenOf.cls ≠ "java/lang/invoke/VarHandle") ∧ (parseMethodDescriptor yX4_wovenOf.desc).map (fun d => d.parameters.length) = some 1 := by decide +kernel
