/-! ===== the words that are used, by their places ===== -/
theorem t_1 : lw_tbl[1]? = some (.selects RX3 yX3_pieceNumbered yX3_pieceNumbered) := by decide +kernel
theorem t_2 : lw_tbl[2]? = some (.selects RX2 yX2_isSewnAhead yX2_isSewnAhead) := by decide +kernel
theorem t_3 : lw_tbl[3]? = some (.selects RX2 yX2_longestUnlikeAhead yX2_longestUnlikeAhead) := by decide +kernel
theorem t_4 : lw_tbl[4]? = some (.selects RX3 yX3_cartoonNumbered yX3_cartoonNumbered) := by decide +kernel
theorem t_5 : lw_tbl[5]? = some (.selects RX3 yX3_requireRoomForPiece yX3_requireRoomForPiece) := by decide +kernel
theorem t_6 : lw_tbl[6]? = some (.selects RX3 yX3_keepPiece yX3_keepPiece) := by decide +kernel
theorem t_7 : lw_tbl[7]? = some (.selects RX2 yX2_countInNextRow yX2_countInNextRow) := by decide +kernel
theorem t_8 : lw_tbl[8]? = some (.selects RX2 yX2_firstColumnOf yX2_firstColumnOf) := by decide +kernel
theorem t_9 : lw_tbl[9]? = some (.selects RX2 yX2_copyColumn yX2_copyColumn) := by decide +kernel
theorem t_10 : lw_tbl[10]? = some (.selects RX2 yX2_setSewnAhead yX2_setSewnAhead) := by decide +kernel
theorem t_11 : lw_tbl[11]? = some (.selects RX3 yX3_dropPiece yX3_dropPiece) := by decide +kernel
theorem t_12 : lw_tbl[12]? = some (.selects RX2 yX2_stain yX2_stain) := by decide +kernel
theorem t_13 : lw_tbl[13]? = some (.selects RX2 yX2_dim yX2_dim) := by decide +kernel
theorem t_14 : lw_tbl[14]? = some (.initialized RL) := by decide +kernel
theorem t_15 : lw_tbl[15]? = some (.initialized RX3) := by decide +kernel
theorem t_16 : lw_tbl[16]? = some (.initialized RX1) := by decide +kernel
theorem t_17 : lw_tbl[17]? = some (.initialized "java/lang/Throwable") := by decide +kernel
theorem t_18 : lw_tbl[18]? = some (.initialized "java/lang/Exception") := by decide +kernel
theorem t_19 : lw_tbl[19]? = some (.initialized "java/lang/RuntimeException") := by decide +kernel
theorem t_20 : lw_tbl[20]? = some (.initialized "java/lang/IllegalArgumentException") := by decide +kernel
theorem t_21 : lw_tbl[21]? = some (.initialized "java/lang/IllegalStateException") := by decide +kernel
theorem t_22 : lw_tbl[22]? = some (.initialized RX0) := by decide +kernel
theorem t_23 : lw_tbl[23]? = some (.initialized "java/lang/IndexOutOfBoundsException") := by decide +kernel
theorem t_24 : lw_tbl[24]? = some (.initialized RX2) := by decide +kernel
theorem t_25 : lw_tbl[25]? = some (.initialized "java/lang/Math") := by decide +kernel
theorem t_26 : lw_tbl[26]? = some (.classLink RL 11 RX3) := by decide +kernel
theorem t_27 : lw_tbl[27]? = some (.instantiable RX3 8) := by decide +kernel
theorem t_28 : lw_tbl[28]? = some (.methodLink RL 175 yX3_init) := by decide +kernel
theorem t_29 : lw_tbl[29]? = some (.instanceMethod yX3_init) := by decide +kernel
theorem t_30 : lw_tbl[30]? = some (.code yX3_init cX3_init 1 (none : Option FieldType)) := by decide +kernel
theorem t_31 : lw_tbl[31]? = some (.methodLink RX3 1 ⟨"java/lang/Object", "<init>", "()V"⟩) := by decide +kernel
theorem t_32 : lw_tbl[32]? = some (.instanceMethod ⟨"java/lang/Object", "<init>", "()V"⟩) := by decide +kernel
theorem t_33 : lw_tbl[33]? = some (.code ⟨"java/lang/Object", "<init>", "()V"⟩ object_method_1_code 1 (none : Option FieldType)) := by decide +kernel
theorem t_34 : lw_tbl[34]? = some (.classLink RX3 17 RX0) := by decide +kernel
theorem t_36 : lw_tbl[36]? = some (.classLink RX3 26 RX1) := by decide +kernel
theorem t_37 : lw_tbl[37]? = some (.instantiable RX1 6) := by decide +kernel
theorem t_38 : lw_tbl[38]? = some (.methodLink RX3 28 yX1_init) := by decide +kernel
theorem t_39 : lw_tbl[39]? = some (.instanceMethod yX1_init) := by decide +kernel
theorem t_40 : lw_tbl[40]? = some (.code yX1_init cX1_init 1 (none : Option FieldType)) := by decide +kernel
theorem t_41 : lw_tbl[41]? = some (.methodLink RX1 3 ⟨"java/lang/Object", "<init>", "()V"⟩) := by decide +kernel
theorem t_42 : lw_tbl[42]? = some (.fieldLink RX1 9 RX1 "count" "I") := by decide +kernel
theorem t_43 : lw_tbl[43]? = some (.fieldLink RX1 15 RX1 "colours" "[I") := by decide +kernel
theorem t_44 : lw_tbl[44]? = some (.fieldLink RX1 19 RX1 "threadsAtFirst" "[I") := by decide +kernel
theorem t_45 : lw_tbl[45]? = some (.fieldLink RX1 22 RX1 "threadsLeft" "[I") := by decide +kernel
theorem t_46 : lw_tbl[46]? = some (.fieldLink RX1 25 RX1 "fades" "[I") := by decide +kernel
theorem t_47 : lw_tbl[47]? = some (.fieldLink RX1 28 RX1 "bleeding" "[Z") := by decide +kernel
theorem t_63 : lw_tbl[63]? = some (.classLink RX3 33 RX2) := by decide +kernel
theorem t_65 : lw_tbl[65]? = some (.fieldLink RX3 9 RX3 "word" "[I") := by decide +kernel
theorem t_66 : lw_tbl[66]? = some (.fieldLink RX3 13 RX3 "wordLength" "I") := by decide +kernel
theorem t_67 : lw_tbl[67]? = some (.fieldLink RX3 19 RX3 "cartoons" "[LWeftHouse$Cartoon;") := by decide +kernel
theorem t_68 : lw_tbl[68]? = some (.fieldLink RX3 23 RX3 "cartoonCount" "I") := by decide +kernel
theorem t_69 : lw_tbl[69]? = some (.fieldLink RX3 29 RX3 "lots" "LWeftHouse$Lots;") := by decide +kernel
theorem t_70 : lw_tbl[70]? = some (.fieldLink RX3 35 RX3 "pieces" "[LWeftHouse$Piece;") := by decide +kernel
theorem t_71 : lw_tbl[71]? = some (.fieldLink RX3 39 RX3 "pieceCount" "I") := by decide +kernel
theorem t_72 : lw_tbl[72]? = some (.fieldLink RX3 42 RX3 "threadsByLot" "[I") := by decide +kernel
theorem t_90 : lw_tbl[90]? = some (.methodLink RL 168 yX3_balances) := by decide +kernel
theorem t_91 : lw_tbl[91]? = some (.instanceMethod yX3_balances) := by decide +kernel
theorem t_92 : lw_tbl[92]? = some (.selects RX3 yX3_balances yX3_balances) := by decide +kernel
theorem t_93 : lw_tbl[93]? = some (.code yX3_balances cX3_balances 3 (some FieldType.boolean)) := by decide +kernel
theorem t_94 : lw_tbl[94]? = some (.methodLink RX3 264 yX2_addThreadsTo) := by decide +kernel
theorem t_95 : lw_tbl[95]? = some (.instanceMethod yX2_addThreadsTo) := by decide +kernel
theorem t_96 : lw_tbl[96]? = some (.selects RX2 yX2_addThreadsTo yX2_addThreadsTo) := by decide +kernel
theorem t_97 : lw_tbl[97]? = some (.code yX2_addThreadsTo cX2_addThreadsTo 5 (none : Option FieldType)) := by decide +kernel
theorem t_98 : lw_tbl[98]? = some (.methodLink RX2 82 yX2_lotAt) := by decide +kernel
theorem t_99 : lw_tbl[99]? = some (.instanceMethod yX2_lotAt) := by decide +kernel
theorem t_100 : lw_tbl[100]? = some (.selects RX2 yX2_lotAt yX2_lotAt) := by decide +kernel
theorem t_101 : lw_tbl[101]? = some (.code yX2_lotAt cX2_lotAt 3 (some FieldType.int)) := by decide +kernel
theorem t_102 : lw_tbl[102]? = some (.methodLink RX2 41 yX2_placeOf) := by decide +kernel
theorem t_103 : lw_tbl[103]? = some (.static yX2_placeOf) := by decide +kernel
theorem t_104 : lw_tbl[104]? = some (.code yX2_placeOf cX2_placeOf 2 (some FieldType.int)) := by decide +kernel
theorem t_105 : lw_tbl[105]? = some (.methodLinkNest RX2 45 yX3_valueAt RX3) := by decide +kernel
theorem t_106 : lw_tbl[106]? = some (.static yX3_valueAt) := by decide +kernel
theorem t_107 : lw_tbl[107]? = some (.code yX3_valueAt cX3_valueAt 2 (some FieldType.int)) := by decide +kernel
theorem t_108 : lw_tbl[108]? = some (.methodLinkNest RX2 57 yX3_setAt RX3) := by decide +kernel
theorem t_109 : lw_tbl[109]? = some (.static yX3_setAt) := by decide +kernel
theorem t_110 : lw_tbl[110]? = some (.code yX3_setAt cX3_setAt 3 (none : Option FieldType)) := by decide +kernel
theorem t_111 : lw_tbl[111]? = some (.methodLink RX3 267 yX1_threadsGivenBy) := by decide +kernel
theorem t_112 : lw_tbl[112]? = some (.instanceMethod yX1_threadsGivenBy) := by decide +kernel
theorem t_113 : lw_tbl[113]? = some (.selects RX1 yX1_threadsGivenBy yX1_threadsGivenBy) := by decide +kernel
theorem t_114 : lw_tbl[114]? = some (.code yX1_threadsGivenBy cX1_threadsGivenBy 2 (some FieldType.int)) := by decide +kernel
theorem t_115 : lw_tbl[115]? = some (.methodLinkNest RX1 36 yX3_valueAt RX3) := by decide +kernel
theorem t_116 : lw_tbl[116]? = some (.methodLink RL 176 yL_at) := by decide +kernel
theorem t_117 : lw_tbl[117]? = some (.static yL_at) := by decide +kernel
theorem t_118 : lw_tbl[118]? = some (.code yL_at cL_at 2 (some FieldType.int)) := by decide +kernel
theorem t_119 : lw_tbl[119]? = some (.constant RL 7 1910757831) := by decide +kernel
theorem t_120 : lw_tbl[120]? = some (.constant RL 8 1003860457) := by decide +kernel
theorem t_121 : lw_tbl[121]? = some (.methodLink RL 92 yL_low) := by decide +kernel
theorem t_122 : lw_tbl[122]? = some (.static yL_low) := by decide +kernel
theorem t_123 : lw_tbl[123]? = some (.code yL_low cL_low 2 (some FieldType.int)) := by decide +kernel
theorem t_124 : lw_tbl[124]? = some (.constant RL 9 2147483647) := by decide +kernel
theorem t_125 : lw_tbl[125]? = some (.methodLink RL 142 yL_dye) := by decide +kernel
theorem t_126 : lw_tbl[126]? = some (.static yL_dye) := by decide +kernel
theorem t_127 : lw_tbl[127]? = some (.codeWith yL_dye cL_dye 6 (some FieldType.int) [(0, 9, 10, 29), (0, 9, 15, 16), (0, 9, 20, 19)]) := by decide +kernel
theorem t_128 : lw_tbl[128]? = some (.classLink RL 29 "java/lang/IndexOutOfBoundsException") := by decide +kernel
theorem t_129 : lw_tbl[129]? = some (.classLink RL 16 "java/lang/IllegalArgumentException") := by decide +kernel
theorem t_130 : lw_tbl[130]? = some (.classLink RL 19 "java/lang/IllegalStateException") := by decide +kernel
theorem t_131 : lw_tbl[131]? = some (.methodLink RL 36 yX3_dye) := by decide +kernel
theorem t_132 : lw_tbl[132]? = some (.instanceMethod yX3_dye) := by decide +kernel
theorem t_133 : lw_tbl[133]? = some (.selects RX3 yX3_dye yX3_dye) := by decide +kernel
theorem t_134 : lw_tbl[134]? = some (.code yX3_dye cX3_dye 5 (some FieldType.int)) := by decide +kernel
theorem t_135 : lw_tbl[135]? = some (.methodLink RX3 91 yX3_requireColour) := by decide +kernel
theorem t_136 : lw_tbl[136]? = some (.static yX3_requireColour) := by decide +kernel
theorem t_137 : lw_tbl[137]? = some (.code yX3_requireColour cX3_requireColour 1 (none : Option FieldType)) := by decide +kernel
theorem t_138 : lw_tbl[138]? = some (.classLink RX3 111 "java/lang/IndexOutOfBoundsException") := by decide +kernel
theorem t_139 : lw_tbl[139]? = some (.instantiable "java/lang/IndexOutOfBoundsException" 6) := by decide +kernel
theorem t_140 : lw_tbl[140]? = some (.castable "java/lang/IndexOutOfBoundsException" "java/lang/IndexOutOfBoundsException") := by decide +kernel
theorem t_159 : lw_tbl[159]? = some (.fieldLink "java/lang/Throwable" 198 "java/lang/Throwable" "backtrace" "Ljava/lang/Object;") := by decide +kernel
theorem t_161 : lw_tbl[161]? = some (.instanceMethod ⟨"java/lang/Throwable", "<init>", "()V"⟩) := by decide +kernel
theorem t_162 : lw_tbl[162]? = some (.code ⟨"java/lang/Throwable", "<init>", "()V"⟩ prog_14_method_1_code 1 (none : Option FieldType)) := by decide +kernel
theorem t_163 : lw_tbl[163]? = some (.methodLink "java/lang/Throwable" 1 ⟨"java/lang/Object", "<init>", "()V"⟩) := by decide +kernel
theorem t_164 : lw_tbl[164]? = some (.fieldLink "java/lang/Throwable" 13 "java/lang/Throwable" "UNASSIGNED_STACK" "[Ljava/lang/StackTraceElement;") := by decide +kernel
theorem t_166 : lw_tbl[166]? = some (.fieldLink "java/lang/Throwable" 20 "java/lang/Throwable" "SUPPRESSED_SENTINEL" "Ljava/util/List;") := by decide +kernel
theorem t_177 : lw_tbl[177]? = some (.instantiable "java/lang/Throwable" 6) := by decide +kernel
theorem t_179 : lw_tbl[179]? = some (.stringRef RX3 274 "no such colour") := by decide +kernel
theorem t_192 : lw_tbl[192]? = some (.fieldLink "java/lang/Throwable" 198 "java/lang/Throwable" "backtrace" "Ljava/lang/Object;") := by decide +kernel
theorem t_193 : lw_tbl[193]? = some (.fieldLink "java/lang/Throwable" 31 "java/lang/Throwable" "detailMessage" "Ljava/lang/String;") := by decide +kernel
theorem t_194 : lw_tbl[194]? = some (.fieldLink "java/lang/Throwable" 7 "java/lang/Throwable" "cause" "Ljava/lang/Throwable;") := by decide +kernel
theorem t_195 : lw_tbl[195]? = some (.fieldLink "java/lang/Throwable" 17 "java/lang/Throwable" "stackTrace" "[Ljava/lang/StackTraceElement;") := by decide +kernel
theorem t_196 : lw_tbl[196]? = some (.fieldLink "java/lang/Throwable" 24 "java/lang/Throwable" "suppressedExceptions" "Ljava/util/List;") := by decide +kernel
theorem t_206 : lw_tbl[206]? = some (.classLink RX3 49 "java/lang/IllegalArgumentException") := by decide +kernel
theorem t_207 : lw_tbl[207]? = some (.instantiable "java/lang/IllegalArgumentException" 6) := by decide +kernel
theorem t_208 : lw_tbl[208]? = some (.castable "java/lang/IllegalArgumentException" "java/lang/IllegalArgumentException") := by decide +kernel
theorem t_215 : lw_tbl[215]? = some (.stringRef RX3 98 "the threads are out of their range") := by decide +kernel
theorem t_222 : lw_tbl[222]? = some (.stringRef RX3 100 "the fade is out of its range") := by decide +kernel
theorem t_223 : lw_tbl[223]? = some (.methodLink RX3 102 yX1_count) := by decide +kernel
theorem t_224 : lw_tbl[224]? = some (.instanceMethod yX1_count) := by decide +kernel
theorem t_225 : lw_tbl[225]? = some (.selects RX1 yX1_count yX1_count) := by decide +kernel
theorem t_226 : lw_tbl[226]? = some (.code yX1_count cX1_count 1 (some FieldType.int)) := by decide +kernel
theorem t_227 : lw_tbl[227]? = some (.classLink RX3 56 "java/lang/IllegalStateException") := by decide +kernel
theorem t_228 : lw_tbl[228]? = some (.instantiable "java/lang/IllegalStateException" 6) := by decide +kernel
theorem t_229 : lw_tbl[229]? = some (.castable "java/lang/IllegalStateException" "java/lang/IllegalStateException") := by decide +kernel
theorem t_236 : lw_tbl[236]? = some (.stringRef RX3 105 "there are as many lots as there can be") := by decide +kernel
theorem t_243 : lw_tbl[243]? = some (.methodLink RX3 107 yX1_add) := by decide +kernel
theorem t_244 : lw_tbl[244]? = some (.instanceMethod yX1_add) := by decide +kernel
theorem t_245 : lw_tbl[245]? = some (.selects RX1 yX1_add yX1_add) := by decide +kernel
theorem t_246 : lw_tbl[246]? = some (.code yX1_add cX1_add 6 (some FieldType.int)) := by decide +kernel
theorem t_247 : lw_tbl[247]? = some (.methodLinkNest RX1 32 yX3_setAt RX3) := by decide +kernel
theorem t_248 : lw_tbl[248]? = some (.constant RL 31 (-1000001)) := by decide +kernel
theorem t_249 : lw_tbl[249]? = some (.constant RL 18 (-1000002)) := by decide +kernel
theorem t_250 : lw_tbl[250]? = some (.constant RL 21 (-1000003)) := by decide +kernel
theorem t_251 : lw_tbl[251]? = some (.methodLink RL 184 yL_left) := by decide +kernel
theorem t_252 : lw_tbl[252]? = some (.static yL_left) := by decide +kernel
theorem t_253 : lw_tbl[253]? = some (.codeWith yL_left cL_left 3 (some FieldType.int) [(0, 5, 6, 29)]) := by decide +kernel
theorem t_254 : lw_tbl[254]? = some (.methodLink RL 40 yX3_left) := by decide +kernel
theorem t_255 : lw_tbl[255]? = some (.instanceMethod yX3_left) := by decide +kernel
theorem t_256 : lw_tbl[256]? = some (.selects RX3 yX3_left yX3_left) := by decide +kernel
theorem t_257 : lw_tbl[257]? = some (.code yX3_left cX3_left 2 (some FieldType.int)) := by decide +kernel
theorem t_258 : lw_tbl[258]? = some (.stringRef RX3 113 "no such lot") := by decide +kernel
theorem t_259 : lw_tbl[259]? = some (.methodLink RX3 116 yX1_threadsIn) := by decide +kernel
theorem t_260 : lw_tbl[260]? = some (.instanceMethod yX1_threadsIn) := by decide +kernel
theorem t_261 : lw_tbl[261]? = some (.selects RX1 yX1_threadsIn yX1_threadsIn) := by decide +kernel
theorem t_262 : lw_tbl[262]? = some (.code yX1_threadsIn cX1_threadsIn 2 (some FieldType.int)) := by decide +kernel
theorem t_263 : lw_tbl[263]? = some (.methodLink RL 134 yL_isThere) := by decide +kernel
theorem t_264 : lw_tbl[264]? = some (.static yL_isThere) := by decide +kernel
theorem t_265 : lw_tbl[265]? = some (.code yL_isThere cL_isThere 2 (some FieldType.boolean)) := by decide +kernel
theorem t_266 : lw_tbl[266]? = some (.methodLink RL 84 yL_pieceIs) := by decide +kernel
theorem t_267 : lw_tbl[267]? = some (.static yL_pieceIs) := by decide +kernel
theorem t_268 : lw_tbl[268]? = some (.codeWith yL_pieceIs cL_pieceIs 4 (some FieldType.int) [(0, 6, 7, 29), (0, 6, 11, 16)]) := by decide +kernel
theorem t_269 : lw_tbl[269]? = some (.methodLink RL 51 yX3_pieceIs) := by decide +kernel
theorem t_270 : lw_tbl[270]? = some (.instanceMethod yX3_pieceIs) := by decide +kernel
theorem t_271 : lw_tbl[271]? = some (.selects RX3 yX3_pieceIs yX3_pieceIs) := by decide +kernel
theorem t_272 : lw_tbl[272]? = some (.code yX3_pieceIs cX3_pieceIs 4 (some FieldType.int)) := by decide +kernel
theorem t_273 : lw_tbl[273]? = some (.methodLink RX3 140 yX3_pieceNumbered) := by decide +kernel
theorem t_275 : lw_tbl[275]? = some (.instanceMethod yX3_pieceNumbered) := by decide +kernel
theorem t_276 : lw_tbl[276]? = some (.code yX3_pieceNumbered cX3_pieceNumbered 3 (some (FieldType.object "WeftHouse$Piece"))) := by decide +kernel
theorem t_277 : lw_tbl[277]? = some (.stringRef RX3 272 "no such piece") := by decide +kernel
theorem t_278 : lw_tbl[278]? = some (.methodLink RX3 170 yX2_width) := by decide +kernel
theorem t_279 : lw_tbl[279]? = some (.instanceMethod yX2_width) := by decide +kernel
theorem t_280 : lw_tbl[280]? = some (.selects RX2 yX2_width yX2_width) := by decide +kernel
theorem t_281 : lw_tbl[281]? = some (.code yX2_width cX2_width 1 (some FieldType.int)) := by decide +kernel
theorem t_282 : lw_tbl[282]? = some (.methodLink RX3 171 yX2_height) := by decide +kernel
theorem t_283 : lw_tbl[283]? = some (.instanceMethod yX2_height) := by decide +kernel
theorem t_284 : lw_tbl[284]? = some (.selects RX2 yX2_height yX2_height) := by decide +kernel
theorem t_285 : lw_tbl[285]? = some (.code yX2_height cX2_height 1 (some FieldType.int)) := by decide +kernel
theorem t_286 : lw_tbl[286]? = some (.methodLink RX3 172 yX2_countWoven) := by decide +kernel
theorem t_287 : lw_tbl[287]? = some (.instanceMethod yX2_countWoven) := by decide +kernel
theorem t_288 : lw_tbl[288]? = some (.selects RX2 yX2_countWoven yX2_countWoven) := by decide +kernel
theorem t_289 : lw_tbl[289]? = some (.code yX2_countWoven cX2_countWoven 4 (some FieldType.int)) := by decide +kernel
theorem t_290 : lw_tbl[290]? = some (.methodLink RX3 175 yX2_isDone) := by decide +kernel
theorem t_291 : lw_tbl[291]? = some (.instanceMethod yX2_isDone) := by decide +kernel
theorem t_292 : lw_tbl[292]? = some (.selects RX2 yX2_isDone yX2_isDone) := by decide +kernel
theorem t_293 : lw_tbl[293]? = some (.code yX2_isDone cX2_isDone 1 (some FieldType.boolean)) := by decide +kernel
theorem t_294 : lw_tbl[294]? = some (.methodLink RX2 85 yX2_countWoven) := by decide +kernel
theorem t_295 : lw_tbl[295]? = some (.methodLink RX3 179 yX2_countSlits) := by decide +kernel
theorem t_296 : lw_tbl[296]? = some (.instanceMethod yX2_countSlits) := by decide +kernel
theorem t_297 : lw_tbl[297]? = some (.selects RX2 yX2_countSlits yX2_countSlits) := by decide +kernel
theorem t_298 : lw_tbl[298]? = some (.code yX2_countSlits cX2_countSlits 3 (some FieldType.int)) := by decide +kernel
theorem t_299 : lw_tbl[299]? = some (.methodLink RX2 91 yX2_hasSlitAhead) := by decide +kernel
theorem t_300 : lw_tbl[300]? = some (.instanceMethod yX2_hasSlitAhead) := by decide +kernel
theorem t_301 : lw_tbl[301]? = some (.selects RX2 yX2_hasSlitAhead yX2_hasSlitAhead) := by decide +kernel
theorem t_302 : lw_tbl[302]? = some (.code yX2_hasSlitAhead cX2_hasSlitAhead 2 (some FieldType.boolean)) := by decide +kernel
theorem t_303 : lw_tbl[303]? = some (.methodLink RX2 95 yX2_isSewnAhead) := by decide +kernel
theorem t_305 : lw_tbl[305]? = some (.instanceMethod yX2_isSewnAhead) := by decide +kernel
theorem t_306 : lw_tbl[306]? = some (.instantiable RX2 9) := by decide +kernel
theorem t_307 : lw_tbl[307]? = some (.code yX2_isSewnAhead cX2_isSewnAhead 2 (some FieldType.boolean)) := by decide +kernel
theorem t_308 : lw_tbl[308]? = some (.methodLink RX2 98 yX2_longestUnlikeAhead) := by decide +kernel
theorem t_310 : lw_tbl[310]? = some (.instanceMethod yX2_longestUnlikeAhead) := by decide +kernel
theorem t_311 : lw_tbl[311]? = some (.code yX2_longestUnlikeAhead cX2_longestUnlikeAhead 6 (some FieldType.int)) := by decide +kernel
theorem t_312 : lw_tbl[312]? = some (.methodLink RX2 77 yX2_colourAt) := by decide +kernel
theorem t_313 : lw_tbl[313]? = some (.instanceMethod yX2_colourAt) := by decide +kernel
theorem t_314 : lw_tbl[314]? = some (.selects RX2 yX2_colourAt yX2_colourAt) := by decide +kernel
theorem t_315 : lw_tbl[315]? = some (.code yX2_colourAt cX2_colourAt 3 (some FieldType.int)) := by decide +kernel
theorem t_316 : lw_tbl[316]? = some (.methodLink RX2 101 yJ9_max_7cf53) := by decide +kernel
theorem t_317 : lw_tbl[317]? = some (.static yJ9_max_7cf53) := by decide +kernel
theorem t_318 : lw_tbl[318]? = some (.code yJ9_max_7cf53 cJ9_max_7cf53 2 (some FieldType.int)) := by decide +kernel
theorem t_319 : lw_tbl[319]? = some (.methodLink RX3 182 yX2_sumOfShades) := by decide +kernel
theorem t_320 : lw_tbl[320]? = some (.instanceMethod yX2_sumOfShades) := by decide +kernel
theorem t_321 : lw_tbl[321]? = some (.selects RX2 yX2_sumOfShades yX2_sumOfShades) := by decide +kernel
theorem t_322 : lw_tbl[322]? = some (.code yX2_sumOfShades cX2_sumOfShades 4 (some FieldType.int)) := by decide +kernel
theorem t_323 : lw_tbl[323]? = some (.methodLink RX2 88 yX2_shadeAt) := by decide +kernel
theorem t_324 : lw_tbl[324]? = some (.instanceMethod yX2_shadeAt) := by decide +kernel
theorem t_325 : lw_tbl[325]? = some (.selects RX2 yX2_shadeAt yX2_shadeAt) := by decide +kernel
theorem t_326 : lw_tbl[326]? = some (.code yX2_shadeAt cX2_shadeAt 3 (some FieldType.int)) := by decide +kernel
theorem t_327 : lw_tbl[327]? = some (.stringRef RX3 185 "a piece is nothing of that number") := by decide +kernel
theorem t_328 : lw_tbl[328]? = some (.methodLink RL 126 yL_isPiece) := by decide +kernel
theorem t_329 : lw_tbl[329]? = some (.static yL_isPiece) := by decide +kernel
set_option maxRecDepth 100000 in
theorem t_330 : lw_tbl[330]? = some (.code yL_isPiece cL_isPiece 11 (some FieldType.boolean)) := rfl
theorem t_331 : lw_tbl[331]? = some (.methodLink RL 89 yL_cell) := by decide +kernel
theorem t_332 : lw_tbl[332]? = some (.static yL_cell) := by decide +kernel
theorem t_333 : lw_tbl[333]? = some (.codeWith yL_cell cL_cell 6 (some FieldType.int) [(0, 9, 10, 29), (0, 9, 15, 16)]) := by decide +kernel
theorem t_334 : lw_tbl[334]? = some (.methodLink RL 54 yX3_cell) := by decide +kernel
theorem t_335 : lw_tbl[335]? = some (.instanceMethod yX3_cell) := by decide +kernel
theorem t_336 : lw_tbl[336]? = some (.selects RX3 yX3_cell yX3_cell) := by decide +kernel
theorem t_337 : lw_tbl[337]? = some (.code yX3_cell cX3_cell 6 (some FieldType.int)) := by decide +kernel
theorem t_338 : lw_tbl[338]? = some (.methodLink RX3 187 yX2_holds) := by decide +kernel
theorem t_339 : lw_tbl[339]? = some (.instanceMethod yX2_holds) := by decide +kernel
theorem t_340 : lw_tbl[340]? = some (.selects RX2 yX2_holds yX2_holds) := by decide +kernel
theorem t_341 : lw_tbl[341]? = some (.code yX2_holds cX2_holds 3 (some FieldType.boolean)) := by decide +kernel
theorem t_342 : lw_tbl[342]? = some (.stringRef RX3 191 "no such row or column") := by decide +kernel
theorem t_343 : lw_tbl[343]? = some (.methodLink RX3 193 yX2_colourAt) := by decide +kernel
theorem t_344 : lw_tbl[344]? = some (.methodLink RX3 197 yX2_lotAt) := by decide +kernel
theorem t_345 : lw_tbl[345]? = some (.methodLink RX3 200 yX2_shadeAt) := by decide +kernel
theorem t_346 : lw_tbl[346]? = some (.stringRef RX3 203 "a cell is nothing of that number") := by decide +kernel
theorem t_347 : lw_tbl[347]? = some (.methodLink RL 138 yL_draws) := by decide +kernel
theorem t_348 : lw_tbl[348]? = some (.static yL_draws) := by decide +kernel
set_option maxRecDepth 100000 in
theorem t_349 : lw_tbl[349]? = some (.code yL_draws cL_draws 9 (some FieldType.boolean)) := rfl
theorem t_350 : lw_tbl[350]? = some (.methodLink RL 95 yL_cartoon) := by decide +kernel
theorem t_351 : lw_tbl[351]? = some (.static yL_cartoon) := by decide +kernel
theorem t_352 : lw_tbl[352]? = some (.codeWith yL_cartoon cL_cartoon 3 (some FieldType.int) [(0, 5, 6, 16), (0, 5, 10, 19)]) := by decide +kernel
theorem t_353 : lw_tbl[353]? = some (.methodLink RL 22 yX3_cartoon) := by decide +kernel
theorem t_354 : lw_tbl[354]? = some (.instanceMethod yX3_cartoon) := by decide +kernel
theorem t_355 : lw_tbl[355]? = some (.selects RX3 yX3_cartoon yX3_cartoon) := by decide +kernel
theorem t_356 : lw_tbl[356]? = some (.code yX3_cartoon cX3_cartoon 3 (some FieldType.int)) := by decide +kernel
theorem t_357 : lw_tbl[357]? = some (.stringRef RX3 65 "the width is out of its range") := by decide +kernel
theorem t_358 : lw_tbl[358]? = some (.stringRef RX3 67 "there are as many cartoons as there can be") := by decide +kernel
theorem t_359 : lw_tbl[359]? = some (.instantiable RX0 5) := by decide +kernel
theorem t_360 : lw_tbl[360]? = some (.methodLink RX3 69 yX0_init) := by decide +kernel
theorem t_361 : lw_tbl[361]? = some (.instanceMethod yX0_init) := by decide +kernel
theorem t_362 : lw_tbl[362]? = some (.code yX0_init cX0_init 2 (none : Option FieldType)) := by decide +kernel
theorem t_363 : lw_tbl[363]? = some (.methodLink RX0 3 ⟨"java/lang/Object", "<init>", "()V"⟩) := by decide +kernel
theorem t_364 : lw_tbl[364]? = some (.fieldLink RX0 25 RX0 "width" "I") := by decide +kernel
theorem t_365 : lw_tbl[365]? = some (.fieldLink RX0 9 RX0 "height" "I") := by decide +kernel
theorem t_366 : lw_tbl[366]? = some (.fieldLink RX0 15 RX0 "signs" "[I") := by decide +kernel
theorem t_367 : lw_tbl[367]? = some (.fieldLink RX0 19 RX0 "firstHatching" "I") := by decide +kernel
theorem t_368 : lw_tbl[368]? = some (.fieldLink RX0 22 RX0 "secondHatching" "I") := by decide +kernel
theorem t_380 : lw_tbl[380]? = some (.methodLink RL 98 yX3_empty) := by decide +kernel
theorem t_381 : lw_tbl[381]? = some (.instanceMethod yX3_empty) := by decide +kernel
theorem t_382 : lw_tbl[382]? = some (.selects RX3 yX3_empty yX3_empty) := by decide +kernel
theorem t_383 : lw_tbl[383]? = some (.code yX3_empty cX3_empty 2 (some FieldType.int)) := by decide +kernel
theorem t_384 : lw_tbl[384]? = some (.methodLink RL 102 yL_letter) := by decide +kernel
theorem t_385 : lw_tbl[385]? = some (.static yL_letter) := by decide +kernel
theorem t_386 : lw_tbl[386]? = some (.code yL_letter cL_letter 1 (some FieldType.char)) := by decide +kernel
theorem t_387 : lw_tbl[387]? = some (.methodLink RL 106 yL_type) := by decide +kernel
theorem t_388 : lw_tbl[388]? = some (.static yL_type) := by decide +kernel
theorem t_389 : lw_tbl[389]? = some (.codeWith yL_type cL_type 3 (some FieldType.int) [(0, 5, 6, 16), (0, 5, 10, 19)]) := by decide +kernel
theorem t_390 : lw_tbl[390]? = some (.methodLink RL 10 yX3_type) := by decide +kernel
theorem t_391 : lw_tbl[391]? = some (.instanceMethod yX3_type) := by decide +kernel
theorem t_392 : lw_tbl[392]? = some (.selects RX3 yX3_type yX3_type) := by decide +kernel
theorem t_393 : lw_tbl[393]? = some (.code yX3_type cX3_type 3 (some FieldType.int)) := by decide +kernel
theorem t_394 : lw_tbl[394]? = some (.methodLink RX3 45 yX3_signOf) := by decide +kernel
theorem t_395 : lw_tbl[395]? = some (.static yX3_signOf) := by decide +kernel
theorem t_396 : lw_tbl[396]? = some (.code yX3_signOf cX3_signOf 1 (some FieldType.int)) := by decide +kernel
theorem t_397 : lw_tbl[397]? = some (.stringRef RX3 51 "no such letter") := by decide +kernel
theorem t_398 : lw_tbl[398]? = some (.stringRef RX3 58 "the word is full") := by decide +kernel
theorem t_399 : lw_tbl[399]? = some (.methodLink RX3 61 yX3_setAt) := by decide +kernel
theorem t_400 : lw_tbl[400]? = some (.methodLink RL 109 yL_row) := by decide +kernel
theorem t_401 : lw_tbl[401]? = some (.static yL_row) := by decide +kernel
theorem t_402 : lw_tbl[402]? = some (.codeWith yL_row cL_row 3 (some FieldType.int) [(0, 5, 6, 29), (0, 5, 10, 19)]) := by decide +kernel
theorem t_403 : lw_tbl[403]? = some (.methodLink RL 26 yX3_row) := by decide +kernel
theorem t_404 : lw_tbl[404]? = some (.instanceMethod yX3_row) := by decide +kernel
theorem t_405 : lw_tbl[405]? = some (.selects RX3 yX3_row yX3_row) := by decide +kernel
theorem t_406 : lw_tbl[406]? = some (.code yX3_row cX3_row 3 (some FieldType.int)) := by decide +kernel
theorem t_407 : lw_tbl[407]? = some (.methodLink RX3 72 yX3_cartoonNumbered) := by decide +kernel
theorem t_409 : lw_tbl[409]? = some (.instanceMethod yX3_cartoonNumbered) := by decide +kernel
theorem t_410 : lw_tbl[410]? = some (.code yX3_cartoonNumbered cX3_cartoonNumbered 3 (some (FieldType.object "WeftHouse$Cartoon"))) := by decide +kernel
theorem t_411 : lw_tbl[411]? = some (.stringRef RX3 270 "no such cartoon") := by decide +kernel
theorem t_412 : lw_tbl[412]? = some (.methodLink RX3 76 yX0_width) := by decide +kernel
theorem t_413 : lw_tbl[413]? = some (.instanceMethod yX0_width) := by decide +kernel
theorem t_414 : lw_tbl[414]? = some (.selects RX0 yX0_width yX0_width) := by decide +kernel
theorem t_415 : lw_tbl[415]? = some (.code yX0_width cX0_width 1 (some FieldType.int)) := by decide +kernel
theorem t_416 : lw_tbl[416]? = some (.stringRef RX3 80 "the word is not as long as the cartoon is wide") := by decide +kernel
theorem t_417 : lw_tbl[417]? = some (.methodLink RX3 82 yX0_height) := by decide +kernel
theorem t_418 : lw_tbl[418]? = some (.instanceMethod yX0_height) := by decide +kernel
theorem t_419 : lw_tbl[419]? = some (.selects RX0 yX0_height yX0_height) := by decide +kernel
theorem t_420 : lw_tbl[420]? = some (.code yX0_height cX0_height 1 (some FieldType.int)) := by decide +kernel
theorem t_421 : lw_tbl[421]? = some (.stringRef RX3 85 "the cartoon has as many rows as it can have") := by decide +kernel
theorem t_422 : lw_tbl[422]? = some (.methodLink RX3 87 yX0_addRow) := by decide +kernel
theorem t_423 : lw_tbl[423]? = some (.instanceMethod yX0_addRow) := by decide +kernel
theorem t_424 : lw_tbl[424]? = some (.selects RX0 yX0_addRow yX0_addRow) := by decide +kernel
theorem t_425 : lw_tbl[425]? = some (.code yX0_addRow cX0_addRow 3 (none : Option FieldType)) := by decide +kernel
theorem t_426 : lw_tbl[426]? = some (.methodLinkNest RX0 28 yX3_valueAt RX3) := by decide +kernel
theorem t_427 : lw_tbl[427]? = some (.methodLinkNest RX0 32 yX3_setAt RX3) := by decide +kernel
theorem t_428 : lw_tbl[428]? = some (.methodLink RL 111 yL_hatch) := by decide +kernel
theorem t_429 : lw_tbl[429]? = some (.static yL_hatch) := by decide +kernel
theorem t_430 : lw_tbl[430]? = some (.codeWith yL_hatch cL_hatch 5 (some FieldType.int) [(0, 8, 9, 29)]) := by decide +kernel
theorem t_431 : lw_tbl[431]? = some (.methodLink RL 32 yX3_hatch) := by decide +kernel
theorem t_432 : lw_tbl[432]? = some (.instanceMethod yX3_hatch) := by decide +kernel
theorem t_433 : lw_tbl[433]? = some (.selects RX3 yX3_hatch yX3_hatch) := by decide +kernel
theorem t_434 : lw_tbl[434]? = some (.code yX3_hatch cX3_hatch 5 (none : Option FieldType)) := by decide +kernel
theorem t_435 : lw_tbl[435]? = some (.methodLink RX3 94 yX0_hatchBetween) := by decide +kernel
theorem t_436 : lw_tbl[436]? = some (.instanceMethod yX0_hatchBetween) := by decide +kernel
theorem t_437 : lw_tbl[437]? = some (.selects RX0 yX0_hatchBetween yX0_hatchBetween) := by decide +kernel
theorem t_438 : lw_tbl[438]? = some (.code yX0_hatchBetween cX0_hatchBetween 3 (none : Option FieldType)) := by decide +kernel
theorem t_439 : lw_tbl[439]? = some (.methodLink RL 180 yL_acts) := by decide +kernel
theorem t_440 : lw_tbl[440]? = some (.static yL_acts) := by decide +kernel
set_option maxRecDepth 100000 in
theorem t_441 : lw_tbl[441]? = some (.code yL_acts cL_acts 13 (some FieldType.boolean)) := rfl
theorem t_442 : lw_tbl[442]? = some (.methodLink RL 145 yL_loom) := by decide +kernel
theorem t_443 : lw_tbl[443]? = some (.static yL_loom) := by decide +kernel
theorem t_444 : lw_tbl[444]? = some (.codeWith yL_loom cL_loom 5 (some FieldType.int) [(0, 7, 8, 29), (0, 7, 13, 16), (0, 7, 18, 19)]) := by decide +kernel
theorem t_445 : lw_tbl[445]? = some (.methodLink RL 43 yX3_loom) := by decide +kernel
theorem t_446 : lw_tbl[446]? = some (.instanceMethod yX3_loom) := by decide +kernel
theorem t_447 : lw_tbl[447]? = some (.selects RX3 yX3_loom yX3_loom) := by decide +kernel
theorem t_448 : lw_tbl[448]? = some (.code yX3_loom cX3_loom 6 (some FieldType.int)) := by decide +kernel
theorem t_449 : lw_tbl[449]? = some (.stringRef RX3 123 "the weavers are out of their range") := by decide +kernel
theorem t_450 : lw_tbl[450]? = some (.stringRef RX3 125 "the cartoon has no row") := by decide +kernel
theorem t_451 : lw_tbl[451]? = some (.methodLink RX3 127 yX3_requireRoomForPiece) := by decide +kernel
theorem t_453 : lw_tbl[453]? = some (.instanceMethod yX3_requireRoomForPiece) := by decide +kernel
theorem t_454 : lw_tbl[454]? = some (.code yX3_requireRoomForPiece cX3_requireRoomForPiece 1 (none : Option FieldType)) := by decide +kernel
theorem t_455 : lw_tbl[455]? = some (.stringRef RX3 282 "there were as many pieces as there can be") := by decide +kernel
theorem t_456 : lw_tbl[456]? = some (.methodLink RX3 130 yX2_init) := by decide +kernel
theorem t_457 : lw_tbl[457]? = some (.instanceMethod yX2_init) := by decide +kernel
theorem t_458 : lw_tbl[458]? = some (.code yX2_init cX2_init 3 (none : Option FieldType)) := by decide +kernel
theorem t_459 : lw_tbl[459]? = some (.methodLink RX2 3 ⟨"java/lang/Object", "<init>", "()V"⟩) := by decide +kernel
theorem t_460 : lw_tbl[460]? = some (.fieldLink RX2 9 RX2 "width" "I") := by decide +kernel
theorem t_461 : lw_tbl[461]? = some (.fieldLink RX2 35 RX2 "height" "I") := by decide +kernel
theorem t_462 : lw_tbl[462]? = some (.fieldLink RX2 38 RX2 "weavers" "I") := by decide +kernel
theorem t_463 : lw_tbl[463]? = some (.fieldLink RX2 15 RX2 "rowsWoven" "[I") := by decide +kernel
theorem t_464 : lw_tbl[464]? = some (.fieldLink RX2 19 RX2 "colours" "[I") := by decide +kernel
theorem t_465 : lw_tbl[465]? = some (.fieldLink RX2 22 RX2 "lotNumbers" "[I") := by decide +kernel
theorem t_466 : lw_tbl[466]? = some (.fieldLink RX2 25 RX2 "shades" "[I") := by decide +kernel
theorem t_467 : lw_tbl[467]? = some (.fieldLink RX2 28 RX2 "origins" "[I") := by decide +kernel
theorem t_468 : lw_tbl[468]? = some (.fieldLink RX2 31 RX2 "sewnAhead" "[Z") := by decide +kernel
theorem t_488 : lw_tbl[488]? = some (.methodLink RX3 132 yX2_drawFrom) := by decide +kernel
theorem t_489 : lw_tbl[489]? = some (.instanceMethod yX2_drawFrom) := by decide +kernel
theorem t_490 : lw_tbl[490]? = some (.selects RX2 yX2_drawFrom yX2_drawFrom) := by decide +kernel
theorem t_491 : lw_tbl[491]? = some (.code yX2_drawFrom cX2_drawFrom 6 (none : Option FieldType)) := by decide +kernel
theorem t_492 : lw_tbl[492]? = some (.methodLink RX2 49 yX0_width) := by decide +kernel
theorem t_493 : lw_tbl[493]? = some (.methodLink RX2 54 yX2_originOf) := by decide +kernel
theorem t_494 : lw_tbl[494]? = some (.static yX2_originOf) := by decide +kernel
theorem t_495 : lw_tbl[495]? = some (.code yX2_originOf cX2_originOf 2 (some FieldType.int)) := by decide +kernel
theorem t_496 : lw_tbl[496]? = some (.methodLink RX2 61 yX0_colourAt) := by decide +kernel
theorem t_497 : lw_tbl[497]? = some (.instanceMethod yX0_colourAt) := by decide +kernel
theorem t_498 : lw_tbl[498]? = some (.selects RX0 yX0_colourAt yX0_colourAt) := by decide +kernel
theorem t_499 : lw_tbl[499]? = some (.code yX0_colourAt cX0_colourAt 6 (some FieldType.int)) := by decide +kernel
theorem t_500 : lw_tbl[500]? = some (.methodLink RX3 136 yX3_keepPiece) := by decide +kernel
theorem t_502 : lw_tbl[502]? = some (.instanceMethod yX3_keepPiece) := by decide +kernel
theorem t_503 : lw_tbl[503]? = some (.code yX3_keepPiece cX3_keepPiece 3 (some FieldType.int)) := by decide +kernel
theorem t_504 : lw_tbl[504]? = some (.methodLink RL 148 yL_likeness) := by decide +kernel
theorem t_505 : lw_tbl[505]? = some (.static yL_likeness) := by decide +kernel
theorem t_506 : lw_tbl[506]? = some (.codeWith yL_likeness cL_likeness 4 (some FieldType.int) [(0, 6, 7, 29)]) := by decide +kernel
theorem t_507 : lw_tbl[507]? = some (.methodLink RL 81 yX3_likeness) := by decide +kernel
theorem t_508 : lw_tbl[508]? = some (.instanceMethod yX3_likeness) := by decide +kernel
theorem t_509 : lw_tbl[509]? = some (.selects RX3 yX3_likeness yX3_likeness) := by decide +kernel
theorem t_510 : lw_tbl[510]? = some (.code yX3_likeness cX3_likeness 5 (some FieldType.int)) := by decide +kernel
theorem t_511 : lw_tbl[511]? = some (.methodLink RX3 255 yX2_countLike) := by decide +kernel
theorem t_512 : lw_tbl[512]? = some (.instanceMethod yX2_countLike) := by decide +kernel
theorem t_513 : lw_tbl[513]? = some (.selects RX2 yX2_countLike yX2_countLike) := by decide +kernel
theorem t_514 : lw_tbl[514]? = some (.code yX2_countLike cX2_countLike 6 (some FieldType.int)) := by decide +kernel
theorem t_515 : lw_tbl[515]? = some (.methodLink RX3 259 yJ9_max_7cf53) := by decide +kernel
theorem t_516 : lw_tbl[516]? = some (.methodLink RL 122 yL_isTrue) := by decide +kernel
theorem t_517 : lw_tbl[517]? = some (.static yL_isTrue) := by decide +kernel
theorem t_518 : lw_tbl[518]? = some (.codeWith yL_isTrue cL_isTrue 3 (some FieldType.int) [(0, 13, 14, 29)]) := by decide +kernel
theorem t_519 : lw_tbl[519]? = some (.methodLink RL 77 yX3_isTrue) := by decide +kernel
theorem t_520 : lw_tbl[520]? = some (.instanceMethod yX3_isTrue) := by decide +kernel
theorem t_521 : lw_tbl[521]? = some (.selects RX3 yX3_isTrue yX3_isTrue) := by decide +kernel
theorem t_522 : lw_tbl[522]? = some (.code yX3_isTrue cX3_isTrue 2 (some FieldType.boolean)) := by decide +kernel
theorem t_523 : lw_tbl[523]? = some (.methodLink RX3 252 yX2_isAllTrue) := by decide +kernel
theorem t_524 : lw_tbl[524]? = some (.instanceMethod yX2_isAllTrue) := by decide +kernel
theorem t_525 : lw_tbl[525]? = some (.selects RX2 yX2_isAllTrue yX2_isAllTrue) := by decide +kernel
theorem t_526 : lw_tbl[526]? = some (.code yX2_isAllTrue cX2_isAllTrue 2 (some FieldType.boolean)) := by decide +kernel
theorem t_527 : lw_tbl[527]? = some (.methodLink RX2 131 yX2_isTrueAhead) := by decide +kernel
theorem t_528 : lw_tbl[528]? = some (.instanceMethod yX2_isTrueAhead) := by decide +kernel
theorem t_529 : lw_tbl[529]? = some (.selects RX2 yX2_isTrueAhead yX2_isTrueAhead) := by decide +kernel
theorem t_530 : lw_tbl[530]? = some (.code yX2_isTrueAhead cX2_isTrueAhead 2 (some FieldType.boolean)) := by decide +kernel
theorem t_531 : lw_tbl[531]? = some (.methodLink RL 150 yL_weaves) := by decide +kernel
theorem t_532 : lw_tbl[532]? = some (.static yL_weaves) := by decide +kernel
theorem t_533 : lw_tbl[533]? = some (.code yL_weaves cL_weaves 9 (some FieldType.boolean)) := by decide +kernel
theorem t_534 : lw_tbl[534]? = some (.methodLink RL 114 yL_weave) := by decide +kernel
theorem t_535 : lw_tbl[535]? = some (.static yL_weave) := by decide +kernel
theorem t_536 : lw_tbl[536]? = some (.codeWith yL_weave cL_weave 4 (some FieldType.int) [(0, 6, 7, 29), (0, 6, 11, 19)]) := by decide +kernel
theorem t_537 : lw_tbl[537]? = some (.methodLink RL 47 yX3_weave) := by decide +kernel
theorem t_538 : lw_tbl[538]? = some (.instanceMethod yX3_weave) := by decide +kernel
theorem t_539 : lw_tbl[539]? = some (.selects RX3 yX3_weave yX3_weave) := by decide +kernel
theorem t_540 : lw_tbl[540]? = some (.code yX3_weave cX3_weave 4 (some FieldType.int)) := by decide +kernel
theorem t_541 : lw_tbl[541]? = some (.methodLink RX3 144 yX2_weavers) := by decide +kernel
theorem t_542 : lw_tbl[542]? = some (.instanceMethod yX2_weavers) := by decide +kernel
theorem t_543 : lw_tbl[543]? = some (.selects RX2 yX2_weavers yX2_weavers) := by decide +kernel
theorem t_544 : lw_tbl[544]? = some (.code yX2_weavers cX2_weavers 1 (some FieldType.int)) := by decide +kernel
theorem t_545 : lw_tbl[545]? = some (.stringRef RX3 147 "no such weaver") := by decide +kernel
theorem t_546 : lw_tbl[546]? = some (.methodLink RX3 149 yX2_hasWovenAll) := by decide +kernel
theorem t_547 : lw_tbl[547]? = some (.instanceMethod yX2_hasWovenAll) := by decide +kernel
theorem t_548 : lw_tbl[548]? = some (.selects RX2 yX2_hasWovenAll yX2_hasWovenAll) := by decide +kernel
theorem t_549 : lw_tbl[549]? = some (.code yX2_hasWovenAll cX2_hasWovenAll 2 (some FieldType.boolean)) := by decide +kernel
theorem t_550 : lw_tbl[550]? = some (.stringRef RX3 153 "the weaver has woven all his rows") := by decide +kernel
theorem t_551 : lw_tbl[551]? = some (.methodLink RX3 155 yX2_isAboveNeighbour) := by decide +kernel
theorem t_552 : lw_tbl[552]? = some (.instanceMethod yX2_isAboveNeighbour) := by decide +kernel
theorem t_553 : lw_tbl[553]? = some (.selects RX2 yX2_isAboveNeighbour yX2_isAboveNeighbour) := by decide +kernel
theorem t_554 : lw_tbl[554]? = some (.code yX2_isAboveNeighbour cX2_isAboveNeighbour 5 (some FieldType.boolean)) := by decide +kernel
theorem t_555 : lw_tbl[555]? = some (.stringRef RX3 158 "a neighbour has woven less") := by decide +kernel
theorem t_556 : lw_tbl[556]? = some (.methodLink RX3 160 yX2_threadsSuffice) := by decide +kernel
theorem t_557 : lw_tbl[557]? = some (.instanceMethod yX2_threadsSuffice) := by decide +kernel
theorem t_558 : lw_tbl[558]? = some (.selects RX2 yX2_threadsSuffice yX2_threadsSuffice) := by decide +kernel
theorem t_559 : lw_tbl[559]? = some (.code yX2_threadsSuffice cX2_threadsSuffice 4 (some FieldType.boolean)) := by decide +kernel
theorem t_560 : lw_tbl[560]? = some (.methodLink RX2 65 yX2_countInNextRow) := by decide +kernel
theorem t_562 : lw_tbl[562]? = some (.instanceMethod yX2_countInNextRow) := by decide +kernel
theorem t_563 : lw_tbl[563]? = some (.code yX2_countInNextRow cX2_countInNextRow 7 (some FieldType.int)) := by decide +kernel
theorem t_564 : lw_tbl[564]? = some (.methodLink RX2 74 yX2_firstColumnOf) := by decide +kernel
theorem t_566 : lw_tbl[566]? = some (.instanceMethod yX2_firstColumnOf) := by decide +kernel
theorem t_567 : lw_tbl[567]? = some (.code yX2_firstColumnOf cX2_firstColumnOf 2 (some FieldType.int)) := by decide +kernel
theorem t_568 : lw_tbl[568]? = some (.methodLink RX2 68 yX1_threadsOfColour) := by decide +kernel
theorem t_569 : lw_tbl[569]? = some (.instanceMethod yX1_threadsOfColour) := by decide +kernel
theorem t_570 : lw_tbl[570]? = some (.selects RX1 yX1_threadsOfColour yX1_threadsOfColour) := by decide +kernel
theorem t_571 : lw_tbl[571]? = some (.code yX1_threadsOfColour cX1_threadsOfColour 4 (some FieldType.int)) := by decide +kernel
theorem t_572 : lw_tbl[572]? = some (.methodLink RX1 40 yX1_threadsIn) := by decide +kernel
theorem t_573 : lw_tbl[573]? = some (.stringRef RX3 164 "threads lack") := by decide +kernel
theorem t_574 : lw_tbl[574]? = some (.methodLink RX3 166 yX2_weaveRow) := by decide +kernel
theorem t_575 : lw_tbl[575]? = some (.instanceMethod yX2_weaveRow) := by decide +kernel
theorem t_576 : lw_tbl[576]? = some (.selects RX2 yX2_weaveRow yX2_weaveRow) := by decide +kernel
theorem t_577 : lw_tbl[577]? = some (.code yX2_weaveRow cX2_weaveRow 6 (some FieldType.int)) := by decide +kernel
theorem t_578 : lw_tbl[578]? = some (.methodLink RX2 79 yX1_takeThread) := by decide +kernel
theorem t_579 : lw_tbl[579]? = some (.instanceMethod yX1_takeThread) := by decide +kernel
theorem t_580 : lw_tbl[580]? = some (.selects RX1 yX1_takeThread yX1_takeThread) := by decide +kernel
theorem t_581 : lw_tbl[581]? = some (.code yX1_takeThread cX1_takeThread 4 (some FieldType.int)) := by decide +kernel
theorem t_582 : lw_tbl[582]? = some (.methodLink RL 154 yL_joins) := by decide +kernel
theorem t_583 : lw_tbl[583]? = some (.static yL_joins) := by decide +kernel
set_option maxRecDepth 100000 in
theorem t_584 : lw_tbl[584]? = some (.code yL_joins cL_joins 12 (some FieldType.boolean)) := rfl
theorem t_585 : lw_tbl[585]? = some (.methodLink RL 132 yL_match) := by decide +kernel
theorem t_586 : lw_tbl[586]? = some (.static yL_match) := by decide +kernel
theorem t_587 : lw_tbl[587]? = some (.codeWith yL_match cL_match 4 (some FieldType.int) [(0, 6, 7, 29), (0, 6, 11, 16), (0, 6, 15, 19)]) := by decide +kernel
theorem t_588 : lw_tbl[588]? = some (.methodLink RL 71 yX3_match) := by decide +kernel
theorem t_589 : lw_tbl[589]? = some (.instanceMethod yX3_match) := by decide +kernel
theorem t_590 : lw_tbl[590]? = some (.selects RX3 yX3_match yX3_match) := by decide +kernel
theorem t_591 : lw_tbl[591]? = some (.code yX3_match cX3_match 5 (some FieldType.int)) := by decide +kernel
theorem t_592 : lw_tbl[592]? = some (.methodLink RX3 235 yX3_requireTwoDone) := by decide +kernel
theorem t_593 : lw_tbl[593]? = some (.static yX3_requireTwoDone) := by decide +kernel
theorem t_594 : lw_tbl[594]? = some (.code yX3_requireTwoDone cX3_requireTwoDone 4 (none : Option FieldType)) := by decide +kernel
theorem t_595 : lw_tbl[595]? = some (.stringRef RX3 280 "both pieces are the same") := by decide +kernel
theorem t_596 : lw_tbl[596]? = some (.methodLink RX3 209 yX3_requireDone) := by decide +kernel
theorem t_597 : lw_tbl[597]? = some (.static yX3_requireDone) := by decide +kernel
theorem t_598 : lw_tbl[598]? = some (.code yX3_requireDone cX3_requireDone 1 (none : Option FieldType)) := by decide +kernel
theorem t_599 : lw_tbl[599]? = some (.stringRef RX3 278 "the piece is not done") := by decide +kernel
theorem t_600 : lw_tbl[600]? = some (.methodLink RX3 239 yX2_countMatching) := by decide +kernel
theorem t_601 : lw_tbl[601]? = some (.instanceMethod yX2_countMatching) := by decide +kernel
theorem t_602 : lw_tbl[602]? = some (.selects RX2 yX2_countMatching yX2_countMatching) := by decide +kernel
theorem t_603 : lw_tbl[603]? = some (.code yX2_countMatching cX2_countMatching 4 (some FieldType.int)) := by decide +kernel
theorem t_604 : lw_tbl[604]? = some (.methodLink RL 130 yL_join) := by decide +kernel
theorem t_605 : lw_tbl[605]? = some (.static yL_join) := by decide +kernel
theorem t_606 : lw_tbl[606]? = some (.codeWith yL_join cL_join 4 (some FieldType.int) [(0, 14, 15, 29), (0, 14, 19, 16), (0, 14, 23, 19)]) := by decide +kernel
theorem t_607 : lw_tbl[607]? = some (.methodLink RL 74 yX3_join) := by decide +kernel
theorem t_608 : lw_tbl[608]? = some (.instanceMethod yX3_join) := by decide +kernel
theorem t_609 : lw_tbl[609]? = some (.selects RX3 yX3_join yX3_join) := by decide +kernel
theorem t_610 : lw_tbl[610]? = some (.code yX3_join cX3_join 6 (some FieldType.boolean)) := by decide +kernel
theorem t_611 : lw_tbl[611]? = some (.stringRef RX3 242 "the pieces have not as many rows") := by decide +kernel
theorem t_612 : lw_tbl[612]? = some (.stringRef RX3 244 "the pieces have too many columns together") := by decide +kernel
theorem t_613 : lw_tbl[613]? = some (.methodLink RX3 229 yX2_append) := by decide +kernel
theorem t_614 : lw_tbl[614]? = some (.instanceMethod yX2_append) := by decide +kernel
theorem t_615 : lw_tbl[615]? = some (.selects RX2 yX2_append yX2_append) := by decide +kernel
theorem t_616 : lw_tbl[616]? = some (.code yX2_append cX2_append 4 (none : Option FieldType)) := by decide +kernel
theorem t_617 : lw_tbl[617]? = some (.methodLink RX2 127 yX2_copyColumn) := by decide +kernel
theorem t_619 : lw_tbl[619]? = some (.instanceMethod yX2_copyColumn) := by decide +kernel
theorem t_620 : lw_tbl[620]? = some (.code yX2_copyColumn cX2_copyColumn 5 (none : Option FieldType)) := by decide +kernel
theorem t_621 : lw_tbl[621]? = some (.methodLink RX2 106 yX2_setSewnAhead) := by decide +kernel
theorem t_623 : lw_tbl[623]? = some (.instanceMethod yX2_setSewnAhead) := by decide +kernel
theorem t_624 : lw_tbl[624]? = some (.code yX2_setSewnAhead cX2_setSewnAhead 3 (none : Option FieldType)) := by decide +kernel
theorem t_625 : lw_tbl[625]? = some (.methodLink RX3 246 yX3_dropPiece) := by decide +kernel
theorem t_627 : lw_tbl[627]? = some (.instanceMethod yX3_dropPiece) := by decide +kernel
theorem t_628 : lw_tbl[628]? = some (.code yX3_dropPiece cX3_dropPiece 2 (none : Option FieldType)) := by decide +kernel
theorem t_629 : lw_tbl[629]? = some (.methodLink RX3 249 yX2_isTrueAhead) := by decide +kernel
theorem t_630 : lw_tbl[630]? = some (.methodLink RL 118 yL_wash) := by decide +kernel
theorem t_631 : lw_tbl[631]? = some (.static yL_wash) := by decide +kernel
theorem t_632 : lw_tbl[632]? = some (.codeWith yL_wash cL_wash 3 (some FieldType.int) [(0, 5, 6, 29), (0, 5, 10, 19)]) := by decide +kernel
theorem t_633 : lw_tbl[633]? = some (.methodLink RL 65 yX3_wash) := by decide +kernel
theorem t_634 : lw_tbl[634]? = some (.instanceMethod yX3_wash) := by decide +kernel
theorem t_635 : lw_tbl[635]? = some (.selects RX3 yX3_wash yX3_wash) := by decide +kernel
theorem t_636 : lw_tbl[636]? = some (.code yX3_wash cX3_wash 3 (some FieldType.int)) := by decide +kernel
theorem t_637 : lw_tbl[637]? = some (.methodLink RX3 225 yX2_bleed) := by decide +kernel
theorem t_638 : lw_tbl[638]? = some (.instanceMethod yX2_bleed) := by decide +kernel
theorem t_639 : lw_tbl[639]? = some (.selects RX2 yX2_bleed yX2_bleed) := by decide +kernel
theorem t_640 : lw_tbl[640]? = some (.code yX2_bleed cX2_bleed 5 (none : Option FieldType)) := by decide +kernel
theorem t_641 : lw_tbl[641]? = some (.methodLink RX2 117 yX1_isBleeding) := by decide +kernel
theorem t_642 : lw_tbl[642]? = some (.instanceMethod yX1_isBleeding) := by decide +kernel
theorem t_643 : lw_tbl[643]? = some (.selects RX1 yX1_isBleeding yX1_isBleeding) := by decide +kernel
theorem t_644 : lw_tbl[644]? = some (.code yX1_isBleeding cX1_isBleeding 2 (some FieldType.boolean)) := by decide +kernel
theorem t_645 : lw_tbl[645]? = some (.methodLink RX2 120 yX2_stain) := by decide +kernel
theorem t_647 : lw_tbl[647]? = some (.instanceMethod yX2_stain) := by decide +kernel
theorem t_648 : lw_tbl[648]? = some (.code yX2_stain cX2_stain 4 (none : Option FieldType)) := by decide +kernel
theorem t_649 : lw_tbl[649]? = some (.methodLink RX2 123 yX2_holds) := by decide +kernel
theorem t_650 : lw_tbl[650]? = some (.methodLink RX2 113 yX2_dim) := by decide +kernel
theorem t_652 : lw_tbl[652]? = some (.instanceMethod yX2_dim) := by decide +kernel
theorem t_653 : lw_tbl[653]? = some (.code yX2_dim cX2_dim 4 (none : Option FieldType)) := by decide +kernel
theorem t_654 : lw_tbl[654]? = some (.methodLink RL 157 yL_cuts) := by decide +kernel
theorem t_655 : lw_tbl[655]? = some (.static yL_cuts) := by decide +kernel
set_option maxRecDepth 100000 in
theorem t_656 : lw_tbl[656]? = some (.code yL_cuts cL_cuts 12 (some FieldType.boolean)) := rfl
theorem t_657 : lw_tbl[657]? = some (.methodLink RL 124 yL_cut) := by decide +kernel
theorem t_658 : lw_tbl[658]? = some (.static yL_cut) := by decide +kernel
theorem t_659 : lw_tbl[659]? = some (.codeWith yL_cut cL_cut 4 (some FieldType.int) [(0, 6, 7, 29), (0, 6, 11, 19)]) := by decide +kernel
theorem t_660 : lw_tbl[660]? = some (.methodLink RL 68 yX3_cut) := by decide +kernel
theorem t_661 : lw_tbl[661]? = some (.instanceMethod yX3_cut) := by decide +kernel
theorem t_662 : lw_tbl[662]? = some (.selects RX3 yX3_cut yX3_cut) := by decide +kernel
theorem t_663 : lw_tbl[663]? = some (.code yX3_cut cX3_cut 5 (some FieldType.int)) := by decide +kernel
theorem t_664 : lw_tbl[664]? = some (.methodLink RX3 205 yX3_requireSecondColumn) := by decide +kernel
theorem t_665 : lw_tbl[665]? = some (.static yX3_requireSecondColumn) := by decide +kernel
theorem t_666 : lw_tbl[666]? = some (.code yX3_requireSecondColumn cX3_requireSecondColumn 2 (none : Option FieldType)) := by decide +kernel
theorem t_667 : lw_tbl[667]? = some (.stringRef RX3 276 "no such column behind another one") := by decide +kernel
theorem t_668 : lw_tbl[668]? = some (.methodLink RX3 232 yX2_keepAhead) := by decide +kernel
theorem t_669 : lw_tbl[669]? = some (.instanceMethod yX2_keepAhead) := by decide +kernel
theorem t_670 : lw_tbl[670]? = some (.selects RX2 yX2_keepAhead yX2_keepAhead) := by decide +kernel
theorem t_671 : lw_tbl[671]? = some (.code yX2_keepAhead cX2_keepAhead 2 (none : Option FieldType)) := by decide +kernel
theorem t_672 : lw_tbl[672]? = some (.methodLink RL 160 yL_sews) := by decide +kernel
theorem t_673 : lw_tbl[673]? = some (.static yL_sews) := by decide +kernel
theorem t_674 : lw_tbl[674]? = some (.code yL_sews cL_sews 7 (some FieldType.boolean)) := by decide +kernel
theorem t_675 : lw_tbl[675]? = some (.methodLink RL 120 yL_sew) := by decide +kernel
theorem t_676 : lw_tbl[676]? = some (.static yL_sew) := by decide +kernel
theorem t_677 : lw_tbl[677]? = some (.codeWith yL_sew cL_sew 4 (some FieldType.int) [(0, 14, 15, 29), (0, 14, 19, 19)]) := by decide +kernel
theorem t_678 : lw_tbl[678]? = some (.methodLink RL 58 yX3_sew) := by decide +kernel
theorem t_679 : lw_tbl[679]? = some (.instanceMethod yX3_sew) := by decide +kernel
theorem t_680 : lw_tbl[680]? = some (.selects RX3 yX3_sew yX3_sew) := by decide +kernel
theorem t_681 : lw_tbl[681]? = some (.code yX3_sew cX3_sew 5 (some FieldType.boolean)) := by decide +kernel
theorem t_682 : lw_tbl[682]? = some (.methodLink RX3 213 yX2_hasSlitAhead) := by decide +kernel
theorem t_683 : lw_tbl[683]? = some (.methodLink RX3 216 yX2_sewAhead) := by decide +kernel
theorem t_684 : lw_tbl[684]? = some (.instanceMethod yX2_sewAhead) := by decide +kernel
theorem t_685 : lw_tbl[685]? = some (.selects RX2 yX2_sewAhead yX2_sewAhead) := by decide +kernel
theorem t_686 : lw_tbl[686]? = some (.code yX2_sewAhead cX2_sewAhead 2 (none : Option FieldType)) := by decide +kernel
theorem t_687 : lw_tbl[687]? = some (.methodLink RL 164 yL_wears) := by decide +kernel
theorem t_688 : lw_tbl[688]? = some (.static yL_wears) := by decide +kernel
theorem t_689 : lw_tbl[689]? = some (.code yL_wears cL_wears 7 (some FieldType.boolean)) := by decide +kernel
theorem t_690 : lw_tbl[690]? = some (.methodLink RL 116 yL_light) := by decide +kernel
theorem t_691 : lw_tbl[691]? = some (.static yL_light) := by decide +kernel
theorem t_692 : lw_tbl[692]? = some (.codeWith yL_light cL_light 4 (some FieldType.int) [(0, 6, 7, 29), (0, 6, 11, 16), (0, 6, 15, 19)]) := by decide +kernel
theorem t_693 : lw_tbl[693]? = some (.methodLink RL 62 yX3_light) := by decide +kernel
theorem t_694 : lw_tbl[694]? = some (.instanceMethod yX3_light) := by decide +kernel
theorem t_695 : lw_tbl[695]? = some (.selects RX3 yX3_light yX3_light) := by decide +kernel
theorem t_696 : lw_tbl[696]? = some (.code yX3_light cX3_light 4 (some FieldType.int)) := by decide +kernel
theorem t_697 : lw_tbl[697]? = some (.stringRef RX3 219 "the hours are out of their range") := by decide +kernel
theorem t_698 : lw_tbl[698]? = some (.methodLink RX3 221 yX2_fade) := by decide +kernel
theorem t_699 : lw_tbl[699]? = some (.instanceMethod yX2_fade) := by decide +kernel
theorem t_700 : lw_tbl[700]? = some (.selects RX2 yX2_fade yX2_fade) := by decide +kernel
theorem t_701 : lw_tbl[701]? = some (.code yX2_fade cX2_fade 5 (none : Option FieldType)) := by decide +kernel
theorem t_702 : lw_tbl[702]? = some (.methodLink RX2 110 yX1_fadeOf) := by decide +kernel
theorem t_703 : lw_tbl[703]? = some (.instanceMethod yX1_fadeOf) := by decide +kernel
theorem t_704 : lw_tbl[704]? = some (.selects RX1 yX1_fadeOf yX1_fadeOf) := by decide +kernel
theorem t_705 : lw_tbl[705]? = some (.code yX1_fadeOf cX1_fadeOf 2 (some FieldType.int)) := by decide +kernel
theorem t_706 : lw_tbl[706]? = some (.methodLink RL 172 yX3_gold) := by decide +kernel
theorem t_707 : lw_tbl[707]? = some (.instanceMethod yX3_gold) := by decide +kernel
theorem t_708 : lw_tbl[708]? = some (.selects RX3 yX3_gold yX3_gold) := by decide +kernel
theorem t_709 : lw_tbl[709]? = some (.code yX3_gold cX3_gold 4 (some FieldType.int)) := by decide +kernel
theorem t_710 : lw_tbl[710]? = some (.methodLink RX3 120 yX2_countWovenOf) := by decide +kernel
theorem t_711 : lw_tbl[711]? = some (.instanceMethod yX2_countWovenOf) := by decide +kernel
theorem t_712 : lw_tbl[712]? = some (.selects RX2 yX2_countWovenOf yX2_countWovenOf) := by decide +kernel
theorem t_713 : lw_tbl[713]? = some (.code yX2_countWovenOf cX2_countWovenOf 5 (some FieldType.int)) := by decide +kernel
