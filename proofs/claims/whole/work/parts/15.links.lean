theorem tw_0 : tb_in (.selects RX9 yX9_refusalOfMinutes yX9_refusalOfMinutes) := ⟨List.mem_of_getElem? (i := 0) (by decide +kernel), by decide +kernel⟩
theorem tw_1 : tb_in (.selects RX10 yX10_here yX10_here) := ⟨List.mem_of_getElem? (i := 1) (by decide +kernel), by decide +kernel⟩
theorem tw_2 : tb_in (.selects RX10 yX10_letterAt yX10_letterAt) := ⟨List.mem_of_getElem? (i := 2) (by decide +kernel), by decide +kernel⟩
theorem tw_3 : tb_in (.selects RX10 yX10_takesClause yX10_takesClause) := ⟨List.mem_of_getElem? (i := 3) (by decide +kernel), by decide +kernel⟩
theorem tw_4 : tb_in (.selects RX10 yX10_fails yX10_fails) := ⟨List.mem_of_getElem? (i := 4) (by decide +kernel), by decide +kernel⟩
theorem tw_5 : tb_in (.selects RX10 yX10_takesWords yX10_takesWords) := ⟨List.mem_of_getElem? (i := 5) (by decide +kernel), by decide +kernel⟩
theorem tw_6 : tb_in (.selects RX10 yX10_takesHotel yX10_takesHotel) := ⟨List.mem_of_getElem? (i := 6) (by decide +kernel), by decide +kernel⟩
theorem tw_7 : tb_in (.selects RX10 yX10_takesNumber yX10_takesNumber) := ⟨List.mem_of_getElem? (i := 7) (by decide +kernel), by decide +kernel⟩
theorem tw_8 : tb_in (.selects RX10 yX10_takesPassage yX10_takesPassage) := ⟨List.mem_of_getElem? (i := 8) (by decide +kernel), by decide +kernel⟩
theorem tw_9 : tb_in (.selects RX10 yX10_takesWaiter yX10_takesWaiter) := ⟨List.mem_of_getElem? (i := 9) (by decide +kernel), by decide +kernel⟩
theorem tw_10 : tb_in (.selects RX10 yX10_takesThing yX10_takesThing) := ⟨List.mem_of_getElem? (i := 10) (by decide +kernel), by decide +kernel⟩
theorem tw_11 : tb_in (.selects RX10 yX10_takesOrder yX10_takesOrder) := ⟨List.mem_of_getElem? (i := 11) (by decide +kernel), by decide +kernel⟩
theorem tw_12 : tb_in (.selects RX10 yX10_takes yX10_takes) := ⟨List.mem_of_getElem? (i := 12) (by decide +kernel), by decide +kernel⟩
theorem tw_13 : tb_in (.selects RX10 yX10_thingsAt yX10_thingsAt) := ⟨List.mem_of_getElem? (i := 13) (by decide +kernel), by decide +kernel⟩
theorem tw_14 : tb_in (.selects RX10 yX10_worthOf yX10_worthOf) := ⟨List.mem_of_getElem? (i := 14) (by decide +kernel), by decide +kernel⟩
theorem tw_15 : tb_in (.selects RX10 yX10_isRoom yX10_isRoom) := ⟨List.mem_of_getElem? (i := 15) (by decide +kernel), by decide +kernel⟩
theorem tw_16 : tb_in (.selects RX10 yX10_isWaiter yX10_isWaiter) := ⟨List.mem_of_getElem? (i := 16) (by decide +kernel), by decide +kernel⟩
theorem tw_17 : tb_in (.selects RX10 yX10_onTray yX10_onTray) := ⟨List.mem_of_getElem? (i := 17) (by decide +kernel), by decide +kernel⟩
theorem tw_18 : tb_in (.selects RX10 yX10_weightOf yX10_weightOf) := ⟨List.mem_of_getElem? (i := 18) (by decide +kernel), by decide +kernel⟩
theorem tw_19 : tb_in (.selects RX10 yX10_differs yX10_differs) := ⟨List.mem_of_getElem? (i := 19) (by decide +kernel), by decide +kernel⟩
theorem tw_20 : tb_in (.selects RX10 yX10_isThing yX10_isThing) := ⟨List.mem_of_getElem? (i := 20) (by decide +kernel), by decide +kernel⟩
theorem tw_21 : tb_in (.selects RX10 yX10_whose yX10_whose) := ⟨List.mem_of_getElem? (i := 21) (by decide +kernel), by decide +kernel⟩
theorem tw_22 : tb_in (.selects RX10 yX10_copy yX10_copy) := ⟨List.mem_of_getElem? (i := 22) (by decide +kernel), by decide +kernel⟩
theorem tw_23 : tb_in (.selects RX10 yX10_minds yX10_minds) := ⟨List.mem_of_getElem? (i := 23) (by decide +kernel), by decide +kernel⟩
theorem tw_24 : tb_in (.selects RX10 yX10_passes yX10_passes) := ⟨List.mem_of_getElem? (i := 24) (by decide +kernel), by decide +kernel⟩
theorem tw_25 : tb_in (.selects RX10 yX10_walks yX10_walks) := ⟨List.mem_of_getElem? (i := 25) (by decide +kernel), by decide +kernel⟩
theorem tw_26 : tb_in (.selects RX10 yX10_haveMet yX10_haveMet) := ⟨List.mem_of_getElem? (i := 26) (by decide +kernel), by decide +kernel⟩
theorem tw_27 : tb_in (.selects RX10 yX10_spills yX10_spills) := ⟨List.mem_of_getElem? (i := 27) (by decide +kernel), by decide +kernel⟩
theorem tw_28 : tb_in (.selects RX10 yX10_areTwo yX10_areTwo) := ⟨List.mem_of_getElem? (i := 28) (by decide +kernel), by decide +kernel⟩
theorem tw_29 : tb_in (.selects RX10 yX10_draw yX10_draw) := ⟨List.mem_of_getElem? (i := 29) (by decide +kernel), by decide +kernel⟩
theorem tw_30 : tb_in (.selects RX10 yX10_tries yX10_tries) := ⟨List.mem_of_getElem? (i := 30) (by decide +kernel), by decide +kernel⟩
theorem tw_31 : tb_in (.selects RX10 yX10_walksAll yX10_walksAll) := ⟨List.mem_of_getElem? (i := 31) (by decide +kernel), by decide +kernel⟩
theorem tw_32 : tb_in (.selects RX10 yX10_wayOf yX10_wayOf) := ⟨List.mem_of_getElem? (i := 32) (by decide +kernel), by decide +kernel⟩
theorem tw_33 : tb_in (.selects RX10 yX10_nextOf yX10_nextOf) := ⟨List.mem_of_getElem? (i := 33) (by decide +kernel), by decide +kernel⟩
theorem tw_34 : tb_in (.selects RX10 yX10_isApart yX10_isApart) := ⟨List.mem_of_getElem? (i := 34) (by decide +kernel), by decide +kernel⟩
theorem tw_35 : tb_in (.selects RX10 yX10_servedBy yX10_servedBy) := ⟨List.mem_of_getElem? (i := 35) (by decide +kernel), by decide +kernel⟩
theorem tw_36 : tb_in (.selects RX10 yX10_spillers yX10_spillers) := ⟨List.mem_of_getElem? (i := 36) (by decide +kernel), by decide +kernel⟩
theorem tw_37 : tb_in (.selects RX10 yX10_comesTo yX10_comesTo) := ⟨List.mem_of_getElem? (i := 37) (by decide +kernel), by decide +kernel⟩
theorem tw_38 : tb_in (.initialized RL) := ⟨List.mem_of_getElem? (i := 38) (by decide +kernel), by decide +kernel⟩
theorem tw_39 : tb_in (.initialized RX9) := ⟨List.mem_of_getElem? (i := 39) (by decide +kernel), by decide +kernel⟩
theorem tw_40 : tb_in (.initialized RX5) := ⟨List.mem_of_getElem? (i := 40) (by decide +kernel), by decide +kernel⟩
theorem tw_41 : tb_in (.initialized RX8) := ⟨List.mem_of_getElem? (i := 41) (by decide +kernel), by decide +kernel⟩
theorem tw_42 : tb_in (.initialized RX2) := ⟨List.mem_of_getElem? (i := 42) (by decide +kernel), by decide +kernel⟩
theorem tw_43 : tb_in (.initialized RX6) := ⟨List.mem_of_getElem? (i := 43) (by decide +kernel), by decide +kernel⟩
theorem tw_44 : tb_in (.initialized RX4) := ⟨List.mem_of_getElem? (i := 44) (by decide +kernel), by decide +kernel⟩
theorem tw_45 : tb_in (.initialized RX0) := ⟨List.mem_of_getElem? (i := 45) (by decide +kernel), by decide +kernel⟩
theorem tw_46 : tb_in (.initialized RX1) := ⟨List.mem_of_getElem? (i := 46) (by decide +kernel), by decide +kernel⟩
theorem tw_47 : tb_in (.initialized RX7) := ⟨List.mem_of_getElem? (i := 47) (by decide +kernel), by decide +kernel⟩
theorem tw_48 : tb_in (.initialized RX3) := ⟨List.mem_of_getElem? (i := 48) (by decide +kernel), by decide +kernel⟩
theorem tw_49 : tb_in (.initialized RX10) := ⟨List.mem_of_getElem? (i := 49) (by decide +kernel), by decide +kernel⟩
theorem tw_50 : tb_in (.initialized RJ10) := ⟨List.mem_of_getElem? (i := 50) (by decide +kernel), by decide +kernel⟩
theorem tw_51 : tb_in (.initialized RJ9) := ⟨List.mem_of_getElem? (i := 51) (by decide +kernel), by decide +kernel⟩
theorem tw_52 : tb_in (.initialized RJ6) := ⟨List.mem_of_getElem? (i := 52) (by decide +kernel), by decide +kernel⟩
theorem tw_53 : tb_in (.classLink RL 7 RX9) := ⟨List.mem_of_getElem? (i := 53) (by decide +kernel), by decide +kernel⟩
theorem tw_54 : tb_in (.instantiable RX9 9) := ⟨List.mem_of_getElem? (i := 54) (by decide +kernel), by decide +kernel⟩
theorem tw_55 : tb_in (.methodLink RL 9 yX9_init) := ⟨List.mem_of_getElem? (i := 55) (by decide +kernel), by decide +kernel⟩
theorem tw_56 : tb_in (.instanceMethod yX9_init) := ⟨List.mem_of_getElem? (i := 56) (by decide +kernel), by decide +kernel⟩
theorem tw_58 : tb_in (.methodLink RX9 1 Lib.objectInit) := ⟨List.mem_of_getElem? (i := 58) (by decide +kernel), by decide +kernel⟩
theorem tw_59 : tb_in (.instanceMethod Lib.objectInit) := ⟨List.mem_of_getElem? (i := 59) (by decide +kernel), by decide +kernel⟩
theorem tw_61 : tb_in (.classLink RX9 7 RX5) := ⟨List.mem_of_getElem? (i := 61) (by decide +kernel), by decide +kernel⟩
theorem tw_62 : tb_in (.instantiable RX5 13) := ⟨List.mem_of_getElem? (i := 62) (by decide +kernel), by decide +kernel⟩
theorem tw_64 : tb_in (.instanceMethod yX5_init) := ⟨List.mem_of_getElem? (i := 64) (by decide +kernel), by decide +kernel⟩
theorem tw_66 : tb_in (.methodLink RX5 3 Lib.objectInit) := ⟨List.mem_of_getElem? (i := 66) (by decide +kernel), by decide +kernel⟩
theorem tw_127 : tb_in (.arrayClass .int) := ⟨List.mem_of_getElem? (i := 127) (by decide +kernel), by decide +kernel⟩
theorem tw_128 : tb_in (.classLink RX9 10 RX8) := ⟨List.mem_of_getElem? (i := 128) (by decide +kernel), by decide +kernel⟩
theorem tw_129 : tb_in (.instantiable RX8 6) := ⟨List.mem_of_getElem? (i := 129) (by decide +kernel), by decide +kernel⟩
theorem tw_130 : tb_in (.methodLink RX9 12 yX8_init) := ⟨List.mem_of_getElem? (i := 130) (by decide +kernel), by decide +kernel⟩
theorem tw_131 : tb_in (.instanceMethod yX8_init) := ⟨List.mem_of_getElem? (i := 131) (by decide +kernel), by decide +kernel⟩
theorem tw_133 : tb_in (.methodLink RX8 3 Lib.objectInit) := ⟨List.mem_of_getElem? (i := 133) (by decide +kernel), by decide +kernel⟩
theorem tw_159 : tb_in (.classLink RX9 15 RX2) := ⟨List.mem_of_getElem? (i := 159) (by decide +kernel), by decide +kernel⟩
theorem tw_161 : tb_in (.instantiable RX2 3) := ⟨List.mem_of_getElem? (i := 161) (by decide +kernel), by decide +kernel⟩
theorem tw_163 : tb_in (.instanceMethod yX2_init) := ⟨List.mem_of_getElem? (i := 163) (by decide +kernel), by decide +kernel⟩
theorem tw_165 : tb_in (.methodLink RX2 1 Lib.objectInit) := ⟨List.mem_of_getElem? (i := 165) (by decide +kernel), by decide +kernel⟩
theorem tw_166 : tb_in (.classLink RX2 7 RX8) := ⟨List.mem_of_getElem? (i := 166) (by decide +kernel), by decide +kernel⟩
theorem tw_167 : tb_in (.methodLink RX2 9 yX8_init) := ⟨List.mem_of_getElem? (i := 167) (by decide +kernel), by decide +kernel⟩
theorem tw_179 : tb_in (.classLink RX9 18 RX6) := ⟨List.mem_of_getElem? (i := 179) (by decide +kernel), by decide +kernel⟩
theorem tw_180 : tb_in (.instantiable RX6 7) := ⟨List.mem_of_getElem? (i := 180) (by decide +kernel), by decide +kernel⟩
theorem tw_182 : tb_in (.instanceMethod yX6_init) := ⟨List.mem_of_getElem? (i := 182) (by decide +kernel), by decide +kernel⟩
theorem tw_184 : tb_in (.methodLink RX6 3 Lib.objectInit) := ⟨List.mem_of_getElem? (i := 184) (by decide +kernel), by decide +kernel⟩
theorem tw_185 : tb_in (.classLink RX6 9 RX5) := ⟨List.mem_of_getElem? (i := 185) (by decide +kernel), by decide +kernel⟩
theorem tw_212 : tb_in (.arrayClass .char) := ⟨List.mem_of_getElem? (i := 212) (by decide +kernel), by decide +kernel⟩
theorem tw_213 : tb_in (.classLink RX9 33 RX4) := ⟨List.mem_of_getElem? (i := 213) (by decide +kernel), by decide +kernel⟩
theorem tw_214 : tb_in (.instantiable RX4 3) := ⟨List.mem_of_getElem? (i := 214) (by decide +kernel), by decide +kernel⟩
theorem tw_215 : tb_in (.methodLink RX9 35 yX4_init) := ⟨List.mem_of_getElem? (i := 215) (by decide +kernel), by decide +kernel⟩
theorem tw_216 : tb_in (.instanceMethod yX4_init) := ⟨List.mem_of_getElem? (i := 216) (by decide +kernel), by decide +kernel⟩
theorem tw_218 : tb_in (.methodLink RX4 3 Lib.objectInit) := ⟨List.mem_of_getElem? (i := 218) (by decide +kernel), by decide +kernel⟩
theorem tw_219 : tb_in (.classLink RX4 9 RX8) := ⟨List.mem_of_getElem? (i := 219) (by decide +kernel), by decide +kernel⟩
theorem tw_221 : tb_in (.methodLink RX4 17 yX8_init) := ⟨List.mem_of_getElem? (i := 221) (by decide +kernel), by decide +kernel⟩
theorem tw_233 : tb_in (.classLink RX9 40 RX0) := ⟨List.mem_of_getElem? (i := 233) (by decide +kernel), by decide +kernel⟩
theorem tw_234 : tb_in (.instantiable RX0 4) := ⟨List.mem_of_getElem? (i := 234) (by decide +kernel), by decide +kernel⟩
theorem tw_235 : tb_in (.methodLink RX9 42 yX0_init) := ⟨List.mem_of_getElem? (i := 235) (by decide +kernel), by decide +kernel⟩
theorem tw_236 : tb_in (.instanceMethod yX0_init) := ⟨List.mem_of_getElem? (i := 236) (by decide +kernel), by decide +kernel⟩
theorem tw_238 : tb_in (.methodLink RX0 3 Lib.objectInit) := ⟨List.mem_of_getElem? (i := 238) (by decide +kernel), by decide +kernel⟩
theorem tw_253 : tb_in (.classLink RX9 49 RX1) := ⟨List.mem_of_getElem? (i := 253) (by decide +kernel), by decide +kernel⟩
theorem tw_254 : tb_in (.instantiable RX1 8) := ⟨List.mem_of_getElem? (i := 254) (by decide +kernel), by decide +kernel⟩
theorem tw_255 : tb_in (.methodLink RX9 51 yX1_init) := ⟨List.mem_of_getElem? (i := 255) (by decide +kernel), by decide +kernel⟩
theorem tw_256 : tb_in (.instanceMethod yX1_init) := ⟨List.mem_of_getElem? (i := 256) (by decide +kernel), by decide +kernel⟩
theorem tw_258 : tb_in (.methodLink RX1 3 Lib.objectInit) := ⟨List.mem_of_getElem? (i := 258) (by decide +kernel), by decide +kernel⟩
theorem tw_284 : tb_in (.classLink RX9 56 RX7) := ⟨List.mem_of_getElem? (i := 284) (by decide +kernel), by decide +kernel⟩
theorem tw_285 : tb_in (.instantiable RX7 6) := ⟨List.mem_of_getElem? (i := 285) (by decide +kernel), by decide +kernel⟩
theorem tw_286 : tb_in (.methodLink RX9 58 yX7_init) := ⟨List.mem_of_getElem? (i := 286) (by decide +kernel), by decide +kernel⟩
theorem tw_287 : tb_in (.instanceMethod yX7_init) := ⟨List.mem_of_getElem? (i := 287) (by decide +kernel), by decide +kernel⟩
theorem tw_289 : tb_in (.methodLink RX7 3 Lib.objectInit) := ⟨List.mem_of_getElem? (i := 289) (by decide +kernel), by decide +kernel⟩
theorem tw_309 : tb_in (.classLink RX9 63 RX3) := ⟨List.mem_of_getElem? (i := 309) (by decide +kernel), by decide +kernel⟩
theorem tw_310 : tb_in (.instantiable RX3 9) := ⟨List.mem_of_getElem? (i := 310) (by decide +kernel), by decide +kernel⟩
theorem tw_311 : tb_in (.methodLink RX9 65 yX3_init) := ⟨List.mem_of_getElem? (i := 311) (by decide +kernel), by decide +kernel⟩
theorem tw_312 : tb_in (.instanceMethod yX3_init) := ⟨List.mem_of_getElem? (i := 312) (by decide +kernel), by decide +kernel⟩
theorem tw_314 : tb_in (.methodLink RX3 3 Lib.objectInit) := ⟨List.mem_of_getElem? (i := 314) (by decide +kernel), by decide +kernel⟩
theorem tw_345 : tb_in (.arrayClass .boolean) := ⟨List.mem_of_getElem? (i := 345) (by decide +kernel), by decide +kernel⟩
theorem tw_374 : tb_in (.methodLink RL 13 yX9_feed) := ⟨List.mem_of_getElem? (i := 374) (by decide +kernel), by decide +kernel⟩
theorem tw_375 : tb_in (.instanceMethod yX9_feed) := ⟨List.mem_of_getElem? (i := 375) (by decide +kernel), by decide +kernel⟩
theorem tw_376 : tb_in (.selects RX9 yX9_feed yX9_feed) := ⟨List.mem_of_getElem? (i := 376) (by decide +kernel), by decide +kernel⟩
theorem tw_378 : tb_in (.constant RX9 74 (-1000000002)) := ⟨List.mem_of_getElem? (i := 378) (by decide +kernel), by decide +kernel⟩
theorem tw_379 : tb_in (.methodLink RX9 75 yX6_append) := ⟨List.mem_of_getElem? (i := 379) (by decide +kernel), by decide +kernel⟩
theorem tw_380 : tb_in (.instanceMethod yX6_append) := ⟨List.mem_of_getElem? (i := 380) (by decide +kernel), by decide +kernel⟩
theorem tw_381 : tb_in (.selects RX6 yX6_append yX6_append) := ⟨List.mem_of_getElem? (i := 381) (by decide +kernel), by decide +kernel⟩
theorem tw_383 : tb_in (.constant RX9 83 (-1000000004)) := ⟨List.mem_of_getElem? (i := 383) (by decide +kernel), by decide +kernel⟩
theorem tw_384 : tb_in (.methodLink RL 18 yX9_hotel) := ⟨List.mem_of_getElem? (i := 384) (by decide +kernel), by decide +kernel⟩
theorem tw_385 : tb_in (.instanceMethod yX9_hotel) := ⟨List.mem_of_getElem? (i := 385) (by decide +kernel), by decide +kernel⟩
theorem tw_386 : tb_in (.selects RX9 yX9_hotel yX9_hotel) := ⟨List.mem_of_getElem? (i := 386) (by decide +kernel), by decide +kernel⟩
theorem tw_388 : tb_in (.methodLink RX9 84 yX6_readAll) := ⟨List.mem_of_getElem? (i := 388) (by decide +kernel), by decide +kernel⟩
theorem tw_389 : tb_in (.instanceMethod yX6_readAll) := ⟨List.mem_of_getElem? (i := 389) (by decide +kernel), by decide +kernel⟩
theorem tw_390 : tb_in (.selects RX6 yX6_readAll yX6_readAll) := ⟨List.mem_of_getElem? (i := 390) (by decide +kernel), by decide +kernel⟩
theorem tw_392 : tb_in (.methodLink RX6 29 yX5_clear) := ⟨List.mem_of_getElem? (i := 392) (by decide +kernel), by decide +kernel⟩
theorem tw_393 : tb_in (.instanceMethod yX5_clear) := ⟨List.mem_of_getElem? (i := 393) (by decide +kernel), by decide +kernel⟩
theorem tw_394 : tb_in (.selects RX5 yX5_clear yX5_clear) := ⟨List.mem_of_getElem? (i := 394) (by decide +kernel), by decide +kernel⟩
theorem tw_396 : tb_in (.methodLink RX6 38 yX6_skipBlanks) := ⟨List.mem_of_getElem? (i := 396) (by decide +kernel), by decide +kernel⟩
theorem tw_397 : tb_in (.instanceMethod yX6_skipBlanks) := ⟨List.mem_of_getElem? (i := 397) (by decide +kernel), by decide +kernel⟩
theorem tw_398 : tb_in (.selects RX6 yX6_skipBlanks yX6_skipBlanks) := ⟨List.mem_of_getElem? (i := 398) (by decide +kernel), by decide +kernel⟩
theorem tw_400 : tb_in (.methodLink RX6 44 yX6_letterAt) := ⟨List.mem_of_getElem? (i := 400) (by decide +kernel), by decide +kernel⟩
theorem tw_401 : tb_in (.instanceMethod yX6_letterAt) := ⟨List.mem_of_getElem? (i := 401) (by decide +kernel), by decide +kernel⟩
theorem tw_402 : tb_in (.selects RX6 yX6_letterAt yX6_letterAt) := ⟨List.mem_of_getElem? (i := 402) (by decide +kernel), by decide +kernel⟩
theorem tw_404 : tb_in (.methodLink RX6 41 yX6_readClause) := ⟨List.mem_of_getElem? (i := 404) (by decide +kernel), by decide +kernel⟩
theorem tw_405 : tb_in (.instanceMethod yX6_readClause) := ⟨List.mem_of_getElem? (i := 405) (by decide +kernel), by decide +kernel⟩
theorem tw_406 : tb_in (.selects RX6 yX6_readClause yX6_readClause) := ⟨List.mem_of_getElem? (i := 406) (by decide +kernel), by decide +kernel⟩
theorem tw_408 : tb_in (.methodLink RX6 48 yX6_faultOfWord) := ⟨List.mem_of_getElem? (i := 408) (by decide +kernel), by decide +kernel⟩
theorem tw_409 : tb_in (.instanceMethod yX6_faultOfWord) := ⟨List.mem_of_getElem? (i := 409) (by decide +kernel), by decide +kernel⟩
theorem tw_410 : tb_in (.selects RX6 yX6_faultOfWord yX6_faultOfWord) := ⟨List.mem_of_getElem? (i := 410) (by decide +kernel), by decide +kernel⟩
theorem tw_412 : tb_in (.methodLink RX6 91 yX5_isFull) := ⟨List.mem_of_getElem? (i := 412) (by decide +kernel), by decide +kernel⟩
theorem tw_413 : tb_in (.instanceMethod yX5_isFull) := ⟨List.mem_of_getElem? (i := 413) (by decide +kernel), by decide +kernel⟩
theorem tw_414 : tb_in (.selects RX5 yX5_isFull yX5_isFull) := ⟨List.mem_of_getElem? (i := 414) (by decide +kernel), by decide +kernel⟩
theorem tw_416 : tb_in (.methodLink RX6 51 yX6_blame) := ⟨List.mem_of_getElem? (i := 416) (by decide +kernel), by decide +kernel⟩
theorem tw_417 : tb_in (.instanceMethod yX6_blame) := ⟨List.mem_of_getElem? (i := 417) (by decide +kernel), by decide +kernel⟩
theorem tw_418 : tb_in (.selects RX6 yX6_blame yX6_blame) := ⟨List.mem_of_getElem? (i := 418) (by decide +kernel), by decide +kernel⟩
theorem tw_420 : tb_in (.methodLink RX6 55 yX6_firstLeast) := ⟨List.mem_of_getElem? (i := 420) (by decide +kernel), by decide +kernel⟩
theorem tw_421 : tb_in (.instanceMethod yX6_firstLeast) := ⟨List.mem_of_getElem? (i := 421) (by decide +kernel), by decide +kernel⟩
theorem tw_422 : tb_in (.selects RX6 yX6_firstLeast yX6_firstLeast) := ⟨List.mem_of_getElem? (i := 422) (by decide +kernel), by decide +kernel⟩
theorem tw_424 : tb_in (.methodLink RX6 58 yX6_firstMost) := ⟨List.mem_of_getElem? (i := 424) (by decide +kernel), by decide +kernel⟩
theorem tw_425 : tb_in (.instanceMethod yX6_firstMost) := ⟨List.mem_of_getElem? (i := 425) (by decide +kernel), by decide +kernel⟩
theorem tw_426 : tb_in (.selects RX6 yX6_firstMost yX6_firstMost) := ⟨List.mem_of_getElem? (i := 426) (by decide +kernel), by decide +kernel⟩
theorem tw_428 : tb_in (.methodLink RX6 61 yX6_readNumber) := ⟨List.mem_of_getElem? (i := 428) (by decide +kernel), by decide +kernel⟩
theorem tw_429 : tb_in (.instanceMethod yX6_readNumber) := ⟨List.mem_of_getElem? (i := 429) (by decide +kernel), by decide +kernel⟩
theorem tw_430 : tb_in (.selects RX6 yX6_readNumber yX6_readNumber) := ⟨List.mem_of_getElem? (i := 430) (by decide +kernel), by decide +kernel⟩
theorem tw_432 : tb_in (.methodLink RX6 95 yX6_isFigure) := ⟨List.mem_of_getElem? (i := 432) (by decide +kernel), by decide +kernel⟩
theorem tw_433 : tb_in (.static yX6_isFigure) := ⟨List.mem_of_getElem? (i := 433) (by decide +kernel), by decide +kernel⟩
theorem tw_435 : tb_in (.methodLink RX6 65 yX6_secondLeast) := ⟨List.mem_of_getElem? (i := 435) (by decide +kernel), by decide +kernel⟩
theorem tw_436 : tb_in (.instanceMethod yX6_secondLeast) := ⟨List.mem_of_getElem? (i := 436) (by decide +kernel), by decide +kernel⟩
theorem tw_437 : tb_in (.selects RX6 yX6_secondLeast yX6_secondLeast) := ⟨List.mem_of_getElem? (i := 437) (by decide +kernel), by decide +kernel⟩
theorem tw_439 : tb_in (.methodLink RX6 68 yX6_secondMost) := ⟨List.mem_of_getElem? (i := 439) (by decide +kernel), by decide +kernel⟩
theorem tw_440 : tb_in (.instanceMethod yX6_secondMost) := ⟨List.mem_of_getElem? (i := 440) (by decide +kernel), by decide +kernel⟩
theorem tw_441 : tb_in (.selects RX6 yX6_secondMost yX6_secondMost) := ⟨List.mem_of_getElem? (i := 441) (by decide +kernel), by decide +kernel⟩
theorem tw_443 : tb_in (.methodLink RX6 71 yX5_joinedTo) := ⟨List.mem_of_getElem? (i := 443) (by decide +kernel), by decide +kernel⟩
theorem tw_444 : tb_in (.instanceMethod yX5_joinedTo) := ⟨List.mem_of_getElem? (i := 444) (by decide +kernel), by decide +kernel⟩
theorem tw_445 : tb_in (.selects RX5 yX5_joinedTo yX5_joinedTo) := ⟨List.mem_of_getElem? (i := 445) (by decide +kernel), by decide +kernel⟩
theorem tw_447 : tb_in (.methodLink RX5 69 yX5_hasRoom) := ⟨List.mem_of_getElem? (i := 447) (by decide +kernel), by decide +kernel⟩
theorem tw_448 : tb_in (.instanceMethod yX5_hasRoom) := ⟨List.mem_of_getElem? (i := 448) (by decide +kernel), by decide +kernel⟩
theorem tw_449 : tb_in (.selects RX5 yX5_hasRoom yX5_hasRoom) := ⟨List.mem_of_getElem? (i := 449) (by decide +kernel), by decide +kernel⟩
theorem tw_452 : tb_in (.static yX9_has) := ⟨List.mem_of_getElem? (i := 452) (by decide +kernel), by decide +kernel⟩
theorem tw_454 : tb_in (.methodLink RX6 81 yX6_readEnd) := ⟨List.mem_of_getElem? (i := 454) (by decide +kernel), by decide +kernel⟩
theorem tw_455 : tb_in (.instanceMethod yX6_readEnd) := ⟨List.mem_of_getElem? (i := 455) (by decide +kernel), by decide +kernel⟩
theorem tw_456 : tb_in (.selects RX6 yX6_readEnd yX6_readEnd) := ⟨List.mem_of_getElem? (i := 456) (by decide +kernel), by decide +kernel⟩
theorem tw_458 : tb_in (.methodLink RX6 84 yX5_add) := ⟨List.mem_of_getElem? (i := 458) (by decide +kernel), by decide +kernel⟩
theorem tw_459 : tb_in (.instanceMethod yX5_add) := ⟨List.mem_of_getElem? (i := 459) (by decide +kernel), by decide +kernel⟩
theorem tw_460 : tb_in (.selects RX5 yX5_add yX5_add) := ⟨List.mem_of_getElem? (i := 460) (by decide +kernel), by decide +kernel⟩
theorem tw_462 : tb_in (.methodLink RX5 62 yX5_isFull) := ⟨List.mem_of_getElem? (i := 462) (by decide +kernel), by decide +kernel⟩
theorem tw_463 : tb_in (.methodLink RX5 65 yX5_join) := ⟨List.mem_of_getElem? (i := 463) (by decide +kernel), by decide +kernel⟩
theorem tw_464 : tb_in (.instanceMethod yX5_join) := ⟨List.mem_of_getElem? (i := 464) (by decide +kernel), by decide +kernel⟩
theorem tw_465 : tb_in (.selects RX5 yX5_join yX5_join) := ⟨List.mem_of_getElem? (i := 465) (by decide +kernel), by decide +kernel⟩
theorem tw_467 : tb_in (.methodLink RX9 91 yX5_become) := ⟨List.mem_of_getElem? (i := 467) (by decide +kernel), by decide +kernel⟩
theorem tw_468 : tb_in (.instanceMethod yX5_become) := ⟨List.mem_of_getElem? (i := 468) (by decide +kernel), by decide +kernel⟩
theorem tw_469 : tb_in (.selects RX5 yX5_become yX5_become) := ⟨List.mem_of_getElem? (i := 469) (by decide +kernel), by decide +kernel⟩
theorem tw_471 : tb_in (.methodLink RX5 52 arraycopyName) := ⟨List.mem_of_getElem? (i := 471) (by decide +kernel), by decide +kernel⟩
theorem tw_472 : tb_in (.static arraycopyName) := ⟨List.mem_of_getElem? (i := 472) (by decide +kernel), by decide +kernel⟩
theorem tw_473 : tb_in (.native arraycopyName) := ⟨List.mem_of_getElem? (i := 473) (by decide +kernel), by decide +kernel⟩
theorem tw_474 : tb_in (.methodLink RX9 95 yX8_open) := ⟨List.mem_of_getElem? (i := 474) (by decide +kernel), by decide +kernel⟩
theorem tw_475 : tb_in (.instanceMethod yX8_open) := ⟨List.mem_of_getElem? (i := 475) (by decide +kernel), by decide +kernel⟩
theorem tw_476 : tb_in (.selects RX8 yX8_open yX8_open) := ⟨List.mem_of_getElem? (i := 476) (by decide +kernel), by decide +kernel⟩
theorem tw_478 : tb_in (.methodLink RX9 98 yX4_forget) := ⟨List.mem_of_getElem? (i := 478) (by decide +kernel), by decide +kernel⟩
theorem tw_479 : tb_in (.instanceMethod yX4_forget) := ⟨List.mem_of_getElem? (i := 479) (by decide +kernel), by decide +kernel⟩
theorem tw_480 : tb_in (.selects RX4 yX4_forget yX4_forget) := ⟨List.mem_of_getElem? (i := 480) (by decide +kernel), by decide +kernel⟩
theorem tw_482 : tb_in (.methodLink RX9 101 yX3_clear) := ⟨List.mem_of_getElem? (i := 482) (by decide +kernel), by decide +kernel⟩
theorem tw_483 : tb_in (.instanceMethod yX3_clear) := ⟨List.mem_of_getElem? (i := 483) (by decide +kernel), by decide +kernel⟩
theorem tw_484 : tb_in (.selects RX3 yX3_clear yX3_clear) := ⟨List.mem_of_getElem? (i := 484) (by decide +kernel), by decide +kernel⟩
theorem tw_486 : tb_in (.methodLink RL 23 yX9_fault) := ⟨List.mem_of_getElem? (i := 486) (by decide +kernel), by decide +kernel⟩
theorem tw_487 : tb_in (.instanceMethod yX9_fault) := ⟨List.mem_of_getElem? (i := 487) (by decide +kernel), by decide +kernel⟩
theorem tw_488 : tb_in (.selects RX9 yX9_fault yX9_fault) := ⟨List.mem_of_getElem? (i := 488) (by decide +kernel), by decide +kernel⟩
theorem tw_490 : tb_in (.methodLink RL 27 yX9_told) := ⟨List.mem_of_getElem? (i := 490) (by decide +kernel), by decide +kernel⟩
theorem tw_491 : tb_in (.instanceMethod yX9_told) := ⟨List.mem_of_getElem? (i := 491) (by decide +kernel), by decide +kernel⟩
theorem tw_492 : tb_in (.selects RX9 yX9_told yX9_told) := ⟨List.mem_of_getElem? (i := 492) (by decide +kernel), by decide +kernel⟩
theorem tw_494 : tb_in (.methodLink RX9 132 yX8_thingsAt) := ⟨List.mem_of_getElem? (i := 494) (by decide +kernel), by decide +kernel⟩
theorem tw_495 : tb_in (.instanceMethod yX8_thingsAt) := ⟨List.mem_of_getElem? (i := 495) (by decide +kernel), by decide +kernel⟩
theorem tw_496 : tb_in (.selects RX8 yX8_thingsAt yX8_thingsAt) := ⟨List.mem_of_getElem? (i := 496) (by decide +kernel), by decide +kernel⟩
theorem tw_498 : tb_in (.methodLink RX9 136 yX5_worthOf) := ⟨List.mem_of_getElem? (i := 498) (by decide +kernel), by decide +kernel⟩
theorem tw_499 : tb_in (.instanceMethod yX5_worthOf) := ⟨List.mem_of_getElem? (i := 499) (by decide +kernel), by decide +kernel⟩
theorem tw_500 : tb_in (.selects RX5 yX5_worthOf yX5_worthOf) := ⟨List.mem_of_getElem? (i := 500) (by decide +kernel), by decide +kernel⟩
theorem tw_502 : tb_in (.methodLink RX5 87 yX5_sumOf) := ⟨List.mem_of_getElem? (i := 502) (by decide +kernel), by decide +kernel⟩
theorem tw_503 : tb_in (.static yX5_sumOf) := ⟨List.mem_of_getElem? (i := 503) (by decide +kernel), by decide +kernel⟩
theorem tw_506 : tb_in (.methodLink RL 31 yX9_room) := ⟨List.mem_of_getElem? (i := 506) (by decide +kernel), by decide +kernel⟩
theorem tw_507 : tb_in (.instanceMethod yX9_room) := ⟨List.mem_of_getElem? (i := 507) (by decide +kernel), by decide +kernel⟩
theorem tw_508 : tb_in (.selects RX9 yX9_room yX9_room) := ⟨List.mem_of_getElem? (i := 508) (by decide +kernel), by decide +kernel⟩
theorem tw_510 : tb_in (.methodLink RX9 147 yX5_hasRoom) := ⟨List.mem_of_getElem? (i := 510) (by decide +kernel), by decide +kernel⟩
theorem tw_511 : tb_in (.methodLink RX9 150 yX5_joinedTo) := ⟨List.mem_of_getElem? (i := 511) (by decide +kernel), by decide +kernel⟩
theorem tw_512 : tb_in (.constant RX9 153 (-1000000001)) := ⟨List.mem_of_getElem? (i := 512) (by decide +kernel), by decide +kernel⟩
theorem tw_513 : tb_in (.methodLink RL 35 yX9_waiter) := ⟨List.mem_of_getElem? (i := 513) (by decide +kernel), by decide +kernel⟩
theorem tw_514 : tb_in (.instanceMethod yX9_waiter) := ⟨List.mem_of_getElem? (i := 514) (by decide +kernel), by decide +kernel⟩
theorem tw_515 : tb_in (.selects RX9 yX9_waiter yX9_waiter) := ⟨List.mem_of_getElem? (i := 515) (by decide +kernel), by decide +kernel⟩
theorem tw_517 : tb_in (.methodLink RX9 154 yX5_hasWaiter) := ⟨List.mem_of_getElem? (i := 517) (by decide +kernel), by decide +kernel⟩
theorem tw_518 : tb_in (.instanceMethod yX5_hasWaiter) := ⟨List.mem_of_getElem? (i := 518) (by decide +kernel), by decide +kernel⟩
theorem tw_519 : tb_in (.selects RX5 yX5_hasWaiter yX5_hasWaiter) := ⟨List.mem_of_getElem? (i := 519) (by decide +kernel), by decide +kernel⟩
theorem tw_521 : tb_in (.methodLink RX9 157 yX8_roomOf) := ⟨List.mem_of_getElem? (i := 521) (by decide +kernel), by decide +kernel⟩
theorem tw_522 : tb_in (.instanceMethod yX8_roomOf) := ⟨List.mem_of_getElem? (i := 522) (by decide +kernel), by decide +kernel⟩
theorem tw_523 : tb_in (.selects RX8 yX8_roomOf yX8_roomOf) := ⟨List.mem_of_getElem? (i := 523) (by decide +kernel), by decide +kernel⟩
theorem tw_525 : tb_in (.methodLink RX8 45 yX8_isSeat) := ⟨List.mem_of_getElem? (i := 525) (by decide +kernel), by decide +kernel⟩
theorem tw_526 : tb_in (.static yX8_isSeat) := ⟨List.mem_of_getElem? (i := 526) (by decide +kernel), by decide +kernel⟩
theorem tw_528 : tb_in (.methodLink RX9 164 yX9_sideOf) := ⟨List.mem_of_getElem? (i := 528) (by decide +kernel), by decide +kernel⟩
theorem tw_529 : tb_in (.static yX9_sideOf) := ⟨List.mem_of_getElem? (i := 529) (by decide +kernel), by decide +kernel⟩
theorem tw_531 : tb_in (.methodLink RX9 168 yX8_thingsOf) := ⟨List.mem_of_getElem? (i := 531) (by decide +kernel), by decide +kernel⟩
theorem tw_532 : tb_in (.instanceMethod yX8_thingsOf) := ⟨List.mem_of_getElem? (i := 532) (by decide +kernel), by decide +kernel⟩
theorem tw_533 : tb_in (.selects RX8 yX8_thingsOf yX8_thingsOf) := ⟨List.mem_of_getElem? (i := 533) (by decide +kernel), by decide +kernel⟩
theorem tw_536 : tb_in (.methodLink RX8 57 yX8_thingsAt) := ⟨List.mem_of_getElem? (i := 536) (by decide +kernel), by decide +kernel⟩
theorem tw_537 : tb_in (.methodLink RX9 171 yX5_weightOf) := ⟨List.mem_of_getElem? (i := 537) (by decide +kernel), by decide +kernel⟩
theorem tw_538 : tb_in (.instanceMethod yX5_weightOf) := ⟨List.mem_of_getElem? (i := 538) (by decide +kernel), by decide +kernel⟩
theorem tw_539 : tb_in (.selects RX5 yX5_weightOf yX5_weightOf) := ⟨List.mem_of_getElem? (i := 539) (by decide +kernel), by decide +kernel⟩
theorem tw_541 : tb_in (.methodLink RX9 174 yX0_slant) := ⟨List.mem_of_getElem? (i := 541) (by decide +kernel), by decide +kernel⟩
theorem tw_542 : tb_in (.instanceMethod yX0_slant) := ⟨List.mem_of_getElem? (i := 542) (by decide +kernel), by decide +kernel⟩
theorem tw_543 : tb_in (.selects RX0 yX0_slant yX0_slant) := ⟨List.mem_of_getElem? (i := 543) (by decide +kernel), by decide +kernel⟩
theorem tw_545 : tb_in (.methodLink RX0 23 yX8_thingsOf) := ⟨List.mem_of_getElem? (i := 545) (by decide +kernel), by decide +kernel⟩
theorem tw_547 : tb_in (.methodLink RX0 33 yX8_thingsAt) := ⟨List.mem_of_getElem? (i := 547) (by decide +kernel), by decide +kernel⟩
theorem tw_548 : tb_in (.methodLink RX0 36 yX5_difference) := ⟨List.mem_of_getElem? (i := 548) (by decide +kernel), by decide +kernel⟩
theorem tw_549 : tb_in (.instanceMethod yX5_difference) := ⟨List.mem_of_getElem? (i := 549) (by decide +kernel), by decide +kernel⟩
theorem tw_550 : tb_in (.selects RX5 yX5_difference yX5_difference) := ⟨List.mem_of_getElem? (i := 550) (by decide +kernel), by decide +kernel⟩
theorem tw_552 : tb_in (.methodLink RX5 91 yX5_weightOf) := ⟨List.mem_of_getElem? (i := 552) (by decide +kernel), by decide +kernel⟩
theorem tw_553 : tb_in (.methodLink RX5 94 Lib.Math.abs.name) := ⟨List.mem_of_getElem? (i := 553) (by decide +kernel), by decide +kernel⟩
theorem tw_554 : tb_in (.static Lib.Math.abs.name) := ⟨List.mem_of_getElem? (i := 554) (by decide +kernel), by decide +kernel⟩
theorem tw_556 : tb_in (.methodLink RX9 177 yX8_routeOf) := ⟨List.mem_of_getElem? (i := 556) (by decide +kernel), by decide +kernel⟩
theorem tw_557 : tb_in (.instanceMethod yX8_routeOf) := ⟨List.mem_of_getElem? (i := 557) (by decide +kernel), by decide +kernel⟩
theorem tw_558 : tb_in (.selects RX8 yX8_routeOf yX8_routeOf) := ⟨List.mem_of_getElem? (i := 558) (by decide +kernel), by decide +kernel⟩
theorem tw_560 : tb_in (.methodLink RX9 180 yX9_stepsOf) := ⟨List.mem_of_getElem? (i := 560) (by decide +kernel), by decide +kernel⟩
theorem tw_561 : tb_in (.static yX9_stepsOf) := ⟨List.mem_of_getElem? (i := 561) (by decide +kernel), by decide +kernel⟩
theorem tw_563 : tb_in (.methodLink RX9 183 yX8_treatiesOf) := ⟨List.mem_of_getElem? (i := 563) (by decide +kernel), by decide +kernel⟩
theorem tw_564 : tb_in (.instanceMethod yX8_treatiesOf) := ⟨List.mem_of_getElem? (i := 564) (by decide +kernel), by decide +kernel⟩
theorem tw_565 : tb_in (.selects RX8 yX8_treatiesOf yX8_treatiesOf) := ⟨List.mem_of_getElem? (i := 565) (by decide +kernel), by decide +kernel⟩
theorem tw_567 : tb_in (.methodLink RL 40 yX9_thing) := ⟨List.mem_of_getElem? (i := 567) (by decide +kernel), by decide +kernel⟩
theorem tw_568 : tb_in (.instanceMethod yX9_thing) := ⟨List.mem_of_getElem? (i := 568) (by decide +kernel), by decide +kernel⟩
theorem tw_569 : tb_in (.selects RX9 yX9_thing yX9_thing) := ⟨List.mem_of_getElem? (i := 569) (by decide +kernel), by decide +kernel⟩
theorem tw_571 : tb_in (.methodLink RX9 186 yX5_hasThing) := ⟨List.mem_of_getElem? (i := 571) (by decide +kernel), by decide +kernel⟩
theorem tw_572 : tb_in (.instanceMethod yX5_hasThing) := ⟨List.mem_of_getElem? (i := 572) (by decide +kernel), by decide +kernel⟩
theorem tw_573 : tb_in (.selects RX5 yX5_hasThing yX5_hasThing) := ⟨List.mem_of_getElem? (i := 573) (by decide +kernel), by decide +kernel⟩
theorem tw_575 : tb_in (.methodLink RX9 195 yX8_bearerOf) := ⟨List.mem_of_getElem? (i := 575) (by decide +kernel), by decide +kernel⟩
theorem tw_576 : tb_in (.instanceMethod yX8_bearerOf) := ⟨List.mem_of_getElem? (i := 576) (by decide +kernel), by decide +kernel⟩
theorem tw_577 : tb_in (.selects RX8 yX8_bearerOf yX8_bearerOf) := ⟨List.mem_of_getElem? (i := 577) (by decide +kernel), by decide +kernel⟩
theorem tw_579 : tb_in (.methodLink RX8 49 yX8_placeOf) := ⟨List.mem_of_getElem? (i := 579) (by decide +kernel), by decide +kernel⟩
theorem tw_580 : tb_in (.instanceMethod yX8_placeOf) := ⟨List.mem_of_getElem? (i := 580) (by decide +kernel), by decide +kernel⟩
theorem tw_581 : tb_in (.selects RX8 yX8_placeOf yX8_placeOf) := ⟨List.mem_of_getElem? (i := 581) (by decide +kernel), by decide +kernel⟩
theorem tw_583 : tb_in (.methodLink RL 44 yX9_minute) := ⟨List.mem_of_getElem? (i := 583) (by decide +kernel), by decide +kernel⟩
theorem tw_584 : tb_in (.instanceMethod yX9_minute) := ⟨List.mem_of_getElem? (i := 584) (by decide +kernel), by decide +kernel⟩
theorem tw_585 : tb_in (.selects RX9 yX9_minute yX9_minute) := ⟨List.mem_of_getElem? (i := 585) (by decide +kernel), by decide +kernel⟩
theorem tw_587 : tb_in (.methodLink RX9 198 yX9_refusalOfMinutes) := ⟨List.mem_of_getElem? (i := 587) (by decide +kernel), by decide +kernel⟩
theorem tw_589 : tb_in (.instanceMethod yX9_refusalOfMinutes) := ⟨List.mem_of_getElem? (i := 589) (by decide +kernel), by decide +kernel⟩
theorem tw_591 : tb_in (.constant RX9 219 (-1000000003)) := ⟨List.mem_of_getElem? (i := 591) (by decide +kernel), by decide +kernel⟩
theorem tw_592 : tb_in (.methodLink RX9 201 yX4_remember) := ⟨List.mem_of_getElem? (i := 592) (by decide +kernel), by decide +kernel⟩
theorem tw_593 : tb_in (.instanceMethod yX4_remember) := ⟨List.mem_of_getElem? (i := 593) (by decide +kernel), by decide +kernel⟩
theorem tw_594 : tb_in (.selects RX4 yX4_remember yX4_remember) := ⟨List.mem_of_getElem? (i := 594) (by decide +kernel), by decide +kernel⟩
theorem tw_596 : tb_in (.methodLink RX4 25 yX8_become) := ⟨List.mem_of_getElem? (i := 596) (by decide +kernel), by decide +kernel⟩
theorem tw_597 : tb_in (.instanceMethod yX8_become) := ⟨List.mem_of_getElem? (i := 597) (by decide +kernel), by decide +kernel⟩
theorem tw_598 : tb_in (.selects RX8 yX8_become yX8_become) := ⟨List.mem_of_getElem? (i := 598) (by decide +kernel), by decide +kernel⟩
theorem tw_600 : tb_in (.methodLink RX8 31 arraycopyName) := ⟨List.mem_of_getElem? (i := 600) (by decide +kernel), by decide +kernel⟩
theorem tw_601 : tb_in (.methodLink RX4 29 Lib.Math.min.name) := ⟨List.mem_of_getElem? (i := 601) (by decide +kernel), by decide +kernel⟩
theorem tw_602 : tb_in (.static Lib.Math.min.name) := ⟨List.mem_of_getElem? (i := 602) (by decide +kernel), by decide +kernel⟩
theorem tw_604 : tb_in (.methodLink RX9 205 yX0_tick) := ⟨List.mem_of_getElem? (i := 604) (by decide +kernel), by decide +kernel⟩
theorem tw_605 : tb_in (.instanceMethod yX0_tick) := ⟨List.mem_of_getElem? (i := 605) (by decide +kernel), by decide +kernel⟩
theorem tw_606 : tb_in (.selects RX0 yX0_tick yX0_tick) := ⟨List.mem_of_getElem? (i := 606) (by decide +kernel), by decide +kernel⟩
theorem tw_608 : tb_in (.methodLink RX0 44 yX8_step) := ⟨List.mem_of_getElem? (i := 608) (by decide +kernel), by decide +kernel⟩
theorem tw_609 : tb_in (.instanceMethod yX8_step) := ⟨List.mem_of_getElem? (i := 609) (by decide +kernel), by decide +kernel⟩
theorem tw_610 : tb_in (.selects RX8 yX8_step yX8_step) := ⟨List.mem_of_getElem? (i := 610) (by decide +kernel), by decide +kernel⟩
theorem tw_612 : tb_in (.methodLink RX0 48 yX0_countMeetings) := ⟨List.mem_of_getElem? (i := 612) (by decide +kernel), by decide +kernel⟩
theorem tw_613 : tb_in (.instanceMethod yX0_countMeetings) := ⟨List.mem_of_getElem? (i := 613) (by decide +kernel), by decide +kernel⟩
theorem tw_614 : tb_in (.selects RX0 yX0_countMeetings yX0_countMeetings) := ⟨List.mem_of_getElem? (i := 614) (by decide +kernel), by decide +kernel⟩
theorem tw_616 : tb_in (.methodLink RX0 76 yX0_haveMet) := ⟨List.mem_of_getElem? (i := 616) (by decide +kernel), by decide +kernel⟩
theorem tw_617 : tb_in (.instanceMethod yX0_haveMet) := ⟨List.mem_of_getElem? (i := 617) (by decide +kernel), by decide +kernel⟩
theorem tw_618 : tb_in (.selects RX0 yX0_haveMet yX0_haveMet) := ⟨List.mem_of_getElem? (i := 618) (by decide +kernel), by decide +kernel⟩
theorem tw_620 : tb_in (.methodLink RX0 85 yX5_hasTwoWaiters) := ⟨List.mem_of_getElem? (i := 620) (by decide +kernel), by decide +kernel⟩
theorem tw_621 : tb_in (.instanceMethod yX5_hasTwoWaiters) := ⟨List.mem_of_getElem? (i := 621) (by decide +kernel), by decide +kernel⟩
theorem tw_622 : tb_in (.selects RX5 yX5_hasTwoWaiters yX5_hasTwoWaiters) := ⟨List.mem_of_getElem? (i := 622) (by decide +kernel), by decide +kernel⟩
theorem tw_624 : tb_in (.methodLink RX5 58 yX5_hasWaiter) := ⟨List.mem_of_getElem? (i := 624) (by decide +kernel), by decide +kernel⟩
theorem tw_625 : tb_in (.methodLink RX0 88 yX0_meetBetween) := ⟨List.mem_of_getElem? (i := 625) (by decide +kernel), by decide +kernel⟩
theorem tw_626 : tb_in (.static yX0_meetBetween) := ⟨List.mem_of_getElem? (i := 626) (by decide +kernel), by decide +kernel⟩
theorem tw_628 : tb_in (.methodLink RX0 82 yX8_treatiesOf) := ⟨List.mem_of_getElem? (i := 628) (by decide +kernel), by decide +kernel⟩
theorem tw_630 : tb_in (.methodLink RX0 60 yX0_slant) := ⟨List.mem_of_getElem? (i := 630) (by decide +kernel), by decide +kernel⟩
theorem tw_631 : tb_in (.methodLink RX0 66 yX5_heaviestOf) := ⟨List.mem_of_getElem? (i := 631) (by decide +kernel), by decide +kernel⟩
theorem tw_632 : tb_in (.instanceMethod yX5_heaviestOf) := ⟨List.mem_of_getElem? (i := 632) (by decide +kernel), by decide +kernel⟩
theorem tw_633 : tb_in (.selects RX5 yX5_heaviestOf yX5_heaviestOf) := ⟨List.mem_of_getElem? (i := 633) (by decide +kernel), by decide +kernel⟩
theorem tw_635 : tb_in (.methodLink RX0 69 yX8_put) := ⟨List.mem_of_getElem? (i := 635) (by decide +kernel), by decide +kernel⟩
theorem tw_636 : tb_in (.instanceMethod yX8_put) := ⟨List.mem_of_getElem? (i := 636) (by decide +kernel), by decide +kernel⟩
theorem tw_637 : tb_in (.selects RX8 yX8_put yX8_put) := ⟨List.mem_of_getElem? (i := 637) (by decide +kernel), by decide +kernel⟩
theorem tw_639 : tb_in (.methodLink RL 48 yX9_route) := ⟨List.mem_of_getElem? (i := 639) (by decide +kernel), by decide +kernel⟩
theorem tw_640 : tb_in (.instanceMethod yX9_route) := ⟨List.mem_of_getElem? (i := 640) (by decide +kernel), by decide +kernel⟩
theorem tw_641 : tb_in (.selects RX9 yX9_route yX9_route) := ⟨List.mem_of_getElem? (i := 641) (by decide +kernel), by decide +kernel⟩
theorem tw_643 : tb_in (.constant RX9 208 (999999999)) := ⟨List.mem_of_getElem? (i := 643) (by decide +kernel), by decide +kernel⟩
theorem tw_644 : tb_in (.methodLink RX9 209 yX5_hasAllRooms) := ⟨List.mem_of_getElem? (i := 644) (by decide +kernel), by decide +kernel⟩
theorem tw_645 : tb_in (.instanceMethod yX5_hasAllRooms) := ⟨List.mem_of_getElem? (i := 645) (by decide +kernel), by decide +kernel⟩
theorem tw_646 : tb_in (.selects RX5 yX5_hasAllRooms yX5_hasAllRooms) := ⟨List.mem_of_getElem? (i := 646) (by decide +kernel), by decide +kernel⟩
theorem tw_648 : tb_in (.methodLink RX9 212 yX9_turnedRound) := ⟨List.mem_of_getElem? (i := 648) (by decide +kernel), by decide +kernel⟩
theorem tw_649 : tb_in (.static yX9_turnedRound) := ⟨List.mem_of_getElem? (i := 649) (by decide +kernel), by decide +kernel⟩
theorem tw_651 : tb_in (.methodLink RX9 215 yX5_canBeGone) := ⟨List.mem_of_getElem? (i := 651) (by decide +kernel), by decide +kernel⟩
theorem tw_652 : tb_in (.instanceMethod yX5_canBeGone) := ⟨List.mem_of_getElem? (i := 652) (by decide +kernel), by decide +kernel⟩
theorem tw_653 : tb_in (.selects RX5 yX5_canBeGone yX5_canBeGone) := ⟨List.mem_of_getElem? (i := 653) (by decide +kernel), by decide +kernel⟩
theorem tw_655 : tb_in (.methodLink RX5 76 yX5_joinedTo) := ⟨List.mem_of_getElem? (i := 655) (by decide +kernel), by decide +kernel⟩
theorem tw_656 : tb_in (.methodLink RX9 220 yX8_setRoute) := ⟨List.mem_of_getElem? (i := 656) (by decide +kernel), by decide +kernel⟩
theorem tw_657 : tb_in (.instanceMethod yX8_setRoute) := ⟨List.mem_of_getElem? (i := 657) (by decide +kernel), by decide +kernel⟩
theorem tw_658 : tb_in (.selects RX8 yX8_setRoute yX8_setRoute) := ⟨List.mem_of_getElem? (i := 658) (by decide +kernel), by decide +kernel⟩
theorem tw_660 : tb_in (.methodLink RL 52 yX9_lay) := ⟨List.mem_of_getElem? (i := 660) (by decide +kernel), by decide +kernel⟩
theorem tw_661 : tb_in (.instanceMethod yX9_lay) := ⟨List.mem_of_getElem? (i := 661) (by decide +kernel), by decide +kernel⟩
theorem tw_662 : tb_in (.selects RX9 yX9_lay yX9_lay) := ⟨List.mem_of_getElem? (i := 662) (by decide +kernel), by decide +kernel⟩
theorem tw_664 : tb_in (.methodLink RX9 224 yX8_isAtHand) := ⟨List.mem_of_getElem? (i := 664) (by decide +kernel), by decide +kernel⟩
theorem tw_665 : tb_in (.instanceMethod yX8_isAtHand) := ⟨List.mem_of_getElem? (i := 665) (by decide +kernel), by decide +kernel⟩
theorem tw_666 : tb_in (.selects RX8 yX8_isAtHand yX8_isAtHand) := ⟨List.mem_of_getElem? (i := 666) (by decide +kernel), by decide +kernel⟩
theorem tw_668 : tb_in (.methodLink RX8 60 yX8_bearerOf) := ⟨List.mem_of_getElem? (i := 668) (by decide +kernel), by decide +kernel⟩
theorem tw_669 : tb_in (.methodLink RX8 63 yX8_roomOf) := ⟨List.mem_of_getElem? (i := 669) (by decide +kernel), by decide +kernel⟩
theorem tw_670 : tb_in (.methodLink RX9 227 yX8_put) := ⟨List.mem_of_getElem? (i := 670) (by decide +kernel), by decide +kernel⟩
theorem tw_671 : tb_in (.methodLink RL 57 yX9_takeOff) := ⟨List.mem_of_getElem? (i := 671) (by decide +kernel), by decide +kernel⟩
theorem tw_672 : tb_in (.instanceMethod yX9_takeOff) := ⟨List.mem_of_getElem? (i := 672) (by decide +kernel), by decide +kernel⟩
theorem tw_673 : tb_in (.selects RX9 yX9_takeOff yX9_takeOff) := ⟨List.mem_of_getElem? (i := 673) (by decide +kernel), by decide +kernel⟩
theorem tw_675 : tb_in (.methodLink RL 61 yX9_treaty) := ⟨List.mem_of_getElem? (i := 675) (by decide +kernel), by decide +kernel⟩
theorem tw_676 : tb_in (.instanceMethod yX9_treaty) := ⟨List.mem_of_getElem? (i := 676) (by decide +kernel), by decide +kernel⟩
theorem tw_677 : tb_in (.selects RX9 yX9_treaty yX9_treaty) := ⟨List.mem_of_getElem? (i := 677) (by decide +kernel), by decide +kernel⟩
theorem tw_679 : tb_in (.methodLink RX9 230 yX5_hasTwoWaiters) := ⟨List.mem_of_getElem? (i := 679) (by decide +kernel), by decide +kernel⟩
theorem tw_680 : tb_in (.methodLink RX9 233 yX9_has) := ⟨List.mem_of_getElem? (i := 680) (by decide +kernel), by decide +kernel⟩
theorem tw_681 : tb_in (.methodLink RX9 236 yX8_setTreaty) := ⟨List.mem_of_getElem? (i := 681) (by decide +kernel), by decide +kernel⟩
theorem tw_682 : tb_in (.instanceMethod yX8_setTreaty) := ⟨List.mem_of_getElem? (i := 682) (by decide +kernel), by decide +kernel⟩
theorem tw_683 : tb_in (.selects RX8 yX8_setTreaty yX8_setTreaty) := ⟨List.mem_of_getElem? (i := 683) (by decide +kernel), by decide +kernel⟩
theorem tw_685 : tb_in (.methodLink RL 66 yX9_drift) := ⟨List.mem_of_getElem? (i := 685) (by decide +kernel), by decide +kernel⟩
theorem tw_686 : tb_in (.instanceMethod yX9_drift) := ⟨List.mem_of_getElem? (i := 686) (by decide +kernel), by decide +kernel⟩
theorem tw_687 : tb_in (.selects RX9 yX9_drift yX9_drift) := ⟨List.mem_of_getElem? (i := 687) (by decide +kernel), by decide +kernel⟩
theorem tw_689 : tb_in (.methodLink RX9 240 yX0_drawRoute) := ⟨List.mem_of_getElem? (i := 689) (by decide +kernel), by decide +kernel⟩
theorem tw_690 : tb_in (.instanceMethod yX0_drawRoute) := ⟨List.mem_of_getElem? (i := 690) (by decide +kernel), by decide +kernel⟩
theorem tw_691 : tb_in (.selects RX0 yX0_drawRoute yX0_drawRoute) := ⟨List.mem_of_getElem? (i := 691) (by decide +kernel), by decide +kernel⟩
theorem tw_693 : tb_in (.methodLink RX0 92 yX0_draw) := ⟨List.mem_of_getElem? (i := 693) (by decide +kernel), by decide +kernel⟩
theorem tw_694 : tb_in (.instanceMethod yX0_draw) := ⟨List.mem_of_getElem? (i := 694) (by decide +kernel), by decide +kernel⟩
theorem tw_695 : tb_in (.selects RX0 yX0_draw yX0_draw) := ⟨List.mem_of_getElem? (i := 695) (by decide +kernel), by decide +kernel⟩
theorem tw_697 : tb_in (.constantLong RX0 118 (1103515245)) := ⟨List.mem_of_getElem? (i := 697) (by decide +kernel), by decide +kernel⟩
theorem tw_698 : tb_in (.constantLong RX0 120 (12345)) := ⟨List.mem_of_getElem? (i := 698) (by decide +kernel), by decide +kernel⟩
theorem tw_699 : tb_in (.constantLong RX0 122 (2147483648)) := ⟨List.mem_of_getElem? (i := 699) (by decide +kernel), by decide +kernel⟩
theorem tw_700 : tb_in (.constant RX0 124 (65536)) := ⟨List.mem_of_getElem? (i := 700) (by decide +kernel), by decide +kernel⟩
theorem tw_701 : tb_in (.methodLink RX0 95 yX8_roomOf) := ⟨List.mem_of_getElem? (i := 701) (by decide +kernel), by decide +kernel⟩
theorem tw_702 : tb_in (.methodLink RX0 98 yX5_joinedTo) := ⟨List.mem_of_getElem? (i := 702) (by decide +kernel), by decide +kernel⟩
theorem tw_703 : tb_in (.methodLink RX0 101 yX8_routeOf) := ⟨List.mem_of_getElem? (i := 703) (by decide +kernel), by decide +kernel⟩
theorem tw_704 : tb_in (.methodLink RX0 104 yJ6_bitCount_0f7a4) := ⟨List.mem_of_getElem? (i := 704) (by decide +kernel), by decide +kernel⟩
theorem tw_705 : tb_in (.static yJ6_bitCount_0f7a4) := ⟨List.mem_of_getElem? (i := 705) (by decide +kernel), by decide +kernel⟩
theorem tw_707 : tb_in (.constant RJ6 265 (1431655765)) := ⟨List.mem_of_getElem? (i := 707) (by decide +kernel), by decide +kernel⟩
theorem tw_708 : tb_in (.constant RJ6 266 (858993459)) := ⟨List.mem_of_getElem? (i := 708) (by decide +kernel), by decide +kernel⟩
theorem tw_709 : tb_in (.constant RJ6 267 (252645135)) := ⟨List.mem_of_getElem? (i := 709) (by decide +kernel), by decide +kernel⟩
theorem tw_710 : tb_in (.methodLink RX0 109 yX0_memberOf) := ⟨List.mem_of_getElem? (i := 710) (by decide +kernel), by decide +kernel⟩
theorem tw_711 : tb_in (.static yX0_memberOf) := ⟨List.mem_of_getElem? (i := 711) (by decide +kernel), by decide +kernel⟩
theorem tw_713 : tb_in (.methodLink RX0 112 yX8_setRoute) := ⟨List.mem_of_getElem? (i := 713) (by decide +kernel), by decide +kernel⟩
theorem tw_714 : tb_in (.methodLink RL 70 yX9_undo) := ⟨List.mem_of_getElem? (i := 714) (by decide +kernel), by decide +kernel⟩
theorem tw_715 : tb_in (.instanceMethod yX9_undo) := ⟨List.mem_of_getElem? (i := 715) (by decide +kernel), by decide +kernel⟩
theorem tw_716 : tb_in (.selects RX9 yX9_undo yX9_undo) := ⟨List.mem_of_getElem? (i := 716) (by decide +kernel), by decide +kernel⟩
theorem tw_718 : tb_in (.methodLink RX9 243 yX4_bringBack) := ⟨List.mem_of_getElem? (i := 718) (by decide +kernel), by decide +kernel⟩
theorem tw_719 : tb_in (.instanceMethod yX4_bringBack) := ⟨List.mem_of_getElem? (i := 719) (by decide +kernel), by decide +kernel⟩
theorem tw_720 : tb_in (.selects RX4 yX4_bringBack yX4_bringBack) := ⟨List.mem_of_getElem? (i := 720) (by decide +kernel), by decide +kernel⟩
theorem tw_722 : tb_in (.methodLink RL 74 yX9_where) := ⟨List.mem_of_getElem? (i := 722) (by decide +kernel), by decide +kernel⟩
theorem tw_723 : tb_in (.instanceMethod yX9_where) := ⟨List.mem_of_getElem? (i := 723) (by decide +kernel), by decide +kernel⟩
theorem tw_724 : tb_in (.selects RX9 yX9_where yX9_where) := ⟨List.mem_of_getElem? (i := 724) (by decide +kernel), by decide +kernel⟩
theorem tw_726 : tb_in (.methodLink RX9 247 yX9_isForeseen) := ⟨List.mem_of_getElem? (i := 726) (by decide +kernel), by decide +kernel⟩
theorem tw_727 : tb_in (.static yX9_isForeseen) := ⟨List.mem_of_getElem? (i := 727) (by decide +kernel), by decide +kernel⟩
theorem tw_729 : tb_in (.methodLink RX9 250 yX8_roomAfter) := ⟨List.mem_of_getElem? (i := 729) (by decide +kernel), by decide +kernel⟩
theorem tw_730 : tb_in (.instanceMethod yX8_roomAfter) := ⟨List.mem_of_getElem? (i := 730) (by decide +kernel), by decide +kernel⟩
theorem tw_731 : tb_in (.selects RX8 yX8_roomAfter yX8_roomAfter) := ⟨List.mem_of_getElem? (i := 731) (by decide +kernel), by decide +kernel⟩
theorem tw_733 : tb_in (.methodLink RX8 66 yX8_routeOf) := ⟨List.mem_of_getElem? (i := 733) (by decide +kernel), by decide +kernel⟩
theorem tw_734 : tb_in (.methodLink RL 78 yX9_meets) := ⟨List.mem_of_getElem? (i := 734) (by decide +kernel), by decide +kernel⟩
theorem tw_735 : tb_in (.instanceMethod yX9_meets) := ⟨List.mem_of_getElem? (i := 735) (by decide +kernel), by decide +kernel⟩
theorem tw_736 : tb_in (.selects RX9 yX9_meets yX9_meets) := ⟨List.mem_of_getElem? (i := 736) (by decide +kernel), by decide +kernel⟩
theorem tw_738 : tb_in (.methodLink RX9 253 yX1_firstMeeting) := ⟨List.mem_of_getElem? (i := 738) (by decide +kernel), by decide +kernel⟩
theorem tw_739 : tb_in (.instanceMethod yX1_firstMeeting) := ⟨List.mem_of_getElem? (i := 739) (by decide +kernel), by decide +kernel⟩
theorem tw_740 : tb_in (.selects RX1 yX1_firstMeeting yX1_firstMeeting) := ⟨List.mem_of_getElem? (i := 740) (by decide +kernel), by decide +kernel⟩
theorem tw_742 : tb_in (.methodLink RX1 35 yX1_layTracks) := ⟨List.mem_of_getElem? (i := 742) (by decide +kernel), by decide +kernel⟩
theorem tw_743 : tb_in (.instanceMethod yX1_layTracks) := ⟨List.mem_of_getElem? (i := 743) (by decide +kernel), by decide +kernel⟩
theorem tw_744 : tb_in (.selects RX1 yX1_layTracks yX1_layTracks) := ⟨List.mem_of_getElem? (i := 744) (by decide +kernel), by decide +kernel⟩
theorem tw_746 : tb_in (.methodLink RX1 81 yX8_routeOf) := ⟨List.mem_of_getElem? (i := 746) (by decide +kernel), by decide +kernel⟩
theorem tw_748 : tb_in (.methodLink RX1 90 yX8_roomAfter) := ⟨List.mem_of_getElem? (i := 748) (by decide +kernel), by decide +kernel⟩
theorem tw_749 : tb_in (.methodLink RX1 38 yX1_meetingOf) := ⟨List.mem_of_getElem? (i := 749) (by decide +kernel), by decide +kernel⟩
theorem tw_750 : tb_in (.instanceMethod yX1_meetingOf) := ⟨List.mem_of_getElem? (i := 750) (by decide +kernel), by decide +kernel⟩
theorem tw_751 : tb_in (.selects RX1 yX1_meetingOf yX1_meetingOf) := ⟨List.mem_of_getElem? (i := 751) (by decide +kernel), by decide +kernel⟩
theorem tw_753 : tb_in (.methodLink RX1 98 yX1_trackAt) := ⟨List.mem_of_getElem? (i := 753) (by decide +kernel), by decide +kernel⟩
theorem tw_754 : tb_in (.instanceMethod yX1_trackAt) := ⟨List.mem_of_getElem? (i := 754) (by decide +kernel), by decide +kernel⟩
theorem tw_755 : tb_in (.selects RX1 yX1_trackAt yX1_trackAt) := ⟨List.mem_of_getElem? (i := 755) (by decide +kernel), by decide +kernel⟩
theorem tw_757 : tb_in (.methodLink RX1 46 yX5_hasWaiter) := ⟨List.mem_of_getElem? (i := 757) (by decide +kernel), by decide +kernel⟩
theorem tw_758 : tb_in (.methodLink RX1 93 Lib.Math.max.name) := ⟨List.mem_of_getElem? (i := 758) (by decide +kernel), by decide +kernel⟩
theorem tw_759 : tb_in (.static Lib.Math.max.name) := ⟨List.mem_of_getElem? (i := 759) (by decide +kernel), by decide +kernel⟩
theorem tw_761 : tb_in (.methodLink RX1 101 yX0_meetBetween) := ⟨List.mem_of_getElem? (i := 761) (by decide +kernel), by decide +kernel⟩
theorem tw_762 : tb_in (.methodLink RL 82 yX9_way) := ⟨List.mem_of_getElem? (i := 762) (by decide +kernel), by decide +kernel⟩
theorem tw_763 : tb_in (.instanceMethod yX9_way) := ⟨List.mem_of_getElem? (i := 763) (by decide +kernel), by decide +kernel⟩
theorem tw_764 : tb_in (.selects RX9 yX9_way yX9_way) := ⟨List.mem_of_getElem? (i := 764) (by decide +kernel), by decide +kernel⟩
theorem tw_766 : tb_in (.methodLink RX9 256 yX5_distance) := ⟨List.mem_of_getElem? (i := 766) (by decide +kernel), by decide +kernel⟩
theorem tw_767 : tb_in (.instanceMethod yX5_distance) := ⟨List.mem_of_getElem? (i := 767) (by decide +kernel), by decide +kernel⟩
theorem tw_768 : tb_in (.selects RX5 yX5_distance yX5_distance) := ⟨List.mem_of_getElem? (i := 768) (by decide +kernel), by decide +kernel⟩
theorem tw_770 : tb_in (.methodLink RX5 80 yX5_joinedToAny) := ⟨List.mem_of_getElem? (i := 770) (by decide +kernel), by decide +kernel⟩
theorem tw_771 : tb_in (.instanceMethod yX5_joinedToAny) := ⟨List.mem_of_getElem? (i := 771) (by decide +kernel), by decide +kernel⟩
theorem tw_772 : tb_in (.selects RX5 yX5_joinedToAny yX5_joinedToAny) := ⟨List.mem_of_getElem? (i := 772) (by decide +kernel), by decide +kernel⟩
theorem tw_774 : tb_in (.methodLink RX9 259 yX5_nextTowards) := ⟨List.mem_of_getElem? (i := 774) (by decide +kernel), by decide +kernel⟩
theorem tw_775 : tb_in (.instanceMethod yX5_nextTowards) := ⟨List.mem_of_getElem? (i := 775) (by decide +kernel), by decide +kernel⟩
theorem tw_776 : tb_in (.selects RX5 yX5_nextTowards yX5_nextTowards) := ⟨List.mem_of_getElem? (i := 776) (by decide +kernel), by decide +kernel⟩
theorem tw_778 : tb_in (.methodLink RX5 83 yX5_distance) := ⟨List.mem_of_getElem? (i := 778) (by decide +kernel), by decide +kernel⟩
theorem tw_779 : tb_in (.methodLink RL 86 yX9_delays) := ⟨List.mem_of_getElem? (i := 779) (by decide +kernel), by decide +kernel⟩
theorem tw_780 : tb_in (.instanceMethod yX9_delays) := ⟨List.mem_of_getElem? (i := 780) (by decide +kernel), by decide +kernel⟩
theorem tw_781 : tb_in (.selects RX9 yX9_delays yX9_delays) := ⟨List.mem_of_getElem? (i := 781) (by decide +kernel), by decide +kernel⟩
theorem tw_783 : tb_in (.methodLink RX9 262 yX1_seek) := ⟨List.mem_of_getElem? (i := 783) (by decide +kernel), by decide +kernel⟩
theorem tw_784 : tb_in (.instanceMethod yX1_seek) := ⟨List.mem_of_getElem? (i := 784) (by decide +kernel), by decide +kernel⟩
theorem tw_785 : tb_in (.selects RX1 yX1_seek yX1_seek) := ⟨List.mem_of_getElem? (i := 785) (by decide +kernel), by decide +kernel⟩
theorem tw_787 : tb_in (.methodLink RX1 53 yX1_markClashes) := ⟨List.mem_of_getElem? (i := 787) (by decide +kernel), by decide +kernel⟩
theorem tw_788 : tb_in (.instanceMethod yX1_markClashes) := ⟨List.mem_of_getElem? (i := 788) (by decide +kernel), by decide +kernel⟩
theorem tw_789 : tb_in (.selects RX1 yX1_markClashes yX1_markClashes) := ⟨List.mem_of_getElem? (i := 789) (by decide +kernel), by decide +kernel⟩
theorem tw_791 : tb_in (.methodLink RX1 107 yX1_setClashes) := ⟨List.mem_of_getElem? (i := 791) (by decide +kernel), by decide +kernel⟩
theorem tw_792 : tb_in (.instanceMethod yX1_setClashes) := ⟨List.mem_of_getElem? (i := 792) (by decide +kernel), by decide +kernel⟩
theorem tw_793 : tb_in (.selects RX1 yX1_setClashes yX1_setClashes) := ⟨List.mem_of_getElem? (i := 793) (by decide +kernel), by decide +kernel⟩
theorem tw_795 : tb_in (.methodLink RX1 111 yX5_hasTwoWaiters) := ⟨List.mem_of_getElem? (i := 795) (by decide +kernel), by decide +kernel⟩
theorem tw_797 : tb_in (.static yX9_power) := ⟨List.mem_of_getElem? (i := 797) (by decide +kernel), by decide +kernel⟩
theorem tw_800 : tb_in (.static yX9_spell) := ⟨List.mem_of_getElem? (i := 800) (by decide +kernel), by decide +kernel⟩
theorem tw_802 : tb_in (.methodLink RX9 316 Lib.Math.min.name) := ⟨List.mem_of_getElem? (i := 802) (by decide +kernel), by decide +kernel⟩
theorem tw_803 : tb_in (.methodLink RX1 67 yX1_endOfAll) := ⟨List.mem_of_getElem? (i := 803) (by decide +kernel), by decide +kernel⟩
theorem tw_804 : tb_in (.instanceMethod yX1_endOfAll) := ⟨List.mem_of_getElem? (i := 804) (by decide +kernel), by decide +kernel⟩
theorem tw_805 : tb_in (.selects RX1 yX1_endOfAll yX1_endOfAll) := ⟨List.mem_of_getElem? (i := 805) (by decide +kernel), by decide +kernel⟩
theorem tw_807 : tb_in (.methodLink RX1 71 yX1_haveClash) := ⟨List.mem_of_getElem? (i := 807) (by decide +kernel), by decide +kernel⟩
theorem tw_808 : tb_in (.instanceMethod yX1_haveClash) := ⟨List.mem_of_getElem? (i := 808) (by decide +kernel), by decide +kernel⟩
theorem tw_809 : tb_in (.selects RX1 yX1_haveClash yX1_haveClash) := ⟨List.mem_of_getElem? (i := 809) (by decide +kernel), by decide +kernel⟩
theorem tw_812 : tb_in (.methodLink RX1 75 arraycopyName) := ⟨List.mem_of_getElem? (i := 812) (by decide +kernel), by decide +kernel⟩
theorem tw_813 : tb_in (.methodLink RX9 265 yX1_answer) := ⟨List.mem_of_getElem? (i := 813) (by decide +kernel), by decide +kernel⟩
theorem tw_814 : tb_in (.instanceMethod yX1_answer) := ⟨List.mem_of_getElem? (i := 814) (by decide +kernel), by decide +kernel⟩
theorem tw_815 : tb_in (.selects RX1 yX1_answer yX1_answer) := ⟨List.mem_of_getElem? (i := 815) (by decide +kernel), by decide +kernel⟩
theorem tw_817 : tb_in (.constant RX1 52 (-1000000001)) := ⟨List.mem_of_getElem? (i := 817) (by decide +kernel), by decide +kernel⟩
theorem tw_818 : tb_in (.methodLink RL 90 yX9_served) := ⟨List.mem_of_getElem? (i := 818) (by decide +kernel), by decide +kernel⟩
theorem tw_819 : tb_in (.instanceMethod yX9_served) := ⟨List.mem_of_getElem? (i := 819) (by decide +kernel), by decide +kernel⟩
theorem tw_820 : tb_in (.selects RX9 yX9_served yX9_served) := ⟨List.mem_of_getElem? (i := 820) (by decide +kernel), by decide +kernel⟩
theorem tw_822 : tb_in (.methodLink RX9 268 yX5_hasOrder) := ⟨List.mem_of_getElem? (i := 822) (by decide +kernel), by decide +kernel⟩
theorem tw_823 : tb_in (.instanceMethod yX5_hasOrder) := ⟨List.mem_of_getElem? (i := 823) (by decide +kernel), by decide +kernel⟩
theorem tw_824 : tb_in (.selects RX5 yX5_hasOrder yX5_hasOrder) := ⟨List.mem_of_getElem? (i := 824) (by decide +kernel), by decide +kernel⟩
theorem tw_826 : tb_in (.methodLink RX9 271 yX7_seek) := ⟨List.mem_of_getElem? (i := 826) (by decide +kernel), by decide +kernel⟩
theorem tw_827 : tb_in (.instanceMethod yX7_seek) := ⟨List.mem_of_getElem? (i := 827) (by decide +kernel), by decide +kernel⟩
theorem tw_828 : tb_in (.selects RX7 yX7_seek yX7_seek) := ⟨List.mem_of_getElem? (i := 828) (by decide +kernel), by decide +kernel⟩
theorem tw_830 : tb_in (.methodLink RX7 43 yX7_markInTime) := ⟨List.mem_of_getElem? (i := 830) (by decide +kernel), by decide +kernel⟩
theorem tw_831 : tb_in (.instanceMethod yX7_markInTime) := ⟨List.mem_of_getElem? (i := 831) (by decide +kernel), by decide +kernel⟩
theorem tw_832 : tb_in (.selects RX7 yX7_markInTime yX7_markInTime) := ⟨List.mem_of_getElem? (i := 832) (by decide +kernel), by decide +kernel⟩
theorem tw_834 : tb_in (.methodLink RX7 70 yX8_roomOf) := ⟨List.mem_of_getElem? (i := 834) (by decide +kernel), by decide +kernel⟩
theorem tw_835 : tb_in (.methodLink RX7 79 yX5_distance) := ⟨List.mem_of_getElem? (i := 835) (by decide +kernel), by decide +kernel⟩
theorem tw_838 : tb_in (.methodLink RX7 60 yX7_ordersTaken) := ⟨List.mem_of_getElem? (i := 838) (by decide +kernel), by decide +kernel⟩
theorem tw_839 : tb_in (.instanceMethod yX7_ordersTaken) := ⟨List.mem_of_getElem? (i := 839) (by decide +kernel), by decide +kernel⟩
theorem tw_840 : tb_in (.selects RX7 yX7_ordersTaken yX7_ordersTaken) := ⟨List.mem_of_getElem? (i := 840) (by decide +kernel), by decide +kernel⟩
theorem tw_843 : tb_in (.methodLink RX7 64 arraycopyName) := ⟨List.mem_of_getElem? (i := 843) (by decide +kernel), by decide +kernel⟩
theorem tw_844 : tb_in (.methodLink RX9 272 yX7_answer) := ⟨List.mem_of_getElem? (i := 844) (by decide +kernel), by decide +kernel⟩
theorem tw_845 : tb_in (.instanceMethod yX7_answer) := ⟨List.mem_of_getElem? (i := 845) (by decide +kernel), by decide +kernel⟩
theorem tw_846 : tb_in (.selects RX7 yX7_answer yX7_answer) := ⟨List.mem_of_getElem? (i := 846) (by decide +kernel), by decide +kernel⟩
theorem tw_848 : tb_in (.methodLink RX7 33 yX5_hasOrder) := ⟨List.mem_of_getElem? (i := 848) (by decide +kernel), by decide +kernel⟩
theorem tw_849 : tb_in (.constant RX7 39 (-1000000001)) := ⟨List.mem_of_getElem? (i := 849) (by decide +kernel), by decide +kernel⟩
theorem tw_850 : tb_in (.methodLink RX7 40 yX5_hasWaiter) := ⟨List.mem_of_getElem? (i := 850) (by decide +kernel), by decide +kernel⟩
theorem tw_851 : tb_in (.methodLink RL 94 yX9_evened) := ⟨List.mem_of_getElem? (i := 851) (by decide +kernel), by decide +kernel⟩
theorem tw_852 : tb_in (.instanceMethod yX9_evened) := ⟨List.mem_of_getElem? (i := 852) (by decide +kernel), by decide +kernel⟩
theorem tw_853 : tb_in (.selects RX9 yX9_evened yX9_evened) := ⟨List.mem_of_getElem? (i := 853) (by decide +kernel), by decide +kernel⟩
theorem tw_855 : tb_in (.methodLink RX9 273 yX5_evenestLeft) := ⟨List.mem_of_getElem? (i := 855) (by decide +kernel), by decide +kernel⟩
theorem tw_856 : tb_in (.instanceMethod yX5_evenestLeft) := ⟨List.mem_of_getElem? (i := 856) (by decide +kernel), by decide +kernel⟩
theorem tw_857 : tb_in (.selects RX5 yX5_evenestLeft yX5_evenestLeft) := ⟨List.mem_of_getElem? (i := 857) (by decide +kernel), by decide +kernel⟩
theorem tw_859 : tb_in (.methodLink RX5 99 yX5_difference) := ⟨List.mem_of_getElem? (i := 859) (by decide +kernel), by decide +kernel⟩
theorem tw_860 : tb_in (.methodLink RX9 276 yX5_difference) := ⟨List.mem_of_getElem? (i := 860) (by decide +kernel), by decide +kernel⟩
theorem tw_861 : tb_in (.methodLink RL 98 yX9_packed) := ⟨List.mem_of_getElem? (i := 861) (by decide +kernel), by decide +kernel⟩
theorem tw_862 : tb_in (.instanceMethod yX9_packed) := ⟨List.mem_of_getElem? (i := 862) (by decide +kernel), by decide +kernel⟩
theorem tw_863 : tb_in (.selects RX9 yX9_packed yX9_packed) := ⟨List.mem_of_getElem? (i := 863) (by decide +kernel), by decide +kernel⟩
theorem tw_865 : tb_in (.methodLink RX9 279 yX5_worthiest) := ⟨List.mem_of_getElem? (i := 865) (by decide +kernel), by decide +kernel⟩
theorem tw_866 : tb_in (.instanceMethod yX5_worthiest) := ⟨List.mem_of_getElem? (i := 866) (by decide +kernel), by decide +kernel⟩
theorem tw_867 : tb_in (.selects RX5 yX5_worthiest yX5_worthiest) := ⟨List.mem_of_getElem? (i := 867) (by decide +kernel), by decide +kernel⟩
theorem tw_869 : tb_in (.methodLink RX5 102 yX5_worthOf) := ⟨List.mem_of_getElem? (i := 869) (by decide +kernel), by decide +kernel⟩
theorem tw_870 : tb_in (.methodLink RL 102 yX9_covered) := ⟨List.mem_of_getElem? (i := 870) (by decide +kernel), by decide +kernel⟩
theorem tw_871 : tb_in (.instanceMethod yX9_covered) := ⟨List.mem_of_getElem? (i := 871) (by decide +kernel), by decide +kernel⟩
theorem tw_872 : tb_in (.selects RX9 yX9_covered yX9_covered) := ⟨List.mem_of_getElem? (i := 872) (by decide +kernel), by decide +kernel⟩
theorem tw_874 : tb_in (.methodLink RX9 282 yX5_joinedToAny) := ⟨List.mem_of_getElem? (i := 874) (by decide +kernel), by decide +kernel⟩
theorem tw_875 : tb_in (.methodLink RL 106 yX9_calm) := ⟨List.mem_of_getElem? (i := 875) (by decide +kernel), by decide +kernel⟩
theorem tw_876 : tb_in (.instanceMethod yX9_calm) := ⟨List.mem_of_getElem? (i := 876) (by decide +kernel), by decide +kernel⟩
theorem tw_877 : tb_in (.selects RX9 yX9_calm yX9_calm) := ⟨List.mem_of_getElem? (i := 877) (by decide +kernel), by decide +kernel⟩
theorem tw_879 : tb_in (.constantLong RX9 285 (1000000000)) := ⟨List.mem_of_getElem? (i := 879) (by decide +kernel), by decide +kernel⟩
theorem tw_880 : tb_in (.constantLong RX9 287 (100)) := ⟨List.mem_of_getElem? (i := 880) (by decide +kernel), by decide +kernel⟩
theorem tw_881 : tb_in (.methodLink RL 110 yX9_see) := ⟨List.mem_of_getElem? (i := 881) (by decide +kernel), by decide +kernel⟩
theorem tw_882 : tb_in (.instanceMethod yX9_see) := ⟨List.mem_of_getElem? (i := 882) (by decide +kernel), by decide +kernel⟩
theorem tw_883 : tb_in (.selects RX9 yX9_see yX9_see) := ⟨List.mem_of_getElem? (i := 883) (by decide +kernel), by decide +kernel⟩
theorem tw_885 : tb_in (.methodLink RX9 289 yX3_addSight) := ⟨List.mem_of_getElem? (i := 885) (by decide +kernel), by decide +kernel⟩
theorem tw_886 : tb_in (.instanceMethod yX3_addSight) := ⟨List.mem_of_getElem? (i := 886) (by decide +kernel), by decide +kernel⟩
theorem tw_887 : tb_in (.selects RX3 yX3_addSight yX3_addSight) := ⟨List.mem_of_getElem? (i := 887) (by decide +kernel), by decide +kernel⟩
theorem tw_889 : tb_in (.methodLink RL 114 yX9_spiller) := ⟨List.mem_of_getElem? (i := 889) (by decide +kernel), by decide +kernel⟩
theorem tw_890 : tb_in (.instanceMethod yX9_spiller) := ⟨List.mem_of_getElem? (i := 890) (by decide +kernel), by decide +kernel⟩
theorem tw_891 : tb_in (.selects RX9 yX9_spiller yX9_spiller) := ⟨List.mem_of_getElem? (i := 891) (by decide +kernel), by decide +kernel⟩
theorem tw_893 : tb_in (.methodLink RX9 293 yX3_suspects) := ⟨List.mem_of_getElem? (i := 893) (by decide +kernel), by decide +kernel⟩
theorem tw_894 : tb_in (.instanceMethod yX3_suspects) := ⟨List.mem_of_getElem? (i := 894) (by decide +kernel), by decide +kernel⟩
theorem tw_895 : tb_in (.selects RX3 yX3_suspects yX3_suspects) := ⟨List.mem_of_getElem? (i := 895) (by decide +kernel), by decide +kernel⟩
theorem tw_897 : tb_in (.methodLink RX3 48 yX3_fitsAllSeen) := ⟨List.mem_of_getElem? (i := 897) (by decide +kernel), by decide +kernel⟩
theorem tw_898 : tb_in (.instanceMethod yX3_fitsAllSeen) := ⟨List.mem_of_getElem? (i := 898) (by decide +kernel), by decide +kernel⟩
theorem tw_899 : tb_in (.selects RX3 yX3_fitsAllSeen yX3_fitsAllSeen) := ⟨List.mem_of_getElem? (i := 899) (by decide +kernel), by decide +kernel⟩
theorem tw_901 : tb_in (.methodLink RX3 52 yX8_roomsCameTo) := ⟨List.mem_of_getElem? (i := 901) (by decide +kernel), by decide +kernel⟩
theorem tw_902 : tb_in (.instanceMethod yX8_roomsCameTo) := ⟨List.mem_of_getElem? (i := 902) (by decide +kernel), by decide +kernel⟩
theorem tw_903 : tb_in (.selects RX8 yX8_roomsCameTo yX8_roomsCameTo) := ⟨List.mem_of_getElem? (i := 903) (by decide +kernel), by decide +kernel⟩
theorem tw_906 : tb_in (.methodLink RL 118 yX9_look) := ⟨List.mem_of_getElem? (i := 906) (by decide +kernel), by decide +kernel⟩
theorem tw_907 : tb_in (.instanceMethod yX9_look) := ⟨List.mem_of_getElem? (i := 907) (by decide +kernel), by decide +kernel⟩
theorem tw_908 : tb_in (.selects RX9 yX9_look yX9_look) := ⟨List.mem_of_getElem? (i := 908) (by decide +kernel), by decide +kernel⟩
theorem tw_910 : tb_in (.methodLink RX9 296 yX3_bestRoom) := ⟨List.mem_of_getElem? (i := 910) (by decide +kernel), by decide +kernel⟩
theorem tw_911 : tb_in (.instanceMethod yX3_bestRoom) := ⟨List.mem_of_getElem? (i := 911) (by decide +kernel), by decide +kernel⟩
theorem tw_912 : tb_in (.selects RX3 yX3_bestRoom yX3_bestRoom) := ⟨List.mem_of_getElem? (i := 912) (by decide +kernel), by decide +kernel⟩
theorem tw_914 : tb_in (.methodLink RX3 62 yX3_suspects) := ⟨List.mem_of_getElem? (i := 914) (by decide +kernel), by decide +kernel⟩
theorem tw_915 : tb_in (.methodLink RX3 66 yJ6_bitCount_0f7a4) := ⟨List.mem_of_getElem? (i := 915) (by decide +kernel), by decide +kernel⟩
theorem tw_916 : tb_in (.methodLink RX3 75 yX3_countComingTo) := ⟨List.mem_of_getElem? (i := 916) (by decide +kernel), by decide +kernel⟩
theorem tw_917 : tb_in (.instanceMethod yX3_countComingTo) := ⟨List.mem_of_getElem? (i := 917) (by decide +kernel), by decide +kernel⟩
theorem tw_918 : tb_in (.selects RX3 yX3_countComingTo yX3_countComingTo) := ⟨List.mem_of_getElem? (i := 918) (by decide +kernel), by decide +kernel⟩
theorem tw_920 : tb_in (.methodLink RX3 78 Lib.Math.max.name) := ⟨List.mem_of_getElem? (i := 920) (by decide +kernel), by decide +kernel⟩
theorem tw_921 : tb_in (.methodLink RL 122 yX9_write) := ⟨List.mem_of_getElem? (i := 921) (by decide +kernel), by decide +kernel⟩
theorem tw_922 : tb_in (.instanceMethod yX9_write) := ⟨List.mem_of_getElem? (i := 922) (by decide +kernel), by decide +kernel⟩
theorem tw_923 : tb_in (.selects RX9 yX9_write yX9_write) := ⟨List.mem_of_getElem? (i := 923) (by decide +kernel), by decide +kernel⟩
theorem tw_925 : tb_in (.methodLink RX9 299 yX3_addEntry) := ⟨List.mem_of_getElem? (i := 925) (by decide +kernel), by decide +kernel⟩
theorem tw_926 : tb_in (.instanceMethod yX3_addEntry) := ⟨List.mem_of_getElem? (i := 926) (by decide +kernel), by decide +kernel⟩
theorem tw_927 : tb_in (.selects RX3 yX3_addEntry yX3_addEntry) := ⟨List.mem_of_getElem? (i := 927) (by decide +kernel), by decide +kernel⟩
theorem tw_929 : tb_in (.methodLink RL 126 yX9_tear) := ⟨List.mem_of_getElem? (i := 929) (by decide +kernel), by decide +kernel⟩
theorem tw_930 : tb_in (.instanceMethod yX9_tear) := ⟨List.mem_of_getElem? (i := 930) (by decide +kernel), by decide +kernel⟩
theorem tw_931 : tb_in (.selects RX9 yX9_tear yX9_tear) := ⟨List.mem_of_getElem? (i := 931) (by decide +kernel), by decide +kernel⟩
theorem tw_933 : tb_in (.methodLink RL 130 yX9_judge) := ⟨List.mem_of_getElem? (i := 933) (by decide +kernel), by decide +kernel⟩
theorem tw_934 : tb_in (.instanceMethod yX9_judge) := ⟨List.mem_of_getElem? (i := 934) (by decide +kernel), by decide +kernel⟩
theorem tw_935 : tb_in (.selects RX9 yX9_judge yX9_judge) := ⟨List.mem_of_getElem? (i := 935) (by decide +kernel), by decide +kernel⟩
theorem tw_937 : tb_in (.methodLink RX9 302 yX3_firstWrong) := ⟨List.mem_of_getElem? (i := 937) (by decide +kernel), by decide +kernel⟩
theorem tw_938 : tb_in (.instanceMethod yX3_firstWrong) := ⟨List.mem_of_getElem? (i := 938) (by decide +kernel), by decide +kernel⟩
theorem tw_939 : tb_in (.selects RX3 yX3_firstWrong yX3_firstWrong) := ⟨List.mem_of_getElem? (i := 939) (by decide +kernel), by decide +kernel⟩
theorem tw_941 : tb_in (.methodLink RX3 83 yX8_roomOf) := ⟨List.mem_of_getElem? (i := 941) (by decide +kernel), by decide +kernel⟩
theorem tw_942 : tb_in (.methodLink RL 134 yX9_seed) := ⟨List.mem_of_getElem? (i := 942) (by decide +kernel), by decide +kernel⟩
theorem tw_943 : tb_in (.instanceMethod yX9_seed) := ⟨List.mem_of_getElem? (i := 943) (by decide +kernel), by decide +kernel⟩
theorem tw_944 : tb_in (.selects RX9 yX9_seed yX9_seed) := ⟨List.mem_of_getElem? (i := 944) (by decide +kernel), by decide +kernel⟩
theorem tw_946 : tb_in (.methodLink RL 138 yX9_keep) := ⟨List.mem_of_getElem? (i := 946) (by decide +kernel), by decide +kernel⟩
theorem tw_947 : tb_in (.instanceMethod yX9_keep) := ⟨List.mem_of_getElem? (i := 947) (by decide +kernel), by decide +kernel⟩
theorem tw_948 : tb_in (.selects RX9 yX9_keep yX9_keep) := ⟨List.mem_of_getElem? (i := 948) (by decide +kernel), by decide +kernel⟩
theorem tw_950 : tb_in (.methodLink RX9 311 yX8_become) := ⟨List.mem_of_getElem? (i := 950) (by decide +kernel), by decide +kernel⟩
theorem tw_951 : tb_in (.methodLink RL 142 yX9_goBack) := ⟨List.mem_of_getElem? (i := 951) (by decide +kernel), by decide +kernel⟩
theorem tw_952 : tb_in (.instanceMethod yX9_goBack) := ⟨List.mem_of_getElem? (i := 952) (by decide +kernel), by decide +kernel⟩
theorem tw_953 : tb_in (.selects RX9 yX9_goBack yX9_goBack) := ⟨List.mem_of_getElem? (i := 953) (by decide +kernel), by decide +kernel⟩
theorem tw_955 : tb_in (.classLink RL 10 RX10) := ⟨List.mem_of_getElem? (i := 955) (by decide +kernel), by decide +kernel⟩
theorem tw_956 : tb_in (.instantiable RX10 46) := ⟨List.mem_of_getElem? (i := 956) (by decide +kernel), by decide +kernel⟩
theorem tw_957 : tb_in (.methodLink RL 12 yX10_init) := ⟨List.mem_of_getElem? (i := 957) (by decide +kernel), by decide +kernel⟩
theorem tw_958 : tb_in (.instanceMethod yX10_init) := ⟨List.mem_of_getElem? (i := 958) (by decide +kernel), by decide +kernel⟩
theorem tw_960 : tb_in (.methodLink RX10 1 Lib.objectInit) := ⟨List.mem_of_getElem? (i := 960) (by decide +kernel), by decide +kernel⟩
theorem tw_1100 : tb_in (.methodLink RL 17 yX10_feed) := ⟨List.mem_of_getElem? (i := 1100) (by decide +kernel), by decide +kernel⟩
theorem tw_1101 : tb_in (.instanceMethod yX10_feed) := ⟨List.mem_of_getElem? (i := 1101) (by decide +kernel), by decide +kernel⟩
theorem tw_1102 : tb_in (.selects RX10 yX10_feed yX10_feed) := ⟨List.mem_of_getElem? (i := 1102) (by decide +kernel), by decide +kernel⟩
theorem tw_1104 : tb_in (.constantLong RX10 107 (255)) := ⟨List.mem_of_getElem? (i := 1104) (by decide +kernel), by decide +kernel⟩
theorem tw_1105 : tb_in (.methodLink RX10 93 yX10_in) := ⟨List.mem_of_getElem? (i := 1105) (by decide +kernel), by decide +kernel⟩
theorem tw_1106 : tb_in (.static yX10_in) := ⟨List.mem_of_getElem? (i := 1106) (by decide +kernel), by decide +kernel⟩
theorem tw_1108 : tb_in (.constant RX10 109 (-1000000002)) := ⟨List.mem_of_getElem? (i := 1108) (by decide +kernel), by decide +kernel⟩
theorem tw_1109 : tb_in (.constant RX10 113 (-1000000004)) := ⟨List.mem_of_getElem? (i := 1109) (by decide +kernel), by decide +kernel⟩
theorem tw_1110 : tb_in (.methodLink RL 22 yX10_hotel) := ⟨List.mem_of_getElem? (i := 1110) (by decide +kernel), by decide +kernel⟩
theorem tw_1111 : tb_in (.instanceMethod yX10_hotel) := ⟨List.mem_of_getElem? (i := 1111) (by decide +kernel), by decide +kernel⟩
theorem tw_1112 : tb_in (.selects RX10 yX10_hotel yX10_hotel) := ⟨List.mem_of_getElem? (i := 1112) (by decide +kernel), by decide +kernel⟩
theorem tw_1114 : tb_in (.methodLink RX10 127 yX10_here) := ⟨List.mem_of_getElem? (i := 1114) (by decide +kernel), by decide +kernel⟩
theorem tw_1116 : tb_in (.instanceMethod yX10_here) := ⟨List.mem_of_getElem? (i := 1116) (by decide +kernel), by decide +kernel⟩
theorem tw_1118 : tb_in (.methodLink RX10 117 yX10_letterAt) := ⟨List.mem_of_getElem? (i := 1118) (by decide +kernel), by decide +kernel⟩
theorem tw_1120 : tb_in (.instanceMethod yX10_letterAt) := ⟨List.mem_of_getElem? (i := 1120) (by decide +kernel), by decide +kernel⟩
theorem tw_1122 : tb_in (.methodLink RX10 188 yX10_takesClause) := ⟨List.mem_of_getElem? (i := 1122) (by decide +kernel), by decide +kernel⟩
theorem tw_1124 : tb_in (.instanceMethod yX10_takesClause) := ⟨List.mem_of_getElem? (i := 1124) (by decide +kernel), by decide +kernel⟩
theorem tw_1126 : tb_in (.methodLink RX10 131 yX10_fails) := ⟨List.mem_of_getElem? (i := 1126) (by decide +kernel), by decide +kernel⟩
theorem tw_1128 : tb_in (.instanceMethod yX10_fails) := ⟨List.mem_of_getElem? (i := 1128) (by decide +kernel), by decide +kernel⟩
theorem tw_1130 : tb_in (.methodLink RX10 182 yX10_takesWords) := ⟨List.mem_of_getElem? (i := 1130) (by decide +kernel), by decide +kernel⟩
theorem tw_1132 : tb_in (.instanceMethod yX10_takesWords) := ⟨List.mem_of_getElem? (i := 1132) (by decide +kernel), by decide +kernel⟩
theorem tw_1134 : tb_in (.methodLink RX10 166 yX10_takesHotel) := ⟨List.mem_of_getElem? (i := 1134) (by decide +kernel), by decide +kernel⟩
theorem tw_1136 : tb_in (.instanceMethod yX10_takesHotel) := ⟨List.mem_of_getElem? (i := 1136) (by decide +kernel), by decide +kernel⟩
theorem tw_1138 : tb_in (.methodLink RX10 142 yX10_takesNumber) := ⟨List.mem_of_getElem? (i := 1138) (by decide +kernel), by decide +kernel⟩
theorem tw_1140 : tb_in (.instanceMethod yX10_takesNumber) := ⟨List.mem_of_getElem? (i := 1140) (by decide +kernel), by decide +kernel⟩
theorem tw_1142 : tb_in (.constantLong RX10 135 (48)) := ⟨List.mem_of_getElem? (i := 1142) (by decide +kernel), by decide +kernel⟩
theorem tw_1143 : tb_in (.constantLong RX10 137 (57)) := ⟨List.mem_of_getElem? (i := 1143) (by decide +kernel), by decide +kernel⟩
theorem tw_1144 : tb_in (.methodLink RX10 170 yX10_takesPassage) := ⟨List.mem_of_getElem? (i := 1144) (by decide +kernel), by decide +kernel⟩
theorem tw_1146 : tb_in (.instanceMethod yX10_takesPassage) := ⟨List.mem_of_getElem? (i := 1146) (by decide +kernel), by decide +kernel⟩
theorem tw_1148 : tb_in (.methodLink RX10 151 yX10_has) := ⟨List.mem_of_getElem? (i := 1148) (by decide +kernel), by decide +kernel⟩
theorem tw_1149 : tb_in (.static yX10_has) := ⟨List.mem_of_getElem? (i := 1149) (by decide +kernel), by decide +kernel⟩
theorem tw_1151 : tb_in (.methodLink RX10 173 yX10_takesWaiter) := ⟨List.mem_of_getElem? (i := 1151) (by decide +kernel), by decide +kernel⟩
theorem tw_1153 : tb_in (.instanceMethod yX10_takesWaiter) := ⟨List.mem_of_getElem? (i := 1153) (by decide +kernel), by decide +kernel⟩
theorem tw_1155 : tb_in (.methodLink RX10 176 yX10_takesThing) := ⟨List.mem_of_getElem? (i := 1155) (by decide +kernel), by decide +kernel⟩
theorem tw_1157 : tb_in (.instanceMethod yX10_takesThing) := ⟨List.mem_of_getElem? (i := 1157) (by decide +kernel), by decide +kernel⟩
theorem tw_1159 : tb_in (.methodLink RX10 179 yX10_takesOrder) := ⟨List.mem_of_getElem? (i := 1159) (by decide +kernel), by decide +kernel⟩
theorem tw_1161 : tb_in (.instanceMethod yX10_takesOrder) := ⟨List.mem_of_getElem? (i := 1161) (by decide +kernel), by decide +kernel⟩
theorem tw_1163 : tb_in (.methodLink RX10 185 yX10_takes) := ⟨List.mem_of_getElem? (i := 1163) (by decide +kernel), by decide +kernel⟩
theorem tw_1165 : tb_in (.instanceMethod yX10_takes) := ⟨List.mem_of_getElem? (i := 1165) (by decide +kernel), by decide +kernel⟩
theorem tw_1167 : tb_in (.methodLink RL 26 yX10_fault) := ⟨List.mem_of_getElem? (i := 1167) (by decide +kernel), by decide +kernel⟩
theorem tw_1168 : tb_in (.instanceMethod yX10_fault) := ⟨List.mem_of_getElem? (i := 1168) (by decide +kernel), by decide +kernel⟩
theorem tw_1169 : tb_in (.selects RX10 yX10_fault yX10_fault) := ⟨List.mem_of_getElem? (i := 1169) (by decide +kernel), by decide +kernel⟩
theorem tw_1171 : tb_in (.methodLink RL 30 yX10_told) := ⟨List.mem_of_getElem? (i := 1171) (by decide +kernel), by decide +kernel⟩
theorem tw_1172 : tb_in (.instanceMethod yX10_told) := ⟨List.mem_of_getElem? (i := 1172) (by decide +kernel), by decide +kernel⟩
theorem tw_1173 : tb_in (.selects RX10 yX10_told yX10_told) := ⟨List.mem_of_getElem? (i := 1173) (by decide +kernel), by decide +kernel⟩
theorem tw_1175 : tb_in (.methodLink RX10 209 yX10_thingsAt) := ⟨List.mem_of_getElem? (i := 1175) (by decide +kernel), by decide +kernel⟩
theorem tw_1177 : tb_in (.instanceMethod yX10_thingsAt) := ⟨List.mem_of_getElem? (i := 1177) (by decide +kernel), by decide +kernel⟩
theorem tw_1179 : tb_in (.methodLink RX10 213 yX10_worthOf) := ⟨List.mem_of_getElem? (i := 1179) (by decide +kernel), by decide +kernel⟩
theorem tw_1181 : tb_in (.instanceMethod yX10_worthOf) := ⟨List.mem_of_getElem? (i := 1181) (by decide +kernel), by decide +kernel⟩
theorem tw_1183 : tb_in (.methodLink RL 34 yX10_room) := ⟨List.mem_of_getElem? (i := 1183) (by decide +kernel), by decide +kernel⟩
theorem tw_1184 : tb_in (.instanceMethod yX10_room) := ⟨List.mem_of_getElem? (i := 1184) (by decide +kernel), by decide +kernel⟩
theorem tw_1185 : tb_in (.selects RX10 yX10_room yX10_room) := ⟨List.mem_of_getElem? (i := 1185) (by decide +kernel), by decide +kernel⟩
theorem tw_1187 : tb_in (.methodLink RX10 216 yX10_isRoom) := ⟨List.mem_of_getElem? (i := 1187) (by decide +kernel), by decide +kernel⟩
theorem tw_1189 : tb_in (.instanceMethod yX10_isRoom) := ⟨List.mem_of_getElem? (i := 1189) (by decide +kernel), by decide +kernel⟩
theorem tw_1191 : tb_in (.constant RX10 219 (-1000000001)) := ⟨List.mem_of_getElem? (i := 1191) (by decide +kernel), by decide +kernel⟩
theorem tw_1192 : tb_in (.methodLink RL 39 yX10_waiter) := ⟨List.mem_of_getElem? (i := 1192) (by decide +kernel), by decide +kernel⟩
theorem tw_1193 : tb_in (.instanceMethod yX10_waiter) := ⟨List.mem_of_getElem? (i := 1193) (by decide +kernel), by decide +kernel⟩
theorem tw_1194 : tb_in (.selects RX10 yX10_waiter yX10_waiter) := ⟨List.mem_of_getElem? (i := 1194) (by decide +kernel), by decide +kernel⟩
theorem tw_1196 : tb_in (.methodLink RX10 100 yX10_isWaiter) := ⟨List.mem_of_getElem? (i := 1196) (by decide +kernel), by decide +kernel⟩
theorem tw_1198 : tb_in (.instanceMethod yX10_isWaiter) := ⟨List.mem_of_getElem? (i := 1198) (by decide +kernel), by decide +kernel⟩
theorem tw_1200 : tb_in (.methodLink RX10 223 yX10_onTray) := ⟨List.mem_of_getElem? (i := 1200) (by decide +kernel), by decide +kernel⟩
theorem tw_1202 : tb_in (.instanceMethod yX10_onTray) := ⟨List.mem_of_getElem? (i := 1202) (by decide +kernel), by decide +kernel⟩
theorem tw_1204 : tb_in (.methodLink RX10 220 yX10_weightOf) := ⟨List.mem_of_getElem? (i := 1204) (by decide +kernel), by decide +kernel⟩
theorem tw_1206 : tb_in (.instanceMethod yX10_weightOf) := ⟨List.mem_of_getElem? (i := 1206) (by decide +kernel), by decide +kernel⟩
theorem tw_1208 : tb_in (.methodLink RX10 226 yX10_differs) := ⟨List.mem_of_getElem? (i := 1208) (by decide +kernel), by decide +kernel⟩
theorem tw_1210 : tb_in (.instanceMethod yX10_differs) := ⟨List.mem_of_getElem? (i := 1210) (by decide +kernel), by decide +kernel⟩
theorem tw_1212 : tb_in (.methodLink RL 43 yX10_thing) := ⟨List.mem_of_getElem? (i := 1212) (by decide +kernel), by decide +kernel⟩
theorem tw_1213 : tb_in (.instanceMethod yX10_thing) := ⟨List.mem_of_getElem? (i := 1213) (by decide +kernel), by decide +kernel⟩
theorem tw_1214 : tb_in (.selects RX10 yX10_thing yX10_thing) := ⟨List.mem_of_getElem? (i := 1214) (by decide +kernel), by decide +kernel⟩
theorem tw_1216 : tb_in (.methodLink RX10 229 yX10_isThing) := ⟨List.mem_of_getElem? (i := 1216) (by decide +kernel), by decide +kernel⟩
theorem tw_1218 : tb_in (.instanceMethod yX10_isThing) := ⟨List.mem_of_getElem? (i := 1218) (by decide +kernel), by decide +kernel⟩
theorem tw_1220 : tb_in (.methodLink RX10 232 yX10_whose) := ⟨List.mem_of_getElem? (i := 1220) (by decide +kernel), by decide +kernel⟩
theorem tw_1222 : tb_in (.instanceMethod yX10_whose) := ⟨List.mem_of_getElem? (i := 1222) (by decide +kernel), by decide +kernel⟩
theorem tw_1224 : tb_in (.methodLink RL 73 yX10_undo) := ⟨List.mem_of_getElem? (i := 1224) (by decide +kernel), by decide +kernel⟩
theorem tw_1225 : tb_in (.instanceMethod yX10_undo) := ⟨List.mem_of_getElem? (i := 1225) (by decide +kernel), by decide +kernel⟩
theorem tw_1226 : tb_in (.selects RX10 yX10_undo yX10_undo) := ⟨List.mem_of_getElem? (i := 1226) (by decide +kernel), by decide +kernel⟩
theorem tw_1228 : tb_in (.constant RX10 249 (-1000000003)) := ⟨List.mem_of_getElem? (i := 1228) (by decide +kernel), by decide +kernel⟩
theorem tw_1229 : tb_in (.methodLink RX10 246 yX10_copy) := ⟨List.mem_of_getElem? (i := 1229) (by decide +kernel), by decide +kernel⟩
theorem tw_1231 : tb_in (.instanceMethod yX10_copy) := ⟨List.mem_of_getElem? (i := 1231) (by decide +kernel), by decide +kernel⟩
theorem tw_1233 : tb_in (.methodLink RL 47 yX10_minute) := ⟨List.mem_of_getElem? (i := 1233) (by decide +kernel), by decide +kernel⟩
theorem tw_1234 : tb_in (.instanceMethod yX10_minute) := ⟨List.mem_of_getElem? (i := 1234) (by decide +kernel), by decide +kernel⟩
theorem tw_1235 : tb_in (.selects RX10 yX10_minute yX10_minute) := ⟨List.mem_of_getElem? (i := 1235) (by decide +kernel), by decide +kernel⟩
theorem tw_1237 : tb_in (.constantLong RX10 250 (60)) := ⟨List.mem_of_getElem? (i := 1237) (by decide +kernel), by decide +kernel⟩
theorem tw_1238 : tb_in (.methodLink RX10 252 yX10_minds) := ⟨List.mem_of_getElem? (i := 1238) (by decide +kernel), by decide +kernel⟩
theorem tw_1240 : tb_in (.instanceMethod yX10_minds) := ⟨List.mem_of_getElem? (i := 1240) (by decide +kernel), by decide +kernel⟩
theorem tw_1242 : tb_in (.methodLink RX10 255 yX10_passes) := ⟨List.mem_of_getElem? (i := 1242) (by decide +kernel), by decide +kernel⟩
theorem tw_1244 : tb_in (.instanceMethod yX10_passes) := ⟨List.mem_of_getElem? (i := 1244) (by decide +kernel), by decide +kernel⟩
theorem tw_1246 : tb_in (.methodLink RX10 235 yX10_walks) := ⟨List.mem_of_getElem? (i := 1246) (by decide +kernel), by decide +kernel⟩
theorem tw_1248 : tb_in (.instanceMethod yX10_walks) := ⟨List.mem_of_getElem? (i := 1248) (by decide +kernel), by decide +kernel⟩
theorem tw_1250 : tb_in (.methodLink RX10 239 yX10_haveMet) := ⟨List.mem_of_getElem? (i := 1250) (by decide +kernel), by decide +kernel⟩
theorem tw_1252 : tb_in (.instanceMethod yX10_haveMet) := ⟨List.mem_of_getElem? (i := 1252) (by decide +kernel), by decide +kernel⟩
theorem tw_1254 : tb_in (.methodLink RX10 243 yX10_spills) := ⟨List.mem_of_getElem? (i := 1254) (by decide +kernel), by decide +kernel⟩
theorem tw_1256 : tb_in (.instanceMethod yX10_spills) := ⟨List.mem_of_getElem? (i := 1256) (by decide +kernel), by decide +kernel⟩
theorem tw_1258 : tb_in (.methodLink RL 51 yX10_route) := ⟨List.mem_of_getElem? (i := 1258) (by decide +kernel), by decide +kernel⟩
theorem tw_1259 : tb_in (.instanceMethod yX10_route) := ⟨List.mem_of_getElem? (i := 1259) (by decide +kernel), by decide +kernel⟩
theorem tw_1260 : tb_in (.selects RX10 yX10_route yX10_route) := ⟨List.mem_of_getElem? (i := 1260) (by decide +kernel), by decide +kernel⟩
theorem tw_1262 : tb_in (.constantLong RX10 259 (999999999)) := ⟨List.mem_of_getElem? (i := 1262) (by decide +kernel), by decide +kernel⟩
theorem tw_1263 : tb_in (.methodLink RL 56 yX10_lay) := ⟨List.mem_of_getElem? (i := 1263) (by decide +kernel), by decide +kernel⟩
theorem tw_1264 : tb_in (.instanceMethod yX10_lay) := ⟨List.mem_of_getElem? (i := 1264) (by decide +kernel), by decide +kernel⟩
theorem tw_1265 : tb_in (.selects RX10 yX10_lay yX10_lay) := ⟨List.mem_of_getElem? (i := 1265) (by decide +kernel), by decide +kernel⟩
theorem tw_1267 : tb_in (.methodLink RL 60 yX10_takeOff) := ⟨List.mem_of_getElem? (i := 1267) (by decide +kernel), by decide +kernel⟩
theorem tw_1268 : tb_in (.instanceMethod yX10_takeOff) := ⟨List.mem_of_getElem? (i := 1268) (by decide +kernel), by decide +kernel⟩
theorem tw_1269 : tb_in (.selects RX10 yX10_takeOff yX10_takeOff) := ⟨List.mem_of_getElem? (i := 1269) (by decide +kernel), by decide +kernel⟩
theorem tw_1271 : tb_in (.methodLink RL 65 yX10_treaty) := ⟨List.mem_of_getElem? (i := 1271) (by decide +kernel), by decide +kernel⟩
theorem tw_1272 : tb_in (.instanceMethod yX10_treaty) := ⟨List.mem_of_getElem? (i := 1272) (by decide +kernel), by decide +kernel⟩
theorem tw_1273 : tb_in (.selects RX10 yX10_treaty yX10_treaty) := ⟨List.mem_of_getElem? (i := 1273) (by decide +kernel), by decide +kernel⟩
theorem tw_1275 : tb_in (.methodLink RX10 261 yX10_areTwo) := ⟨List.mem_of_getElem? (i := 1275) (by decide +kernel), by decide +kernel⟩
theorem tw_1277 : tb_in (.instanceMethod yX10_areTwo) := ⟨List.mem_of_getElem? (i := 1277) (by decide +kernel), by decide +kernel⟩
theorem tw_1279 : tb_in (.methodLink RL 69 yX10_drift) := ⟨List.mem_of_getElem? (i := 1279) (by decide +kernel), by decide +kernel⟩
theorem tw_1280 : tb_in (.instanceMethod yX10_drift) := ⟨List.mem_of_getElem? (i := 1280) (by decide +kernel), by decide +kernel⟩
theorem tw_1281 : tb_in (.selects RX10 yX10_drift yX10_drift) := ⟨List.mem_of_getElem? (i := 1281) (by decide +kernel), by decide +kernel⟩
theorem tw_1283 : tb_in (.methodLink RX10 271 yX10_draw) := ⟨List.mem_of_getElem? (i := 1283) (by decide +kernel), by decide +kernel⟩
theorem tw_1285 : tb_in (.instanceMethod yX10_draw) := ⟨List.mem_of_getElem? (i := 1285) (by decide +kernel), by decide +kernel⟩
theorem tw_1287 : tb_in (.constantLong RX10 264 (1103515245)) := ⟨List.mem_of_getElem? (i := 1287) (by decide +kernel), by decide +kernel⟩
theorem tw_1288 : tb_in (.constantLong RX10 266 (12345)) := ⟨List.mem_of_getElem? (i := 1288) (by decide +kernel), by decide +kernel⟩
theorem tw_1289 : tb_in (.constantLong RX10 268 (2147483648)) := ⟨List.mem_of_getElem? (i := 1289) (by decide +kernel), by decide +kernel⟩
theorem tw_1290 : tb_in (.constant RX10 270 (65536)) := ⟨List.mem_of_getElem? (i := 1290) (by decide +kernel), by decide +kernel⟩
theorem tw_1291 : tb_in (.methodLink RX10 274 yX10_ones) := ⟨List.mem_of_getElem? (i := 1291) (by decide +kernel), by decide +kernel⟩
theorem tw_1292 : tb_in (.static yX10_ones) := ⟨List.mem_of_getElem? (i := 1292) (by decide +kernel), by decide +kernel⟩
theorem tw_1294 : tb_in (.methodLink RX10 277 yX10_nth) := ⟨List.mem_of_getElem? (i := 1294) (by decide +kernel), by decide +kernel⟩
theorem tw_1295 : tb_in (.static yX10_nth) := ⟨List.mem_of_getElem? (i := 1295) (by decide +kernel), by decide +kernel⟩
theorem tw_1297 : tb_in (.methodLink RL 77 yX10_where) := ⟨List.mem_of_getElem? (i := 1297) (by decide +kernel), by decide +kernel⟩
theorem tw_1298 : tb_in (.instanceMethod yX10_where) := ⟨List.mem_of_getElem? (i := 1298) (by decide +kernel), by decide +kernel⟩
theorem tw_1299 : tb_in (.selects RX10 yX10_where yX10_where) := ⟨List.mem_of_getElem? (i := 1299) (by decide +kernel), by decide +kernel⟩
theorem tw_1301 : tb_in (.constantLong RX10 280 (20)) := ⟨List.mem_of_getElem? (i := 1301) (by decide +kernel), by decide +kernel⟩
theorem tw_1302 : tb_in (.methodLink RX10 282 yX10_tries) := ⟨List.mem_of_getElem? (i := 1302) (by decide +kernel), by decide +kernel⟩
theorem tw_1304 : tb_in (.instanceMethod yX10_tries) := ⟨List.mem_of_getElem? (i := 1304) (by decide +kernel), by decide +kernel⟩
theorem tw_1306 : tb_in (.methodLink RX10 285 yX10_walksAll) := ⟨List.mem_of_getElem? (i := 1306) (by decide +kernel), by decide +kernel⟩
theorem tw_1308 : tb_in (.instanceMethod yX10_walksAll) := ⟨List.mem_of_getElem? (i := 1308) (by decide +kernel), by decide +kernel⟩
theorem tw_1310 : tb_in (.methodLink RL 81 yX10_meets) := ⟨List.mem_of_getElem? (i := 1310) (by decide +kernel), by decide +kernel⟩
theorem tw_1311 : tb_in (.instanceMethod yX10_meets) := ⟨List.mem_of_getElem? (i := 1311) (by decide +kernel), by decide +kernel⟩
theorem tw_1312 : tb_in (.selects RX10 yX10_meets yX10_meets) := ⟨List.mem_of_getElem? (i := 1312) (by decide +kernel), by decide +kernel⟩
theorem tw_1314 : tb_in (.methodLink RL 85 yX10_way) := ⟨List.mem_of_getElem? (i := 1314) (by decide +kernel), by decide +kernel⟩
theorem tw_1315 : tb_in (.instanceMethod yX10_way) := ⟨List.mem_of_getElem? (i := 1315) (by decide +kernel), by decide +kernel⟩
theorem tw_1316 : tb_in (.selects RX10 yX10_way yX10_way) := ⟨List.mem_of_getElem? (i := 1316) (by decide +kernel), by decide +kernel⟩
theorem tw_1318 : tb_in (.methodLink RX10 289 yX10_wayOf) := ⟨List.mem_of_getElem? (i := 1318) (by decide +kernel), by decide +kernel⟩
theorem tw_1320 : tb_in (.instanceMethod yX10_wayOf) := ⟨List.mem_of_getElem? (i := 1320) (by decide +kernel), by decide +kernel⟩
theorem tw_1322 : tb_in (.constant RX10 288 (1000000)) := ⟨List.mem_of_getElem? (i := 1322) (by decide +kernel), by decide +kernel⟩
theorem tw_1323 : tb_in (.methodLink RX10 292 yX10_nextOf) := ⟨List.mem_of_getElem? (i := 1323) (by decide +kernel), by decide +kernel⟩
theorem tw_1325 : tb_in (.instanceMethod yX10_nextOf) := ⟨List.mem_of_getElem? (i := 1325) (by decide +kernel), by decide +kernel⟩
theorem tw_1327 : tb_in (.methodLink RL 89 yX10_delays) := ⟨List.mem_of_getElem? (i := 1327) (by decide +kernel), by decide +kernel⟩
theorem tw_1328 : tb_in (.instanceMethod yX10_delays) := ⟨List.mem_of_getElem? (i := 1328) (by decide +kernel), by decide +kernel⟩
theorem tw_1329 : tb_in (.selects RX10 yX10_delays yX10_delays) := ⟨List.mem_of_getElem? (i := 1329) (by decide +kernel), by decide +kernel⟩
theorem tw_1331 : tb_in (.methodLink RX10 295 yX10_isApart) := ⟨List.mem_of_getElem? (i := 1331) (by decide +kernel), by decide +kernel⟩
theorem tw_1333 : tb_in (.instanceMethod yX10_isApart) := ⟨List.mem_of_getElem? (i := 1333) (by decide +kernel), by decide +kernel⟩
theorem tw_1335 : tb_in (.methodLink RL 93 yX10_served) := ⟨List.mem_of_getElem? (i := 1335) (by decide +kernel), by decide +kernel⟩
theorem tw_1336 : tb_in (.instanceMethod yX10_served) := ⟨List.mem_of_getElem? (i := 1336) (by decide +kernel), by decide +kernel⟩
theorem tw_1337 : tb_in (.selects RX10 yX10_served yX10_served) := ⟨List.mem_of_getElem? (i := 1337) (by decide +kernel), by decide +kernel⟩
theorem tw_1339 : tb_in (.methodLink RX10 298 yX10_servedBy) := ⟨List.mem_of_getElem? (i := 1339) (by decide +kernel), by decide +kernel⟩
theorem tw_1341 : tb_in (.instanceMethod yX10_servedBy) := ⟨List.mem_of_getElem? (i := 1341) (by decide +kernel), by decide +kernel⟩
theorem tw_1343 : tb_in (.methodLink RL 97 yX10_evened) := ⟨List.mem_of_getElem? (i := 1343) (by decide +kernel), by decide +kernel⟩
theorem tw_1344 : tb_in (.instanceMethod yX10_evened) := ⟨List.mem_of_getElem? (i := 1344) (by decide +kernel), by decide +kernel⟩
theorem tw_1345 : tb_in (.selects RX10 yX10_evened yX10_evened) := ⟨List.mem_of_getElem? (i := 1345) (by decide +kernel), by decide +kernel⟩
theorem tw_1347 : tb_in (.methodLink RL 101 yX10_packed) := ⟨List.mem_of_getElem? (i := 1347) (by decide +kernel), by decide +kernel⟩
theorem tw_1348 : tb_in (.instanceMethod yX10_packed) := ⟨List.mem_of_getElem? (i := 1348) (by decide +kernel), by decide +kernel⟩
theorem tw_1349 : tb_in (.selects RX10 yX10_packed yX10_packed) := ⟨List.mem_of_getElem? (i := 1349) (by decide +kernel), by decide +kernel⟩
theorem tw_1351 : tb_in (.methodLink RL 105 yX10_covered) := ⟨List.mem_of_getElem? (i := 1351) (by decide +kernel), by decide +kernel⟩
theorem tw_1352 : tb_in (.instanceMethod yX10_covered) := ⟨List.mem_of_getElem? (i := 1352) (by decide +kernel), by decide +kernel⟩
theorem tw_1353 : tb_in (.selects RX10 yX10_covered yX10_covered) := ⟨List.mem_of_getElem? (i := 1353) (by decide +kernel), by decide +kernel⟩
theorem tw_1355 : tb_in (.methodLink RL 109 yX10_calm) := ⟨List.mem_of_getElem? (i := 1355) (by decide +kernel), by decide +kernel⟩
theorem tw_1356 : tb_in (.instanceMethod yX10_calm) := ⟨List.mem_of_getElem? (i := 1356) (by decide +kernel), by decide +kernel⟩
theorem tw_1357 : tb_in (.selects RX10 yX10_calm yX10_calm) := ⟨List.mem_of_getElem? (i := 1357) (by decide +kernel), by decide +kernel⟩
theorem tw_1359 : tb_in (.constantLong RX10 301 (100)) := ⟨List.mem_of_getElem? (i := 1359) (by decide +kernel), by decide +kernel⟩
theorem tw_1360 : tb_in (.constantLong RX10 303 (1000000000)) := ⟨List.mem_of_getElem? (i := 1360) (by decide +kernel), by decide +kernel⟩
theorem tw_1361 : tb_in (.methodLink RL 113 yX10_see) := ⟨List.mem_of_getElem? (i := 1361) (by decide +kernel), by decide +kernel⟩
theorem tw_1362 : tb_in (.instanceMethod yX10_see) := ⟨List.mem_of_getElem? (i := 1362) (by decide +kernel), by decide +kernel⟩
theorem tw_1363 : tb_in (.selects RX10 yX10_see yX10_see) := ⟨List.mem_of_getElem? (i := 1363) (by decide +kernel), by decide +kernel⟩
theorem tw_1365 : tb_in (.methodLink RL 117 yX10_spiller) := ⟨List.mem_of_getElem? (i := 1365) (by decide +kernel), by decide +kernel⟩
theorem tw_1366 : tb_in (.instanceMethod yX10_spiller) := ⟨List.mem_of_getElem? (i := 1366) (by decide +kernel), by decide +kernel⟩
theorem tw_1367 : tb_in (.selects RX10 yX10_spiller yX10_spiller) := ⟨List.mem_of_getElem? (i := 1367) (by decide +kernel), by decide +kernel⟩
theorem tw_1369 : tb_in (.methodLink RX10 308 yX10_spillers) := ⟨List.mem_of_getElem? (i := 1369) (by decide +kernel), by decide +kernel⟩
theorem tw_1371 : tb_in (.instanceMethod yX10_spillers) := ⟨List.mem_of_getElem? (i := 1371) (by decide +kernel), by decide +kernel⟩
theorem tw_1373 : tb_in (.methodLink RX10 305 yX10_comesTo) := ⟨List.mem_of_getElem? (i := 1373) (by decide +kernel), by decide +kernel⟩
theorem tw_1375 : tb_in (.instanceMethod yX10_comesTo) := ⟨List.mem_of_getElem? (i := 1375) (by decide +kernel), by decide +kernel⟩
theorem tw_1377 : tb_in (.methodLink RL 121 yX10_look) := ⟨List.mem_of_getElem? (i := 1377) (by decide +kernel), by decide +kernel⟩
theorem tw_1378 : tb_in (.instanceMethod yX10_look) := ⟨List.mem_of_getElem? (i := 1378) (by decide +kernel), by decide +kernel⟩
theorem tw_1379 : tb_in (.selects RX10 yX10_look yX10_look) := ⟨List.mem_of_getElem? (i := 1379) (by decide +kernel), by decide +kernel⟩
theorem tw_1381 : tb_in (.methodLink RL 125 yX10_write) := ⟨List.mem_of_getElem? (i := 1381) (by decide +kernel), by decide +kernel⟩
theorem tw_1382 : tb_in (.instanceMethod yX10_write) := ⟨List.mem_of_getElem? (i := 1382) (by decide +kernel), by decide +kernel⟩
theorem tw_1383 : tb_in (.selects RX10 yX10_write yX10_write) := ⟨List.mem_of_getElem? (i := 1383) (by decide +kernel), by decide +kernel⟩
theorem tw_1385 : tb_in (.methodLink RL 129 yX10_tear) := ⟨List.mem_of_getElem? (i := 1385) (by decide +kernel), by decide +kernel⟩
theorem tw_1386 : tb_in (.instanceMethod yX10_tear) := ⟨List.mem_of_getElem? (i := 1386) (by decide +kernel), by decide +kernel⟩
theorem tw_1387 : tb_in (.selects RX10 yX10_tear yX10_tear) := ⟨List.mem_of_getElem? (i := 1387) (by decide +kernel), by decide +kernel⟩
theorem tw_1389 : tb_in (.methodLink RL 133 yX10_judge) := ⟨List.mem_of_getElem? (i := 1389) (by decide +kernel), by decide +kernel⟩
theorem tw_1390 : tb_in (.instanceMethod yX10_judge) := ⟨List.mem_of_getElem? (i := 1390) (by decide +kernel), by decide +kernel⟩
theorem tw_1391 : tb_in (.selects RX10 yX10_judge yX10_judge) := ⟨List.mem_of_getElem? (i := 1391) (by decide +kernel), by decide +kernel⟩
theorem tw_1393 : tb_in (.methodLink RL 137 yX10_seed) := ⟨List.mem_of_getElem? (i := 1393) (by decide +kernel), by decide +kernel⟩
theorem tw_1394 : tb_in (.instanceMethod yX10_seed) := ⟨List.mem_of_getElem? (i := 1394) (by decide +kernel), by decide +kernel⟩
theorem tw_1395 : tb_in (.selects RX10 yX10_seed yX10_seed) := ⟨List.mem_of_getElem? (i := 1395) (by decide +kernel), by decide +kernel⟩
theorem tw_1397 : tb_in (.methodLink RL 141 yX10_keep) := ⟨List.mem_of_getElem? (i := 1397) (by decide +kernel), by decide +kernel⟩
theorem tw_1398 : tb_in (.instanceMethod yX10_keep) := ⟨List.mem_of_getElem? (i := 1398) (by decide +kernel), by decide +kernel⟩
theorem tw_1399 : tb_in (.selects RX10 yX10_keep yX10_keep) := ⟨List.mem_of_getElem? (i := 1399) (by decide +kernel), by decide +kernel⟩
theorem tw_1401 : tb_in (.methodLink RL 145 yX10_goBack) := ⟨List.mem_of_getElem? (i := 1401) (by decide +kernel), by decide +kernel⟩
theorem tw_1402 : tb_in (.instanceMethod yX10_goBack) := ⟨List.mem_of_getElem? (i := 1402) (by decide +kernel), by decide +kernel⟩
theorem tw_1403 : tb_in (.selects RX10 yX10_goBack yX10_goBack) := ⟨List.mem_of_getElem? (i := 1403) (by decide +kernel), by decide +kernel⟩
abbrev iX9_init : tp_I := (RX9, cX9_init, 5, none, true)
theorem tw_57 : tb_in (.code yX9_init cX9_init 5 none) := ⟨List.mem_of_getElem? (i := 57) (by decide +kernel), by decide +kernel⟩
theorem tw_60 : tb_in (.code Lib.objectInit ⟨#[0xb1]⟩ 1 none) := ⟨List.mem_of_getElem? (i := 60) (by decide +kernel), by decide +kernel⟩
abbrev iX5_init : tp_I := (RX5, cX5_init, 1, none, true)
theorem tw_65 : tb_in (.code yX5_init cX5_init 1 none) := ⟨List.mem_of_getElem? (i := 65) (by decide +kernel), by decide +kernel⟩
abbrev iX8_init : tp_I := (RX8, cX8_init, 2, none, true)
theorem tw_132 : tb_in (.code yX8_init cX8_init 2 none) := ⟨List.mem_of_getElem? (i := 132) (by decide +kernel), by decide +kernel⟩
abbrev iX2_init : tp_I := (RX2, cX2_init, 1, none, true)
theorem tw_164 : tb_in (.code yX2_init cX2_init 1 none) := ⟨List.mem_of_getElem? (i := 164) (by decide +kernel), by decide +kernel⟩
abbrev iX6_init : tp_I := (RX6, cX6_init, 1, none, true)
theorem tw_183 : tb_in (.code yX6_init cX6_init 1 none) := ⟨List.mem_of_getElem? (i := 183) (by decide +kernel), by decide +kernel⟩
abbrev iX4_init : tp_I := (RX4, cX4_init, 2, none, true)
theorem tw_217 : tb_in (.code yX4_init cX4_init 2 none) := ⟨List.mem_of_getElem? (i := 217) (by decide +kernel), by decide +kernel⟩
abbrev iX0_init : tp_I := (RX0, cX0_init, 3, none, true)
theorem tw_237 : tb_in (.code yX0_init cX0_init 3 none) := ⟨List.mem_of_getElem? (i := 237) (by decide +kernel), by decide +kernel⟩
abbrev iX1_init : tp_I := (RX1, cX1_init, 3, none, true)
theorem tw_257 : tb_in (.code yX1_init cX1_init 3 none) := ⟨List.mem_of_getElem? (i := 257) (by decide +kernel), by decide +kernel⟩
abbrev iX7_init : tp_I := (RX7, cX7_init, 3, none, true)
theorem tw_288 : tb_in (.code yX7_init cX7_init 3 none) := ⟨List.mem_of_getElem? (i := 288) (by decide +kernel), by decide +kernel⟩
abbrev iX3_init : tp_I := (RX3, cX3_init, 3, none, true)
theorem tw_313 : tb_in (.code yX3_init cX3_init 3 none) := ⟨List.mem_of_getElem? (i := 313) (by decide +kernel), by decide +kernel⟩
abbrev iX9_feed : tp_I := (RX9, cX9_feed, 2, (some .int), false)
theorem tw_377 : tb_in (.code yX9_feed cX9_feed 2 (some .int)) := ⟨List.mem_of_getElem? (i := 377) (by decide +kernel), by decide +kernel⟩
abbrev iX6_append : tp_I := (RX6, cX6_append, 2, (some .boolean), false)
theorem tw_382 : tb_in (.code yX6_append cX6_append 2 (some .boolean)) := ⟨List.mem_of_getElem? (i := 382) (by decide +kernel), by decide +kernel⟩
abbrev iX9_hotel : tp_I := (RX9, cX9_hotel, 3, (some .int), false)
theorem tw_387 : tb_in (.code yX9_hotel cX9_hotel 3 (some .int)) := ⟨List.mem_of_getElem? (i := 387) (by decide +kernel), by decide +kernel⟩
abbrev iX6_readAll : tp_I := (RX6, cX6_readAll, 2, (some .int), false)
theorem tw_391 : tb_in (.code yX6_readAll cX6_readAll 2 (some .int)) := ⟨List.mem_of_getElem? (i := 391) (by decide +kernel), by decide +kernel⟩
abbrev iX5_clear : tp_I := (RX5, cX5_clear, 2, none, false)
theorem tw_395 : tb_in (.code yX5_clear cX5_clear 2 none) := ⟨List.mem_of_getElem? (i := 395) (by decide +kernel), by decide +kernel⟩
abbrev iX6_skipBlanks : tp_I := (RX6, cX6_skipBlanks, 2, none, false)
theorem tw_399 : tb_in (.code yX6_skipBlanks cX6_skipBlanks 2 none) := ⟨List.mem_of_getElem? (i := 399) (by decide +kernel), by decide +kernel⟩
abbrev iX6_letterAt : tp_I := (RX6, cX6_letterAt, 2, (some .int), false)
theorem tw_403 : tb_in (.code yX6_letterAt cX6_letterAt 2 (some .int)) := ⟨List.mem_of_getElem? (i := 403) (by decide +kernel), by decide +kernel⟩
abbrev iX6_readClause : tp_I := (RX6, cX6_readClause, 5, none, false)
theorem tw_407 : tb_in (.code yX6_readClause cX6_readClause 5 none) := ⟨List.mem_of_getElem? (i := 407) (by decide +kernel), by decide +kernel⟩
abbrev iX6_faultOfWord : tp_I := (RX6, cX6_faultOfWord, 3, (some .int), false)
theorem tw_411 : tb_in (.code yX6_faultOfWord cX6_faultOfWord 3 (some .int)) := ⟨List.mem_of_getElem? (i := 411) (by decide +kernel), by decide +kernel⟩
abbrev iX5_isFull : tp_I := (RX5, cX5_isFull, 2, (some .boolean), false)
theorem tw_415 : tb_in (.code yX5_isFull cX5_isFull 2 (some .boolean)) := ⟨List.mem_of_getElem? (i := 415) (by decide +kernel), by decide +kernel⟩
abbrev iX6_blame : tp_I := (RX6, cX6_blame, 3, none, false)
theorem tw_419 : tb_in (.code yX6_blame cX6_blame 3 none) := ⟨List.mem_of_getElem? (i := 419) (by decide +kernel), by decide +kernel⟩
abbrev iX6_firstLeast : tp_I := (RX6, cX6_firstLeast, 2, (some .int), false)
theorem tw_423 : tb_in (.code yX6_firstLeast cX6_firstLeast 2 (some .int)) := ⟨List.mem_of_getElem? (i := 423) (by decide +kernel), by decide +kernel⟩
abbrev iX6_firstMost : tp_I := (RX6, cX6_firstMost, 2, (some .int), false)
theorem tw_427 : tb_in (.code yX6_firstMost cX6_firstMost 2 (some .int)) := ⟨List.mem_of_getElem? (i := 427) (by decide +kernel), by decide +kernel⟩
abbrev iX6_readNumber : tp_I := (RX6, cX6_readNumber, 5, (some .int), false)
theorem tw_431 : tb_in (.code yX6_readNumber cX6_readNumber 5 (some .int)) := ⟨List.mem_of_getElem? (i := 431) (by decide +kernel), by decide +kernel⟩
abbrev iX6_isFigure : tp_I := (RX6, cX6_isFigure, 1, (some .boolean), false)
theorem tw_434 : tb_in (.code yX6_isFigure cX6_isFigure 1 (some .boolean)) := ⟨List.mem_of_getElem? (i := 434) (by decide +kernel), by decide +kernel⟩
abbrev iX6_secondLeast : tp_I := (RX6, cX6_secondLeast, 2, (some .int), false)
theorem tw_438 : tb_in (.code yX6_secondLeast cX6_secondLeast 2 (some .int)) := ⟨List.mem_of_getElem? (i := 438) (by decide +kernel), by decide +kernel⟩
abbrev iX6_secondMost : tp_I := (RX6, cX6_secondMost, 2, (some .int), false)
theorem tw_442 : tb_in (.code yX6_secondMost cX6_secondMost 2 (some .int)) := ⟨List.mem_of_getElem? (i := 442) (by decide +kernel), by decide +kernel⟩
abbrev iX5_joinedTo : tp_I := (RX5, cX5_joinedTo, 2, (some .int), false)
theorem tw_446 : tb_in (.code yX5_joinedTo cX5_joinedTo 2 (some .int)) := ⟨List.mem_of_getElem? (i := 446) (by decide +kernel), by decide +kernel⟩
abbrev iX5_hasRoom : tp_I := (RX5, cX5_hasRoom, 2, (some .boolean), false)
theorem tw_450 : tb_in (.code yX5_hasRoom cX5_hasRoom 2 (some .boolean)) := ⟨List.mem_of_getElem? (i := 450) (by decide +kernel), by decide +kernel⟩
abbrev iX9_has : tp_I := (RX9, cX9_has, 2, (some .boolean), false)
theorem tw_453 : tb_in (.code yX9_has cX9_has 2 (some .boolean)) := ⟨List.mem_of_getElem? (i := 453) (by decide +kernel), by decide +kernel⟩
abbrev iX6_readEnd : tp_I := (RX6, cX6_readEnd, 1, none, false)
theorem tw_457 : tb_in (.code yX6_readEnd cX6_readEnd 1 none) := ⟨List.mem_of_getElem? (i := 457) (by decide +kernel), by decide +kernel⟩
abbrev iX5_add : tp_I := (RX5, cX5_add, 4, none, false)
theorem tw_461 : tb_in (.code yX5_add cX5_add 4 none) := ⟨List.mem_of_getElem? (i := 461) (by decide +kernel), by decide +kernel⟩
abbrev iX5_join : tp_I := (RX5, cX5_join, 3, none, false)
theorem tw_466 : tb_in (.code yX5_join cX5_join 3 none) := ⟨List.mem_of_getElem? (i := 466) (by decide +kernel), by decide +kernel⟩
abbrev iX5_become : tp_I := (RX5, cX5_become, 2, none, false)
theorem tw_470 : tb_in (.code yX5_become cX5_become 2 none) := ⟨List.mem_of_getElem? (i := 470) (by decide +kernel), by decide +kernel⟩
abbrev iX8_open : tp_I := (RX8, cX8_open, 3, none, false)
theorem tw_477 : tb_in (.code yX8_open cX8_open 3 none) := ⟨List.mem_of_getElem? (i := 477) (by decide +kernel), by decide +kernel⟩
abbrev iX4_forget : tp_I := (RX4, cX4_forget, 1, none, false)
theorem tw_481 : tb_in (.code yX4_forget cX4_forget 1 none) := ⟨List.mem_of_getElem? (i := 481) (by decide +kernel), by decide +kernel⟩
abbrev iX3_clear : tp_I := (RX3, cX3_clear, 1, none, false)
theorem tw_485 : tb_in (.code yX3_clear cX3_clear 1 none) := ⟨List.mem_of_getElem? (i := 485) (by decide +kernel), by decide +kernel⟩
abbrev iX9_fault : tp_I := (RX9, cX9_fault, 1, (some .int), false)
theorem tw_489 : tb_in (.code yX9_fault cX9_fault 1 (some .int)) := ⟨List.mem_of_getElem? (i := 489) (by decide +kernel), by decide +kernel⟩
abbrev iX9_told : tp_I := (RX9, cX9_told, 2, (some .int), false)
theorem tw_493 : tb_in (.code yX9_told cX9_told 2 (some .int)) := ⟨List.mem_of_getElem? (i := 493) (by decide +kernel), by decide +kernel⟩
abbrev iX8_thingsAt : tp_I := (RX8, cX8_thingsAt, 4, (some .int), false)
theorem tw_497 : tb_in (.code yX8_thingsAt cX8_thingsAt 4 (some .int)) := ⟨List.mem_of_getElem? (i := 497) (by decide +kernel), by decide +kernel⟩
abbrev iX5_worthOf : tp_I := (RX5, cX5_worthOf, 2, (some .int), false)
theorem tw_501 : tb_in (.code yX5_worthOf cX5_worthOf 2 (some .int)) := ⟨List.mem_of_getElem? (i := 501) (by decide +kernel), by decide +kernel⟩
abbrev iX5_sumOf : tp_I := (RX5, cX5_sumOf, 4, (some .int), false)
theorem tw_504 : tb_in (.code yX5_sumOf cX5_sumOf 4 (some .int)) := ⟨List.mem_of_getElem? (i := 504) (by decide +kernel), by decide +kernel⟩
abbrev iX9_room : tp_I := (RX9, cX9_room, 2, (some .int), false)
theorem tw_509 : tb_in (.code yX9_room cX9_room 2 (some .int)) := ⟨List.mem_of_getElem? (i := 509) (by decide +kernel), by decide +kernel⟩
abbrev iX9_waiter : tp_I := (RX9, cX9_waiter, 3, (some .int), false)
theorem tw_516 : tb_in (.code yX9_waiter cX9_waiter 3 (some .int)) := ⟨List.mem_of_getElem? (i := 516) (by decide +kernel), by decide +kernel⟩
abbrev iX5_hasWaiter : tp_I := (RX5, cX5_hasWaiter, 2, (some .boolean), false)
theorem tw_520 : tb_in (.code yX5_hasWaiter cX5_hasWaiter 2 (some .boolean)) := ⟨List.mem_of_getElem? (i := 520) (by decide +kernel), by decide +kernel⟩
abbrev iX8_roomOf : tp_I := (RX8, cX8_roomOf, 2, (some .int), false)
theorem tw_524 : tb_in (.code yX8_roomOf cX8_roomOf 2 (some .int)) := ⟨List.mem_of_getElem? (i := 524) (by decide +kernel), by decide +kernel⟩
abbrev iX8_isSeat : tp_I := (RX8, cX8_isSeat, 1, (some .boolean), false)
theorem tw_527 : tb_in (.code yX8_isSeat cX8_isSeat 1 (some .boolean)) := ⟨List.mem_of_getElem? (i := 527) (by decide +kernel), by decide +kernel⟩
abbrev iX9_sideOf : tp_I := (RX9, cX9_sideOf, 2, (some .int), false)
theorem tw_530 : tb_in (.code yX9_sideOf cX9_sideOf 2 (some .int)) := ⟨List.mem_of_getElem? (i := 530) (by decide +kernel), by decide +kernel⟩
abbrev iX8_thingsOf : tp_I := (RX8, cX8_thingsOf, 2, (some .int), false)
theorem tw_534 : tb_in (.code yX8_thingsOf cX8_thingsOf 2 (some .int)) := ⟨List.mem_of_getElem? (i := 534) (by decide +kernel), by decide +kernel⟩
abbrev iX5_weightOf : tp_I := (RX5, cX5_weightOf, 2, (some .int), false)
theorem tw_540 : tb_in (.code yX5_weightOf cX5_weightOf 2 (some .int)) := ⟨List.mem_of_getElem? (i := 540) (by decide +kernel), by decide +kernel⟩
abbrev iX0_slant : tp_I := (RX0, cX0_slant, 2, (some .int), false)
theorem tw_544 : tb_in (.code yX0_slant cX0_slant 2 (some .int)) := ⟨List.mem_of_getElem? (i := 544) (by decide +kernel), by decide +kernel⟩
abbrev iX5_difference : tp_I := (RX5, cX5_difference, 3, (some .int), false)
theorem tw_551 : tb_in (.code yX5_difference cX5_difference 3 (some .int)) := ⟨List.mem_of_getElem? (i := 551) (by decide +kernel), by decide +kernel⟩
theorem tw_555 : tb_in (.code Lib.Math.abs.name Lib.Math.abs.code 1 (some .int)) := ⟨List.mem_of_getElem? (i := 555) (by decide +kernel), by decide +kernel⟩
abbrev iX8_routeOf : tp_I := (RX8, cX8_routeOf, 2, (some .int), false)
theorem tw_559 : tb_in (.code yX8_routeOf cX8_routeOf 2 (some .int)) := ⟨List.mem_of_getElem? (i := 559) (by decide +kernel), by decide +kernel⟩
abbrev iX9_stepsOf : tp_I := (RX9, cX9_stepsOf, 3, (some .int), false)
theorem tw_562 : tb_in (.code yX9_stepsOf cX9_stepsOf 3 (some .int)) := ⟨List.mem_of_getElem? (i := 562) (by decide +kernel), by decide +kernel⟩
abbrev iX8_treatiesOf : tp_I := (RX8, cX8_treatiesOf, 2, (some .int), false)
theorem tw_566 : tb_in (.code yX8_treatiesOf cX8_treatiesOf 2 (some .int)) := ⟨List.mem_of_getElem? (i := 566) (by decide +kernel), by decide +kernel⟩
abbrev iX9_thing : tp_I := (RX9, cX9_thing, 3, (some .int), false)
theorem tw_570 : tb_in (.code yX9_thing cX9_thing 3 (some .int)) := ⟨List.mem_of_getElem? (i := 570) (by decide +kernel), by decide +kernel⟩
abbrev iX5_hasThing : tp_I := (RX5, cX5_hasThing, 2, (some .boolean), false)
theorem tw_574 : tb_in (.code yX5_hasThing cX5_hasThing 2 (some .boolean)) := ⟨List.mem_of_getElem? (i := 574) (by decide +kernel), by decide +kernel⟩
abbrev iX8_bearerOf : tp_I := (RX8, cX8_bearerOf, 3, (some .int), false)
theorem tw_578 : tb_in (.code yX8_bearerOf cX8_bearerOf 3 (some .int)) := ⟨List.mem_of_getElem? (i := 578) (by decide +kernel), by decide +kernel⟩
abbrev iX8_placeOf : tp_I := (RX8, cX8_placeOf, 2, (some .int), false)
theorem tw_582 : tb_in (.code yX8_placeOf cX8_placeOf 2 (some .int)) := ⟨List.mem_of_getElem? (i := 582) (by decide +kernel), by decide +kernel⟩
abbrev iX9_minute : tp_I := (RX9, cX9_minute, 4, (some .int), false)
theorem tw_586 : tb_in (.code yX9_minute cX9_minute 4 (some .int)) := ⟨List.mem_of_getElem? (i := 586) (by decide +kernel), by decide +kernel⟩
abbrev iX9_refusalOfMinutes : tp_I := (RX9, cX9_refusalOfMinutes, 2, (some .int), false)
theorem tw_590 : tb_in (.code yX9_refusalOfMinutes cX9_refusalOfMinutes 2 (some .int)) := ⟨List.mem_of_getElem? (i := 590) (by decide +kernel), by decide +kernel⟩
abbrev iX4_remember : tp_I := (RX4, cX4_remember, 2, none, false)
theorem tw_595 : tb_in (.code yX4_remember cX4_remember 2 none) := ⟨List.mem_of_getElem? (i := 595) (by decide +kernel), by decide +kernel⟩
abbrev iX8_become : tp_I := (RX8, cX8_become, 2, none, false)
theorem tw_599 : tb_in (.code yX8_become cX8_become 2 none) := ⟨List.mem_of_getElem? (i := 599) (by decide +kernel), by decide +kernel⟩
theorem tw_603 : tb_in (.code Lib.Math.min.name Lib.Math.min.code 2 (some .int)) := ⟨List.mem_of_getElem? (i := 603) (by decide +kernel), by decide +kernel⟩
abbrev iX0_tick : tp_I := (RX0, cX0_tick, 3, none, false)
theorem tw_607 : tb_in (.code yX0_tick cX0_tick 3 none) := ⟨List.mem_of_getElem? (i := 607) (by decide +kernel), by decide +kernel⟩
abbrev iX8_step : tp_I := (RX8, cX8_step, 2, none, false)
theorem tw_611 : tb_in (.code yX8_step cX8_step 2 none) := ⟨List.mem_of_getElem? (i := 611) (by decide +kernel), by decide +kernel⟩
abbrev iX0_countMeetings : tp_I := (RX0, cX0_countMeetings, 4, (some .int), false)
theorem tw_615 : tb_in (.code yX0_countMeetings cX0_countMeetings 4 (some .int)) := ⟨List.mem_of_getElem? (i := 615) (by decide +kernel), by decide +kernel⟩
abbrev iX0_haveMet : tp_I := (RX0, cX0_haveMet, 3, (some .boolean), false)
theorem tw_619 : tb_in (.code yX0_haveMet cX0_haveMet 3 (some .boolean)) := ⟨List.mem_of_getElem? (i := 619) (by decide +kernel), by decide +kernel⟩
abbrev iX5_hasTwoWaiters : tp_I := (RX5, cX5_hasTwoWaiters, 3, (some .boolean), false)
theorem tw_623 : tb_in (.code yX5_hasTwoWaiters cX5_hasTwoWaiters 3 (some .boolean)) := ⟨List.mem_of_getElem? (i := 623) (by decide +kernel), by decide +kernel⟩
abbrev iX0_meetBetween : tp_I := (RX0, cX0_meetBetween, 5, (some .boolean), false)
theorem tw_627 : tb_in (.code yX0_meetBetween cX0_meetBetween 5 (some .boolean)) := ⟨List.mem_of_getElem? (i := 627) (by decide +kernel), by decide +kernel⟩
abbrev iX5_heaviestOf : tp_I := (RX5, cX5_heaviestOf, 5, (some .int), false)
theorem tw_634 : tb_in (.code yX5_heaviestOf cX5_heaviestOf 5 (some .int)) := ⟨List.mem_of_getElem? (i := 634) (by decide +kernel), by decide +kernel⟩
abbrev iX8_put : tp_I := (RX8, cX8_put, 3, none, false)
theorem tw_638 : tb_in (.code yX8_put cX8_put 3 none) := ⟨List.mem_of_getElem? (i := 638) (by decide +kernel), by decide +kernel⟩
abbrev iX9_route : tp_I := (RX9, cX9_route, 4, (some .int), false)
theorem tw_642 : tb_in (.code yX9_route cX9_route 4 (some .int)) := ⟨List.mem_of_getElem? (i := 642) (by decide +kernel), by decide +kernel⟩
abbrev iX5_hasAllRooms : tp_I := (RX5, cX5_hasAllRooms, 4, (some .boolean), false)
theorem tw_647 : tb_in (.code yX5_hasAllRooms cX5_hasAllRooms 4 (some .boolean)) := ⟨List.mem_of_getElem? (i := 647) (by decide +kernel), by decide +kernel⟩
abbrev iX9_turnedRound : tp_I := (RX9, cX9_turnedRound, 4, (some .int), false)
theorem tw_650 : tb_in (.code yX9_turnedRound cX9_turnedRound 4 (some .int)) := ⟨List.mem_of_getElem? (i := 650) (by decide +kernel), by decide +kernel⟩
abbrev iX5_canBeGone : tp_I := (RX5, cX5_canBeGone, 7, (some .boolean), false)
theorem tw_654 : tb_in (.code yX5_canBeGone cX5_canBeGone 7 (some .boolean)) := ⟨List.mem_of_getElem? (i := 654) (by decide +kernel), by decide +kernel⟩
abbrev iX8_setRoute : tp_I := (RX8, cX8_setRoute, 3, none, false)
theorem tw_659 : tb_in (.code yX8_setRoute cX8_setRoute 3 none) := ⟨List.mem_of_getElem? (i := 659) (by decide +kernel), by decide +kernel⟩
abbrev iX9_lay : tp_I := (RX9, cX9_lay, 5, (some .int), false)
theorem tw_663 : tb_in (.code yX9_lay cX9_lay 5 (some .int)) := ⟨List.mem_of_getElem? (i := 663) (by decide +kernel), by decide +kernel⟩
abbrev iX8_isAtHand : tp_I := (RX8, cX8_isAtHand, 4, (some .boolean), false)
theorem tw_667 : tb_in (.code yX8_isAtHand cX8_isAtHand 4 (some .boolean)) := ⟨List.mem_of_getElem? (i := 667) (by decide +kernel), by decide +kernel⟩
abbrev iX9_takeOff : tp_I := (RX9, cX9_takeOff, 3, (some .int), false)
theorem tw_674 : tb_in (.code yX9_takeOff cX9_takeOff 3 (some .int)) := ⟨List.mem_of_getElem? (i := 674) (by decide +kernel), by decide +kernel⟩
abbrev iX9_treaty : tp_I := (RX9, cX9_treaty, 5, (some .int), false)
theorem tw_678 : tb_in (.code yX9_treaty cX9_treaty 5 (some .int)) := ⟨List.mem_of_getElem? (i := 678) (by decide +kernel), by decide +kernel⟩
abbrev iX8_setTreaty : tp_I := (RX8, cX8_setTreaty, 4, none, false)
theorem tw_684 : tb_in (.code yX8_setTreaty cX8_setTreaty 4 none) := ⟨List.mem_of_getElem? (i := 684) (by decide +kernel), by decide +kernel⟩
abbrev iX9_drift : tp_I := (RX9, cX9_drift, 4, (some .int), false)
theorem tw_688 : tb_in (.code yX9_drift cX9_drift 4 (some .int)) := ⟨List.mem_of_getElem? (i := 688) (by decide +kernel), by decide +kernel⟩
abbrev iX0_drawRoute : tp_I := (RX0, cX0_drawRoute, 3, none, false)
theorem tw_692 : tb_in (.code yX0_drawRoute cX0_drawRoute 3 none) := ⟨List.mem_of_getElem? (i := 692) (by decide +kernel), by decide +kernel⟩
abbrev iX0_draw : tp_I := (RX0, cX0_draw, 2, (some .int), false)
theorem tw_696 : tb_in (.code yX0_draw cX0_draw 2 (some .int)) := ⟨List.mem_of_getElem? (i := 696) (by decide +kernel), by decide +kernel⟩
abbrev iJ6_bitCount_0f7a4 : tp_I := (RJ6, cJ6_bitCount_0f7a4, 1, (some .int), false)
theorem tw_706 : tb_in (.code yJ6_bitCount_0f7a4 cJ6_bitCount_0f7a4 1 (some .int)) := ⟨List.mem_of_getElem? (i := 706) (by decide +kernel), by decide +kernel⟩
abbrev iX0_memberOf : tp_I := (RX0, cX0_memberOf, 4, (some .int), false)
theorem tw_712 : tb_in (.code yX0_memberOf cX0_memberOf 4 (some .int)) := ⟨List.mem_of_getElem? (i := 712) (by decide +kernel), by decide +kernel⟩
abbrev iX9_undo : tp_I := (RX9, cX9_undo, 1, (some .int), false)
theorem tw_717 : tb_in (.code yX9_undo cX9_undo 1 (some .int)) := ⟨List.mem_of_getElem? (i := 717) (by decide +kernel), by decide +kernel⟩
abbrev iX4_bringBack : tp_I := (RX4, cX4_bringBack, 3, (some .boolean), false)
theorem tw_721 : tb_in (.code yX4_bringBack cX4_bringBack 3 (some .boolean)) := ⟨List.mem_of_getElem? (i := 721) (by decide +kernel), by decide +kernel⟩
abbrev iX9_where : tp_I := (RX9, cX9_where, 3, (some .int), false)
theorem tw_725 : tb_in (.code yX9_where cX9_where 3 (some .int)) := ⟨List.mem_of_getElem? (i := 725) (by decide +kernel), by decide +kernel⟩
abbrev iX9_isForeseen : tp_I := (RX9, cX9_isForeseen, 2, (some .boolean), false)
theorem tw_728 : tb_in (.code yX9_isForeseen cX9_isForeseen 2 (some .boolean)) := ⟨List.mem_of_getElem? (i := 728) (by decide +kernel), by decide +kernel⟩
abbrev iX8_roomAfter : tp_I := (RX8, cX8_roomAfter, 6, (some .int), false)
theorem tw_732 : tb_in (.code yX8_roomAfter cX8_roomAfter 6 (some .int)) := ⟨List.mem_of_getElem? (i := 732) (by decide +kernel), by decide +kernel⟩
abbrev iX9_meets : tp_I := (RX9, cX9_meets, 3, (some .int), false)
theorem tw_737 : tb_in (.code yX9_meets cX9_meets 3 (some .int)) := ⟨List.mem_of_getElem? (i := 737) (by decide +kernel), by decide +kernel⟩
abbrev iX1_firstMeeting : tp_I := (RX1, cX1_firstMeeting, 3, (some .int), false)
theorem tw_741 : tb_in (.code yX1_firstMeeting cX1_firstMeeting 3 (some .int)) := ⟨List.mem_of_getElem? (i := 741) (by decide +kernel), by decide +kernel⟩
abbrev iX1_layTracks : tp_I := (RX1, cX1_layTracks, 3, none, false)
theorem tw_745 : tb_in (.code yX1_layTracks cX1_layTracks 3 none) := ⟨List.mem_of_getElem? (i := 745) (by decide +kernel), by decide +kernel⟩
abbrev iX1_meetingOf : tp_I := (RX1, cX1_meetingOf, 8, (some .int), false)
theorem tw_752 : tb_in (.code yX1_meetingOf cX1_meetingOf 8 (some .int)) := ⟨List.mem_of_getElem? (i := 752) (by decide +kernel), by decide +kernel⟩
abbrev iX1_trackAt : tp_I := (RX1, cX1_trackAt, 3, (some .int), false)
theorem tw_756 : tb_in (.code yX1_trackAt cX1_trackAt 3 (some .int)) := ⟨List.mem_of_getElem? (i := 756) (by decide +kernel), by decide +kernel⟩
theorem tw_760 : tb_in (.code Lib.Math.max.name Lib.Math.max.code 2 (some .int)) := ⟨List.mem_of_getElem? (i := 760) (by decide +kernel), by decide +kernel⟩
abbrev iX9_way : tp_I := (RX9, cX9_way, 4, (some .int), false)
theorem tw_765 : tb_in (.code yX9_way cX9_way 4 (some .int)) := ⟨List.mem_of_getElem? (i := 765) (by decide +kernel), by decide +kernel⟩
abbrev iX5_distance : tp_I := (RX5, cX5_distance, 5, (some .int), false)
theorem tw_769 : tb_in (.code yX5_distance cX5_distance 5 (some .int)) := ⟨List.mem_of_getElem? (i := 769) (by decide +kernel), by decide +kernel⟩
abbrev iX5_joinedToAny : tp_I := (RX5, cX5_joinedToAny, 4, (some .int), false)
theorem tw_773 : tb_in (.code yX5_joinedToAny cX5_joinedToAny 4 (some .int)) := ⟨List.mem_of_getElem? (i := 773) (by decide +kernel), by decide +kernel⟩
abbrev iX5_nextTowards : tp_I := (RX5, cX5_nextTowards, 5, (some .int), false)
theorem tw_777 : tb_in (.code yX5_nextTowards cX5_nextTowards 5 (some .int)) := ⟨List.mem_of_getElem? (i := 777) (by decide +kernel), by decide +kernel⟩
abbrev iX9_delays : tp_I := (RX9, cX9_delays, 2, (some .int), false)
theorem tw_782 : tb_in (.code yX9_delays cX9_delays 2 (some .int)) := ⟨List.mem_of_getElem? (i := 782) (by decide +kernel), by decide +kernel⟩
abbrev iX1_seek : tp_I := (RX1, cX1_seek, 4, none, false)
theorem tw_786 : tb_in (.code yX1_seek cX1_seek 4 none) := ⟨List.mem_of_getElem? (i := 786) (by decide +kernel), by decide +kernel⟩
abbrev iX1_markClashes : tp_I := (RX1, cX1_markClashes, 3, none, false)
theorem tw_790 : tb_in (.code yX1_markClashes cX1_markClashes 3 none) := ⟨List.mem_of_getElem? (i := 790) (by decide +kernel), by decide +kernel⟩
abbrev iX1_setClashes : tp_I := (RX1, cX1_setClashes, 5, none, false)
theorem tw_794 : tb_in (.code yX1_setClashes cX1_setClashes 5 none) := ⟨List.mem_of_getElem? (i := 794) (by decide +kernel), by decide +kernel⟩
abbrev iX9_power : tp_I := (RX9, cX9_power, 4, (some .int), false)
theorem tw_798 : tb_in (.code yX9_power cX9_power 4 (some .int)) := ⟨List.mem_of_getElem? (i := 798) (by decide +kernel), by decide +kernel⟩
abbrev iX9_spell : tp_I := (RX9, cX9_spell, 6, none, false)
theorem tw_801 : tb_in (.code yX9_spell cX9_spell 6 none) := ⟨List.mem_of_getElem? (i := 801) (by decide +kernel), by decide +kernel⟩
abbrev iX1_endOfAll : tp_I := (RX1, cX1_endOfAll, 3, (some .int), false)
theorem tw_806 : tb_in (.code yX1_endOfAll cX1_endOfAll 3 (some .int)) := ⟨List.mem_of_getElem? (i := 806) (by decide +kernel), by decide +kernel⟩
abbrev iX1_haveClash : tp_I := (RX1, cX1_haveClash, 3, (some .boolean), false)
theorem tw_810 : tb_in (.code yX1_haveClash cX1_haveClash 3 (some .boolean)) := ⟨List.mem_of_getElem? (i := 810) (by decide +kernel), by decide +kernel⟩
abbrev iX1_answer : tp_I := (RX1, cX1_answer, 2, (some .int), false)
theorem tw_816 : tb_in (.code yX1_answer cX1_answer 2 (some .int)) := ⟨List.mem_of_getElem? (i := 816) (by decide +kernel), by decide +kernel⟩
abbrev iX9_served : tp_I := (RX9, cX9_served, 2, (some .int), false)
theorem tw_821 : tb_in (.code yX9_served cX9_served 2 (some .int)) := ⟨List.mem_of_getElem? (i := 821) (by decide +kernel), by decide +kernel⟩
abbrev iX5_hasOrder : tp_I := (RX5, cX5_hasOrder, 2, (some .boolean), false)
theorem tw_825 : tb_in (.code yX5_hasOrder cX5_hasOrder 2 (some .boolean)) := ⟨List.mem_of_getElem? (i := 825) (by decide +kernel), by decide +kernel⟩
abbrev iX7_seek : tp_I := (RX7, cX7_seek, 5, none, false)
theorem tw_829 : tb_in (.code yX7_seek cX7_seek 5 none) := ⟨List.mem_of_getElem? (i := 829) (by decide +kernel), by decide +kernel⟩
abbrev iX7_markInTime : tp_I := (RX7, cX7_markInTime, 4, none, false)
theorem tw_833 : tb_in (.code yX7_markInTime cX7_markInTime 4 none) := ⟨List.mem_of_getElem? (i := 833) (by decide +kernel), by decide +kernel⟩
abbrev iX7_ordersTaken : tp_I := (RX7, cX7_ordersTaken, 5, (some .int), false)
theorem tw_841 : tb_in (.code yX7_ordersTaken cX7_ordersTaken 5 (some .int)) := ⟨List.mem_of_getElem? (i := 841) (by decide +kernel), by decide +kernel⟩
abbrev iX7_answer : tp_I := (RX7, cX7_answer, 2, (some .int), false)
theorem tw_847 : tb_in (.code yX7_answer cX7_answer 2 (some .int)) := ⟨List.mem_of_getElem? (i := 847) (by decide +kernel), by decide +kernel⟩
abbrev iX9_evened : tp_I := (RX9, cX9_evened, 4, (some .int), false)
theorem tw_854 : tb_in (.code yX9_evened cX9_evened 4 (some .int)) := ⟨List.mem_of_getElem? (i := 854) (by decide +kernel), by decide +kernel⟩
abbrev iX5_evenestLeft : tp_I := (RX5, cX5_evenestLeft, 6, (some .int), false)
theorem tw_858 : tb_in (.code yX5_evenestLeft cX5_evenestLeft 6 (some .int)) := ⟨List.mem_of_getElem? (i := 858) (by decide +kernel), by decide +kernel⟩
abbrev iX9_packed : tp_I := (RX9, cX9_packed, 5, (some .int), false)
theorem tw_864 : tb_in (.code yX9_packed cX9_packed 5 (some .int)) := ⟨List.mem_of_getElem? (i := 864) (by decide +kernel), by decide +kernel⟩
abbrev iX5_worthiest : tp_I := (RX5, cX5_worthiest, 7, (some .int), false)
theorem tw_868 : tb_in (.code yX5_worthiest cX5_worthiest 7 (some .int)) := ⟨List.mem_of_getElem? (i := 868) (by decide +kernel), by decide +kernel⟩
abbrev iX9_covered : tp_I := (RX9, cX9_covered, 5, (some .int), false)
theorem tw_873 : tb_in (.code yX9_covered cX9_covered 5 (some .int)) := ⟨List.mem_of_getElem? (i := 873) (by decide +kernel), by decide +kernel⟩
abbrev iX9_calm : tp_I := (RX9, cX9_calm, 6, (some .int), false)
theorem tw_878 : tb_in (.code yX9_calm cX9_calm 6 (some .int)) := ⟨List.mem_of_getElem? (i := 878) (by decide +kernel), by decide +kernel⟩
abbrev iX9_see : tp_I := (RX9, cX9_see, 4, (some .int), false)
theorem tw_884 : tb_in (.code yX9_see cX9_see 4 (some .int)) := ⟨List.mem_of_getElem? (i := 884) (by decide +kernel), by decide +kernel⟩
abbrev iX3_addSight : tp_I := (RX3, cX3_addSight, 4, (some .boolean), false)
theorem tw_888 : tb_in (.code yX3_addSight cX3_addSight 4 (some .boolean)) := ⟨List.mem_of_getElem? (i := 888) (by decide +kernel), by decide +kernel⟩
abbrev iX9_spiller : tp_I := (RX9, cX9_spiller, 1, (some .int), false)
theorem tw_892 : tb_in (.code yX9_spiller cX9_spiller 1 (some .int)) := ⟨List.mem_of_getElem? (i := 892) (by decide +kernel), by decide +kernel⟩
abbrev iX3_suspects : tp_I := (RX3, cX3_suspects, 3, (some .int), false)
theorem tw_896 : tb_in (.code yX3_suspects cX3_suspects 3 (some .int)) := ⟨List.mem_of_getElem? (i := 896) (by decide +kernel), by decide +kernel⟩
abbrev iX3_fitsAllSeen : tp_I := (RX3, cX3_fitsAllSeen, 3, (some .boolean), false)
theorem tw_900 : tb_in (.code yX3_fitsAllSeen cX3_fitsAllSeen 3 (some .boolean)) := ⟨List.mem_of_getElem? (i := 900) (by decide +kernel), by decide +kernel⟩
abbrev iX8_roomsCameTo : tp_I := (RX8, cX8_roomsCameTo, 6, (some .int), false)
theorem tw_904 : tb_in (.code yX8_roomsCameTo cX8_roomsCameTo 6 (some .int)) := ⟨List.mem_of_getElem? (i := 904) (by decide +kernel), by decide +kernel⟩
abbrev iX9_look : tp_I := (RX9, cX9_look, 1, (some .int), false)
theorem tw_909 : tb_in (.code yX9_look cX9_look 1 (some .int)) := ⟨List.mem_of_getElem? (i := 909) (by decide +kernel), by decide +kernel⟩
abbrev iX3_bestRoom : tp_I := (RX3, cX3_bestRoom, 8, (some .int), false)
theorem tw_913 : tb_in (.code yX3_bestRoom cX3_bestRoom 8 (some .int)) := ⟨List.mem_of_getElem? (i := 913) (by decide +kernel), by decide +kernel⟩
abbrev iX3_countComingTo : tp_I := (RX3, cX3_countComingTo, 5, (some .int), false)
theorem tw_919 : tb_in (.code yX3_countComingTo cX3_countComingTo 5 (some .int)) := ⟨List.mem_of_getElem? (i := 919) (by decide +kernel), by decide +kernel⟩
abbrev iX9_write : tp_I := (RX9, cX9_write, 3, (some .int), false)
theorem tw_924 : tb_in (.code yX9_write cX9_write 3 (some .int)) := ⟨List.mem_of_getElem? (i := 924) (by decide +kernel), by decide +kernel⟩
abbrev iX3_addEntry : tp_I := (RX3, cX3_addEntry, 3, (some .boolean), false)
theorem tw_928 : tb_in (.code yX3_addEntry cX3_addEntry 3 (some .boolean)) := ⟨List.mem_of_getElem? (i := 928) (by decide +kernel), by decide +kernel⟩
abbrev iX9_tear : tp_I := (RX9, cX9_tear, 2, (some .int), false)
theorem tw_932 : tb_in (.code yX9_tear cX9_tear 2 (some .int)) := ⟨List.mem_of_getElem? (i := 932) (by decide +kernel), by decide +kernel⟩
abbrev iX9_judge : tp_I := (RX9, cX9_judge, 1, (some .int), false)
theorem tw_936 : tb_in (.code yX9_judge cX9_judge 1 (some .int)) := ⟨List.mem_of_getElem? (i := 936) (by decide +kernel), by decide +kernel⟩
abbrev iX3_firstWrong : tp_I := (RX3, cX3_firstWrong, 2, (some .int), false)
theorem tw_940 : tb_in (.code yX3_firstWrong cX3_firstWrong 2 (some .int)) := ⟨List.mem_of_getElem? (i := 940) (by decide +kernel), by decide +kernel⟩
abbrev iX9_seed : tp_I := (RX9, cX9_seed, 3, (some .int), false)
theorem tw_945 : tb_in (.code yX9_seed cX9_seed 3 (some .int)) := ⟨List.mem_of_getElem? (i := 945) (by decide +kernel), by decide +kernel⟩
abbrev iX9_keep : tp_I := (RX9, cX9_keep, 3, (some .int), false)
theorem tw_949 : tb_in (.code yX9_keep cX9_keep 3 (some .int)) := ⟨List.mem_of_getElem? (i := 949) (by decide +kernel), by decide +kernel⟩
abbrev iX9_goBack : tp_I := (RX9, cX9_goBack, 3, (some .int), false)
theorem tw_954 : tb_in (.code yX9_goBack cX9_goBack 3 (some .int)) := ⟨List.mem_of_getElem? (i := 954) (by decide +kernel), by decide +kernel⟩
abbrev iX10_init : tp_I := (RX10, cX10_init, 1, none, true)
theorem tw_959 : tb_in (.code yX10_init cX10_init 1 none) := ⟨List.mem_of_getElem? (i := 959) (by decide +kernel), by decide +kernel⟩
abbrev iX10_feed : tp_I := (RX10, cX10_feed, 2, (some .int), false)
theorem tw_1103 : tb_in (.code yX10_feed cX10_feed 2 (some .int)) := ⟨List.mem_of_getElem? (i := 1103) (by decide +kernel), by decide +kernel⟩
abbrev iX10_in : tp_I := (RX10, cX10_in, 6, (some .boolean), false)
theorem tw_1107 : tb_in (.code yX10_in cX10_in 6 (some .boolean)) := ⟨List.mem_of_getElem? (i := 1107) (by decide +kernel), by decide +kernel⟩
abbrev iX10_hotel : tp_I := (RX10, cX10_hotel, 4, (some .int), false)
theorem tw_1113 : tb_in (.code yX10_hotel cX10_hotel 4 (some .int)) := ⟨List.mem_of_getElem? (i := 1113) (by decide +kernel), by decide +kernel⟩
abbrev iX10_here : tp_I := (RX10, cX10_here, 1, (some .int), false)
theorem tw_1117 : tb_in (.code yX10_here cX10_here 1 (some .int)) := ⟨List.mem_of_getElem? (i := 1117) (by decide +kernel), by decide +kernel⟩
abbrev iX10_letterAt : tp_I := (RX10, cX10_letterAt, 2, (some .int), false)
theorem tw_1121 : tb_in (.code yX10_letterAt cX10_letterAt 2 (some .int)) := ⟨List.mem_of_getElem? (i := 1121) (by decide +kernel), by decide +kernel⟩
abbrev iX10_takesClause : tp_I := (RX10, cX10_takesClause, 4, (some .boolean), false)
theorem tw_1125 : tb_in (.code yX10_takesClause cX10_takesClause 4 (some .boolean)) := ⟨List.mem_of_getElem? (i := 1125) (by decide +kernel), by decide +kernel⟩
abbrev iX10_fails : tp_I := (RX10, cX10_fails, 3, (some .boolean), false)
theorem tw_1129 : tb_in (.code yX10_fails cX10_fails 3 (some .boolean)) := ⟨List.mem_of_getElem? (i := 1129) (by decide +kernel), by decide +kernel⟩
abbrev iX10_takesWords : tp_I := (RX10, cX10_takesWords, 2, (some .boolean), false)
theorem tw_1133 : tb_in (.code yX10_takesWords cX10_takesWords 2 (some .boolean)) := ⟨List.mem_of_getElem? (i := 1133) (by decide +kernel), by decide +kernel⟩
abbrev iX10_takesHotel : tp_I := (RX10, cX10_takesHotel, 1, (some .boolean), false)
theorem tw_1137 : tb_in (.code yX10_takesHotel cX10_takesHotel 1 (some .boolean)) := ⟨List.mem_of_getElem? (i := 1137) (by decide +kernel), by decide +kernel⟩
abbrev iX10_takesNumber : tp_I := (RX10, cX10_takesNumber, 3, (some .boolean), false)
theorem tw_1141 : tb_in (.code yX10_takesNumber cX10_takesNumber 3 (some .boolean)) := ⟨List.mem_of_getElem? (i := 1141) (by decide +kernel), by decide +kernel⟩
abbrev iX10_takesPassage : tp_I := (RX10, cX10_takesPassage, 2, (some .boolean), false)
theorem tw_1147 : tb_in (.code yX10_takesPassage cX10_takesPassage 2 (some .boolean)) := ⟨List.mem_of_getElem? (i := 1147) (by decide +kernel), by decide +kernel⟩
abbrev iX10_has : tp_I := (RX10, cX10_has, 2, (some .boolean), false)
theorem tw_1150 : tb_in (.code yX10_has cX10_has 2 (some .boolean)) := ⟨List.mem_of_getElem? (i := 1150) (by decide +kernel), by decide +kernel⟩
abbrev iX10_takesWaiter : tp_I := (RX10, cX10_takesWaiter, 1, (some .boolean), false)
theorem tw_1154 : tb_in (.code yX10_takesWaiter cX10_takesWaiter 1 (some .boolean)) := ⟨List.mem_of_getElem? (i := 1154) (by decide +kernel), by decide +kernel⟩
abbrev iX10_takesThing : tp_I := (RX10, cX10_takesThing, 1, (some .boolean), false)
theorem tw_1158 : tb_in (.code yX10_takesThing cX10_takesThing 1 (some .boolean)) := ⟨List.mem_of_getElem? (i := 1158) (by decide +kernel), by decide +kernel⟩
abbrev iX10_takesOrder : tp_I := (RX10, cX10_takesOrder, 1, (some .boolean), false)
theorem tw_1162 : tb_in (.code yX10_takesOrder cX10_takesOrder 1 (some .boolean)) := ⟨List.mem_of_getElem? (i := 1162) (by decide +kernel), by decide +kernel⟩
abbrev iX10_takes : tp_I := (RX10, cX10_takes, 2, (some .boolean), false)
theorem tw_1166 : tb_in (.code yX10_takes cX10_takes 2 (some .boolean)) := ⟨List.mem_of_getElem? (i := 1166) (by decide +kernel), by decide +kernel⟩
abbrev iX10_fault : tp_I := (RX10, cX10_fault, 1, (some .int), false)
theorem tw_1170 : tb_in (.code yX10_fault cX10_fault 1 (some .int)) := ⟨List.mem_of_getElem? (i := 1170) (by decide +kernel), by decide +kernel⟩
abbrev iX10_told : tp_I := (RX10, cX10_told, 2, (some .int), false)
theorem tw_1174 : tb_in (.code yX10_told cX10_told 2 (some .int)) := ⟨List.mem_of_getElem? (i := 1174) (by decide +kernel), by decide +kernel⟩
abbrev iX10_thingsAt : tp_I := (RX10, cX10_thingsAt, 5, (some .int), false)
theorem tw_1178 : tb_in (.code yX10_thingsAt cX10_thingsAt 5 (some .int)) := ⟨List.mem_of_getElem? (i := 1178) (by decide +kernel), by decide +kernel⟩
abbrev iX10_worthOf : tp_I := (RX10, cX10_worthOf, 4, (some .int), false)
theorem tw_1182 : tb_in (.code yX10_worthOf cX10_worthOf 4 (some .int)) := ⟨List.mem_of_getElem? (i := 1182) (by decide +kernel), by decide +kernel⟩
abbrev iX10_room : tp_I := (RX10, cX10_room, 2, (some .int), false)
theorem tw_1186 : tb_in (.code yX10_room cX10_room 2 (some .int)) := ⟨List.mem_of_getElem? (i := 1186) (by decide +kernel), by decide +kernel⟩
abbrev iX10_isRoom : tp_I := (RX10, cX10_isRoom, 2, (some .boolean), false)
theorem tw_1190 : tb_in (.code yX10_isRoom cX10_isRoom 2 (some .boolean)) := ⟨List.mem_of_getElem? (i := 1190) (by decide +kernel), by decide +kernel⟩
abbrev iX10_waiter : tp_I := (RX10, cX10_waiter, 3, (some .int), false)
theorem tw_1195 : tb_in (.code yX10_waiter cX10_waiter 3 (some .int)) := ⟨List.mem_of_getElem? (i := 1195) (by decide +kernel), by decide +kernel⟩
abbrev iX10_isWaiter : tp_I := (RX10, cX10_isWaiter, 2, (some .boolean), false)
theorem tw_1199 : tb_in (.code yX10_isWaiter cX10_isWaiter 2 (some .boolean)) := ⟨List.mem_of_getElem? (i := 1199) (by decide +kernel), by decide +kernel⟩
abbrev iX10_onTray : tp_I := (RX10, cX10_onTray, 3, (some .int), false)
theorem tw_1203 : tb_in (.code yX10_onTray cX10_onTray 3 (some .int)) := ⟨List.mem_of_getElem? (i := 1203) (by decide +kernel), by decide +kernel⟩
abbrev iX10_weightOf : tp_I := (RX10, cX10_weightOf, 4, (some .int), false)
theorem tw_1207 : tb_in (.code yX10_weightOf cX10_weightOf 4 (some .int)) := ⟨List.mem_of_getElem? (i := 1207) (by decide +kernel), by decide +kernel⟩
abbrev iX10_differs : tp_I := (RX10, cX10_differs, 4, (some .int), false)
theorem tw_1211 : tb_in (.code yX10_differs cX10_differs 4 (some .int)) := ⟨List.mem_of_getElem? (i := 1211) (by decide +kernel), by decide +kernel⟩
abbrev iX10_thing : tp_I := (RX10, cX10_thing, 3, (some .int), false)
theorem tw_1215 : tb_in (.code yX10_thing cX10_thing 3 (some .int)) := ⟨List.mem_of_getElem? (i := 1215) (by decide +kernel), by decide +kernel⟩
abbrev iX10_isThing : tp_I := (RX10, cX10_isThing, 2, (some .boolean), false)
theorem tw_1219 : tb_in (.code yX10_isThing cX10_isThing 2 (some .boolean)) := ⟨List.mem_of_getElem? (i := 1219) (by decide +kernel), by decide +kernel⟩
abbrev iX10_whose : tp_I := (RX10, cX10_whose, 2, (some .int), false)
theorem tw_1223 : tb_in (.code yX10_whose cX10_whose 2 (some .int)) := ⟨List.mem_of_getElem? (i := 1223) (by decide +kernel), by decide +kernel⟩
abbrev iX10_undo : tp_I := (RX10, cX10_undo, 2, (some .int), false)
theorem tw_1227 : tb_in (.code yX10_undo cX10_undo 2 (some .int)) := ⟨List.mem_of_getElem? (i := 1227) (by decide +kernel), by decide +kernel⟩
abbrev iX10_copy : tp_I := (RX10, cX10_copy, 4, none, false)
theorem tw_1232 : tb_in (.code yX10_copy cX10_copy 4 none) := ⟨List.mem_of_getElem? (i := 1232) (by decide +kernel), by decide +kernel⟩
abbrev iX10_minute : tp_I := (RX10, cX10_minute, 3, (some .int), false)
theorem tw_1236 : tb_in (.code yX10_minute cX10_minute 3 (some .int)) := ⟨List.mem_of_getElem? (i := 1236) (by decide +kernel), by decide +kernel⟩
abbrev iX10_minds : tp_I := (RX10, cX10_minds, 2, none, false)
theorem tw_1241 : tb_in (.code yX10_minds cX10_minds 2 none) := ⟨List.mem_of_getElem? (i := 1241) (by decide +kernel), by decide +kernel⟩
abbrev iX10_passes : tp_I := (RX10, cX10_passes, 6, none, false)
theorem tw_1245 : tb_in (.code yX10_passes cX10_passes 6 none) := ⟨List.mem_of_getElem? (i := 1245) (by decide +kernel), by decide +kernel⟩
abbrev iX10_walks : tp_I := (RX10, cX10_walks, 4, none, false)
theorem tw_1249 : tb_in (.code yX10_walks cX10_walks 4 none) := ⟨List.mem_of_getElem? (i := 1249) (by decide +kernel), by decide +kernel⟩
abbrev iX10_haveMet : tp_I := (RX10, cX10_haveMet, 6, (some .boolean), false)
theorem tw_1253 : tb_in (.code yX10_haveMet cX10_haveMet 6 (some .boolean)) := ⟨List.mem_of_getElem? (i := 1253) (by decide +kernel), by decide +kernel⟩
abbrev iX10_spills : tp_I := (RX10, cX10_spills, 6, none, false)
theorem tw_1257 : tb_in (.code yX10_spills cX10_spills 6 none) := ⟨List.mem_of_getElem? (i := 1257) (by decide +kernel), by decide +kernel⟩
abbrev iX10_route : tp_I := (RX10, cX10_route, 7, (some .int), false)
theorem tw_1261 : tb_in (.code yX10_route cX10_route 7 (some .int)) := ⟨List.mem_of_getElem? (i := 1261) (by decide +kernel), by decide +kernel⟩
abbrev iX10_lay : tp_I := (RX10, cX10_lay, 7, (some .int), false)
theorem tw_1266 : tb_in (.code yX10_lay cX10_lay 7 (some .int)) := ⟨List.mem_of_getElem? (i := 1266) (by decide +kernel), by decide +kernel⟩
abbrev iX10_takeOff : tp_I := (RX10, cX10_takeOff, 3, (some .int), false)
theorem tw_1270 : tb_in (.code yX10_takeOff cX10_takeOff 3 (some .int)) := ⟨List.mem_of_getElem? (i := 1270) (by decide +kernel), by decide +kernel⟩
abbrev iX10_treaty : tp_I := (RX10, cX10_treaty, 5, (some .int), false)
theorem tw_1274 : tb_in (.code yX10_treaty cX10_treaty 5 (some .int)) := ⟨List.mem_of_getElem? (i := 1274) (by decide +kernel), by decide +kernel⟩
abbrev iX10_areTwo : tp_I := (RX10, cX10_areTwo, 3, (some .boolean), false)
theorem tw_1278 : tb_in (.code yX10_areTwo cX10_areTwo 3 (some .boolean)) := ⟨List.mem_of_getElem? (i := 1278) (by decide +kernel), by decide +kernel⟩
abbrev iX10_drift : tp_I := (RX10, cX10_drift, 5, (some .int), false)
theorem tw_1282 : tb_in (.code yX10_drift cX10_drift 5 (some .int)) := ⟨List.mem_of_getElem? (i := 1282) (by decide +kernel), by decide +kernel⟩
abbrev iX10_draw : tp_I := (RX10, cX10_draw, 2, (some .int), false)
theorem tw_1286 : tb_in (.code yX10_draw cX10_draw 2 (some .int)) := ⟨List.mem_of_getElem? (i := 1286) (by decide +kernel), by decide +kernel⟩
abbrev iX10_ones : tp_I := (RX10, cX10_ones, 3, (some .int), false)
theorem tw_1293 : tb_in (.code yX10_ones cX10_ones 3 (some .int)) := ⟨List.mem_of_getElem? (i := 1293) (by decide +kernel), by decide +kernel⟩
abbrev iX10_nth : tp_I := (RX10, cX10_nth, 4, (some .int), false)
theorem tw_1296 : tb_in (.code yX10_nth cX10_nth 4 (some .int)) := ⟨List.mem_of_getElem? (i := 1296) (by decide +kernel), by decide +kernel⟩
abbrev iX10_where : tp_I := (RX10, cX10_where, 4, (some .int), false)
theorem tw_1300 : tb_in (.code yX10_where cX10_where 4 (some .int)) := ⟨List.mem_of_getElem? (i := 1300) (by decide +kernel), by decide +kernel⟩
abbrev iX10_tries : tp_I := (RX10, cX10_tries, 1, none, false)
theorem tw_1305 : tb_in (.code yX10_tries cX10_tries 1 none) := ⟨List.mem_of_getElem? (i := 1305) (by decide +kernel), by decide +kernel⟩
abbrev iX10_walksAll : tp_I := (RX10, cX10_walksAll, 2, none, false)
theorem tw_1309 : tb_in (.code yX10_walksAll cX10_walksAll 2 none) := ⟨List.mem_of_getElem? (i := 1309) (by decide +kernel), by decide +kernel⟩
abbrev iX10_meets : tp_I := (RX10, cX10_meets, 4, (some .int), false)
theorem tw_1313 : tb_in (.code yX10_meets cX10_meets 4 (some .int)) := ⟨List.mem_of_getElem? (i := 1313) (by decide +kernel), by decide +kernel⟩
abbrev iX10_way : tp_I := (RX10, cX10_way, 4, (some .int), false)
theorem tw_1317 : tb_in (.code yX10_way cX10_way 4 (some .int)) := ⟨List.mem_of_getElem? (i := 1317) (by decide +kernel), by decide +kernel⟩
abbrev iX10_wayOf : tp_I := (RX10, cX10_wayOf, 7, (some .int), false)
theorem tw_1321 : tb_in (.code yX10_wayOf cX10_wayOf 7 (some .int)) := ⟨List.mem_of_getElem? (i := 1321) (by decide +kernel), by decide +kernel⟩
abbrev iX10_nextOf : tp_I := (RX10, cX10_nextOf, 5, (some .int), false)
theorem tw_1326 : tb_in (.code yX10_nextOf cX10_nextOf 5 (some .int)) := ⟨List.mem_of_getElem? (i := 1326) (by decide +kernel), by decide +kernel⟩
abbrev iX10_delays : tp_I := (RX10, cX10_delays, 9, (some .int), false)
theorem tw_1330 : tb_in (.code yX10_delays cX10_delays 9 (some .int)) := ⟨List.mem_of_getElem? (i := 1330) (by decide +kernel), by decide +kernel⟩
abbrev iX10_isApart : tp_I := (RX10, cX10_isApart, 4, (some .boolean), false)
theorem tw_1334 : tb_in (.code yX10_isApart cX10_isApart 4 (some .boolean)) := ⟨List.mem_of_getElem? (i := 1334) (by decide +kernel), by decide +kernel⟩
abbrev iX10_served : tp_I := (RX10, cX10_served, 7, (some .int), false)
theorem tw_1338 : tb_in (.code yX10_served cX10_served 7 (some .int)) := ⟨List.mem_of_getElem? (i := 1338) (by decide +kernel), by decide +kernel⟩
abbrev iX10_servedBy : tp_I := (RX10, cX10_servedBy, 7, (some .int), false)
theorem tw_1342 : tb_in (.code yX10_servedBy cX10_servedBy 7 (some .int)) := ⟨List.mem_of_getElem? (i := 1342) (by decide +kernel), by decide +kernel⟩
abbrev iX10_evened : tp_I := (RX10, cX10_evened, 8, (some .int), false)
theorem tw_1346 : tb_in (.code yX10_evened cX10_evened 8 (some .int)) := ⟨List.mem_of_getElem? (i := 1346) (by decide +kernel), by decide +kernel⟩
abbrev iX10_packed : tp_I := (RX10, cX10_packed, 8, (some .int), false)
theorem tw_1350 : tb_in (.code yX10_packed cX10_packed 8 (some .int)) := ⟨List.mem_of_getElem? (i := 1350) (by decide +kernel), by decide +kernel⟩
abbrev iX10_covered : tp_I := (RX10, cX10_covered, 7, (some .int), false)
theorem tw_1354 : tb_in (.code yX10_covered cX10_covered 7 (some .int)) := ⟨List.mem_of_getElem? (i := 1354) (by decide +kernel), by decide +kernel⟩
abbrev iX10_calm : tp_I := (RX10, cX10_calm, 6, (some .int), false)
theorem tw_1358 : tb_in (.code yX10_calm cX10_calm 6 (some .int)) := ⟨List.mem_of_getElem? (i := 1358) (by decide +kernel), by decide +kernel⟩
abbrev iX10_see : tp_I := (RX10, cX10_see, 4, (some .int), false)
theorem tw_1364 : tb_in (.code yX10_see cX10_see 4 (some .int)) := ⟨List.mem_of_getElem? (i := 1364) (by decide +kernel), by decide +kernel⟩
abbrev iX10_spiller : tp_I := (RX10, cX10_spiller, 1, (some .int), false)
theorem tw_1368 : tb_in (.code yX10_spiller cX10_spiller 1 (some .int)) := ⟨List.mem_of_getElem? (i := 1368) (by decide +kernel), by decide +kernel⟩
abbrev iX10_spillers : tp_I := (RX10, cX10_spillers, 5, (some .int), false)
theorem tw_1372 : tb_in (.code yX10_spillers cX10_spillers 5 (some .int)) := ⟨List.mem_of_getElem? (i := 1372) (by decide +kernel), by decide +kernel⟩
abbrev iX10_comesTo : tp_I := (RX10, cX10_comesTo, 5, (some .int), false)
theorem tw_1376 : tb_in (.code yX10_comesTo cX10_comesTo 5 (some .int)) := ⟨List.mem_of_getElem? (i := 1376) (by decide +kernel), by decide +kernel⟩
abbrev iX10_look : tp_I := (RX10, cX10_look, 7, (some .int), false)
theorem tw_1380 : tb_in (.code yX10_look cX10_look 7 (some .int)) := ⟨List.mem_of_getElem? (i := 1380) (by decide +kernel), by decide +kernel⟩
abbrev iX10_write : tp_I := (RX10, cX10_write, 3, (some .int), false)
theorem tw_1384 : tb_in (.code yX10_write cX10_write 3 (some .int)) := ⟨List.mem_of_getElem? (i := 1384) (by decide +kernel), by decide +kernel⟩
abbrev iX10_tear : tp_I := (RX10, cX10_tear, 2, (some .int), false)
theorem tw_1388 : tb_in (.code yX10_tear cX10_tear 2 (some .int)) := ⟨List.mem_of_getElem? (i := 1388) (by decide +kernel), by decide +kernel⟩
abbrev iX10_judge : tp_I := (RX10, cX10_judge, 2, (some .int), false)
theorem tw_1392 : tb_in (.code yX10_judge cX10_judge 2 (some .int)) := ⟨List.mem_of_getElem? (i := 1392) (by decide +kernel), by decide +kernel⟩
abbrev iX10_seed : tp_I := (RX10, cX10_seed, 3, (some .int), false)
theorem tw_1396 : tb_in (.code yX10_seed cX10_seed 3 (some .int)) := ⟨List.mem_of_getElem? (i := 1396) (by decide +kernel), by decide +kernel⟩
abbrev iX10_keep : tp_I := (RX10, cX10_keep, 2, (some .int), false)
theorem tw_1400 : tb_in (.code yX10_keep cX10_keep 2 (some .int)) := ⟨List.mem_of_getElem? (i := 1400) (by decide +kernel), by decide +kernel⟩
abbrev iX10_goBack : tp_I := (RX10, cX10_goBack, 2, (some .int), false)
theorem tw_1404 : tb_in (.code yX10_goBack cX10_goBack 2 (some .int)) := ⟨List.mem_of_getElem? (i := 1404) (by decide +kernel), by decide +kernel⟩
abbrev qX0 : vw_C := (RX0, TX0, 4)
theorem kuX0 : ∀ w ∈ u_ws RX0 TX0 4, w ∈ tb_T := by decide +kernel
theorem kcX0 : cv_C 0 qX0 tyX0 := ⟨rfl, by decide, rfl, kuX0, tyX0_ok, nmX0⟩
abbrev qX1 : vw_C := (RX1, TX1, 8)
theorem kuX1 : ∀ w ∈ u_ws RX1 TX1 8, w ∈ tb_T := by decide +kernel
theorem kcX1 : cv_C 1 qX1 tyX1 := ⟨rfl, by decide, rfl, kuX1, tyX1_ok, nmX1⟩
abbrev qX2 : vw_C := (RX2, TX2, 3)
theorem kuX2 : ∀ w ∈ u_ws RX2 TX2 3, w ∈ tb_T := by decide +kernel
theorem kcX2 : cv_C 2 qX2 tyX2 := ⟨rfl, by decide, rfl, kuX2, tyX2_ok, nmX2⟩
abbrev qX3 : vw_C := (RX3, TX3, 9)
theorem kuX3 : ∀ w ∈ u_ws RX3 TX3 9, w ∈ tb_T := by decide +kernel
theorem kcX3 : cv_C 3 qX3 tyX3 := ⟨rfl, by decide, rfl, kuX3, tyX3_ok, nmX3⟩
abbrev qX4 : vw_C := (RX4, TX4, 3)
theorem kuX4 : ∀ w ∈ u_ws RX4 TX4 3, w ∈ tb_T := by decide +kernel
theorem kcX4 : cv_C 4 qX4 tyX4 := ⟨rfl, by decide, rfl, kuX4, tyX4_ok, nmX4⟩
abbrev qX5 : vw_C := (RX5, TX5, 13)
theorem kuX5 : ∀ w ∈ u_ws RX5 TX5 13, w ∈ tb_T := by decide +kernel
theorem kcX5 : cv_C 5 qX5 tyX5 := ⟨rfl, by decide, rfl, kuX5, tyX5_ok, nmX5⟩
abbrev qX6 : vw_C := (RX6, TX6, 7)
theorem kuX6 : ∀ w ∈ u_ws RX6 TX6 7, w ∈ tb_T := by decide +kernel
theorem kcX6 : cv_C 6 qX6 tyX6 := ⟨rfl, by decide, rfl, kuX6, tyX6_ok, nmX6⟩
abbrev qX7 : vw_C := (RX7, TX7, 6)
theorem kuX7 : ∀ w ∈ u_ws RX7 TX7 6, w ∈ tb_T := by decide +kernel
theorem kcX7 : cv_C 7 qX7 tyX7 := ⟨rfl, by decide, rfl, kuX7, tyX7_ok, nmX7⟩
abbrev qX8 : vw_C := (RX8, TX8, 6)
theorem kuX8 : ∀ w ∈ u_ws RX8 TX8 6, w ∈ tb_T := by decide +kernel
theorem kcX8 : cv_C 8 qX8 tyX8 := ⟨rfl, by decide, rfl, kuX8, tyX8_ok, nmX8⟩
abbrev qX9 : vw_C := (RX9, TX9, 9)
theorem kuX9 : ∀ w ∈ u_ws RX9 TX9 9, w ∈ tb_T := by decide +kernel
theorem kcX9 : cv_C 9 qX9 tyX9 := ⟨rfl, by decide, rfl, kuX9, tyX9_ok, nmX9⟩
abbrev qX10 : vw_C := (RX10, TX10, 46)
theorem kuX10 : ∀ w ∈ u_ws RX10 TX10 46, w ∈ tb_T := by decide +kernel
theorem kcX10 : cv_C 10 qX10 tyX10 := ⟨rfl, by decide, rfl, kuX10, tyX10_ok, nmX10⟩
theorem kfX5_33 : cv_F RX5 33 0 qX5 := ⟨⟨List.mem_of_getElem? (i := 67) (by decide +kernel), by decide +kernel⟩, by decide⟩
theorem kfX6_88 : cv_F RX6 88 0 qX5 := ⟨⟨List.mem_of_getElem? (i := 68) (by decide +kernel), by decide +kernel⟩, by decide⟩
theorem kfX9_114 : cv_F RX9 114 0 qX5 := ⟨⟨List.mem_of_getElem? (i := 69) (by decide +kernel), by decide +kernel⟩, by decide⟩
theorem kfX3_72 : cv_F RX3 72 0 qX5 := ⟨⟨List.mem_of_getElem? (i := 70) (by decide +kernel), by decide +kernel⟩, by decide⟩
theorem kfX5_37 : cv_F RX5 37 1 qX5 := ⟨⟨List.mem_of_getElem? (i := 71) (by decide +kernel), by decide +kernel⟩, by decide⟩
theorem kfX0_63 : cv_F RX0 63 1 qX5 := ⟨⟨List.mem_of_getElem? (i := 72) (by decide +kernel), by decide +kernel⟩, by decide⟩
theorem kfX5_40 : cv_F RX5 40 2 qX5 := ⟨⟨List.mem_of_getElem? (i := 73) (by decide +kernel), by decide +kernel⟩, by decide⟩
theorem kfX9_117 : cv_F RX9 117 2 qX5 := ⟨⟨List.mem_of_getElem? (i := 74) (by decide +kernel), by decide +kernel⟩, by decide⟩
theorem kfX5_43 : cv_F RX5 43 3 qX5 := ⟨⟨List.mem_of_getElem? (i := 75) (by decide +kernel), by decide +kernel⟩, by decide⟩
theorem kfX7_46 : cv_F RX7 46 3 qX5 := ⟨⟨List.mem_of_getElem? (i := 76) (by decide +kernel), by decide +kernel⟩, by decide⟩
theorem kfX0_52 : cv_F RX0 52 3 qX5 := ⟨⟨List.mem_of_getElem? (i := 77) (by decide +kernel), by decide +kernel⟩, by decide⟩
theorem kfX9_108 : cv_F RX9 108 3 qX5 := ⟨⟨List.mem_of_getElem? (i := 78) (by decide +kernel), by decide +kernel⟩, by decide⟩
theorem kfX1_56 : cv_F RX1 56 3 qX5 := ⟨⟨List.mem_of_getElem? (i := 79) (by decide +kernel), by decide +kernel⟩, by decide⟩
theorem kfX3_43 : cv_F RX3 43 3 qX5 := ⟨⟨List.mem_of_getElem? (i := 80) (by decide +kernel), by decide +kernel⟩, by decide⟩
theorem kfX5_46 : cv_F RX5 46 4 qX5 := ⟨⟨List.mem_of_getElem? (i := 81) (by decide +kernel), by decide +kernel⟩, by decide⟩
theorem kfX8_42 : cv_F RX8 42 4 qX5 := ⟨⟨List.mem_of_getElem? (i := 82) (by decide +kernel), by decide +kernel⟩, by decide⟩
theorem kfX9_120 : cv_F RX9 120 4 qX5 := ⟨⟨List.mem_of_getElem? (i := 83) (by decide +kernel), by decide +kernel⟩, by decide⟩
theorem kfX5_49 : cv_F RX5 49 5 qX5 := ⟨⟨List.mem_of_getElem? (i := 84) (by decide +kernel), by decide +kernel⟩, by decide⟩
theorem kfX7_49 : cv_F RX7 49 5 qX5 := ⟨⟨List.mem_of_getElem? (i := 85) (by decide +kernel), by decide +kernel⟩, by decide⟩
theorem kfX9_123 : cv_F RX9 123 5 qX5 := ⟨⟨List.mem_of_getElem? (i := 86) (by decide +kernel), by decide +kernel⟩, by decide⟩
theorem kfX5_9 : cv_F RX5 9 6 qX5 := ⟨⟨List.mem_of_getElem? (i := 87) (by decide +kernel), by decide +kernel⟩, by decide⟩
theorem kfX5_15 : cv_F RX5 15 7 qX5 := ⟨⟨List.mem_of_getElem? (i := 88) (by decide +kernel), by decide +kernel⟩, by decide⟩
theorem kfX8_37 : cv_F RX8 37 7 qX5 := ⟨⟨List.mem_of_getElem? (i := 89) (by decide +kernel), by decide +kernel⟩, by decide⟩
theorem kfX5_18 : cv_F RX5 18 8 qX5 := ⟨⟨List.mem_of_getElem? (i := 90) (by decide +kernel), by decide +kernel⟩, by decide⟩
theorem kfX9_160 : cv_F RX9 160 8 qX5 := ⟨⟨List.mem_of_getElem? (i := 91) (by decide +kernel), by decide +kernel⟩, by decide⟩
theorem kfX5_21 : cv_F RX5 21 9 qX5 := ⟨⟨List.mem_of_getElem? (i := 92) (by decide +kernel), by decide +kernel⟩, by decide⟩
theorem kfX9_189 : cv_F RX9 189 9 qX5 := ⟨⟨List.mem_of_getElem? (i := 93) (by decide +kernel), by decide +kernel⟩, by decide⟩
theorem kfX5_24 : cv_F RX5 24 10 qX5 := ⟨⟨List.mem_of_getElem? (i := 94) (by decide +kernel), by decide +kernel⟩, by decide⟩
theorem kfX9_192 : cv_F RX9 192 10 qX5 := ⟨⟨List.mem_of_getElem? (i := 95) (by decide +kernel), by decide +kernel⟩, by decide⟩
theorem kfX5_27 : cv_F RX5 27 11 qX5 := ⟨⟨List.mem_of_getElem? (i := 96) (by decide +kernel), by decide +kernel⟩, by decide⟩
theorem kfX7_76 : cv_F RX7 76 11 qX5 := ⟨⟨List.mem_of_getElem? (i := 97) (by decide +kernel), by decide +kernel⟩, by decide⟩
theorem kfX5_30 : cv_F RX5 30 12 qX5 := ⟨⟨List.mem_of_getElem? (i := 98) (by decide +kernel), by decide +kernel⟩, by decide⟩
theorem kfX7_85 : cv_F RX7 85 12 qX5 := ⟨⟨List.mem_of_getElem? (i := 99) (by decide +kernel), by decide +kernel⟩, by decide⟩
theorem kfX8_24 : cv_F RX8 24 0 qX8 := ⟨⟨List.mem_of_getElem? (i := 134) (by decide +kernel), by decide +kernel⟩, by decide⟩
theorem kfX0_73 : cv_F RX0 73 0 qX8 := ⟨⟨List.mem_of_getElem? (i := 135) (by decide +kernel), by decide +kernel⟩, by decide⟩
theorem kfX7_82 : cv_F RX7 82 0 qX8 := ⟨⟨List.mem_of_getElem? (i := 136) (by decide +kernel), by decide +kernel⟩, by decide⟩
theorem kfX9_126 : cv_F RX9 126 0 qX8 := ⟨⟨List.mem_of_getElem? (i := 137) (by decide +kernel), by decide +kernel⟩, by decide⟩
theorem kfX8_28 : cv_F RX8 28 1 qX8 := ⟨⟨List.mem_of_getElem? (i := 138) (by decide +kernel), by decide +kernel⟩, by decide⟩
theorem kfX0_79 : cv_F RX0 79 1 qX8 := ⟨⟨List.mem_of_getElem? (i := 139) (by decide +kernel), by decide +kernel⟩, by decide⟩
theorem kfX9_129 : cv_F RX9 129 1 qX8 := ⟨⟨List.mem_of_getElem? (i := 140) (by decide +kernel), by decide +kernel⟩, by decide⟩
theorem kfX8_9 : cv_F RX8 9 2 qX8 := ⟨⟨List.mem_of_getElem? (i := 141) (by decide +kernel), by decide +kernel⟩, by decide⟩
theorem kfX0_41 : cv_F RX0 41 2 qX8 := ⟨⟨List.mem_of_getElem? (i := 142) (by decide +kernel), by decide +kernel⟩, by decide⟩
theorem kfX8_15 : cv_F RX8 15 3 qX8 := ⟨⟨List.mem_of_getElem? (i := 143) (by decide +kernel), by decide +kernel⟩, by decide⟩
theorem kfX8_18 : cv_F RX8 18 4 qX8 := ⟨⟨List.mem_of_getElem? (i := 144) (by decide +kernel), by decide +kernel⟩, by decide⟩
theorem kfX8_21 : cv_F RX8 21 5 qX8 := ⟨⟨List.mem_of_getElem? (i := 145) (by decide +kernel), by decide +kernel⟩, by decide⟩
theorem kfX2_10 : cv_F RX2 10 0 qX2 := ⟨⟨List.mem_of_getElem? (i := 168) (by decide +kernel), by decide +kernel⟩, by decide⟩
theorem kfX9_308 : cv_F RX9 308 0 qX2 := ⟨⟨List.mem_of_getElem? (i := 169) (by decide +kernel), by decide +kernel⟩, by decide⟩
theorem kfX9_313 : cv_F RX9 313 1 qX2 := ⟨⟨List.mem_of_getElem? (i := 170) (by decide +kernel), by decide +kernel⟩, by decide⟩
theorem kfX9_104 : cv_F RX9 104 2 qX2 := ⟨⟨List.mem_of_getElem? (i := 171) (by decide +kernel), by decide +kernel⟩, by decide⟩
theorem kfX6_12 : cv_F RX6 12 0 qX6 := ⟨⟨List.mem_of_getElem? (i := 187) (by decide +kernel), by decide +kernel⟩, by decide⟩
theorem kfX9_88 : cv_F RX9 88 0 qX6 := ⟨⟨List.mem_of_getElem? (i := 188) (by decide +kernel), by decide +kernel⟩, by decide⟩
theorem kfX6_18 : cv_F RX6 18 1 qX6 := ⟨⟨List.mem_of_getElem? (i := 189) (by decide +kernel), by decide +kernel⟩, by decide⟩
theorem kfX6_26 : cv_F RX6 26 2 qX6 := ⟨⟨List.mem_of_getElem? (i := 190) (by decide +kernel), by decide +kernel⟩, by decide⟩
theorem kfX9_79 : cv_F RX9 79 2 qX6 := ⟨⟨List.mem_of_getElem? (i := 191) (by decide +kernel), by decide +kernel⟩, by decide⟩
theorem kfX6_22 : cv_F RX6 22 3 qX6 := ⟨⟨List.mem_of_getElem? (i := 192) (by decide +kernel), by decide +kernel⟩, by decide⟩
theorem kfX9_111 : cv_F RX9 111 3 qX6 := ⟨⟨List.mem_of_getElem? (i := 193) (by decide +kernel), by decide +kernel⟩, by decide⟩
theorem kfX6_32 : cv_F RX6 32 4 qX6 := ⟨⟨List.mem_of_getElem? (i := 194) (by decide +kernel), by decide +kernel⟩, by decide⟩
theorem kfX6_35 : cv_F RX6 35 5 qX6 := ⟨⟨List.mem_of_getElem? (i := 195) (by decide +kernel), by decide +kernel⟩, by decide⟩
theorem kfX6_78 : cv_F RX6 78 6 qX6 := ⟨⟨List.mem_of_getElem? (i := 196) (by decide +kernel), by decide +kernel⟩, by decide⟩
theorem kfX4_11 : cv_F RX4 11 0 qX4 := ⟨⟨List.mem_of_getElem? (i := 222) (by decide +kernel), by decide +kernel⟩, by decide⟩
theorem kfX4_22 : cv_F RX4 22 1 qX4 := ⟨⟨List.mem_of_getElem? (i := 223) (by decide +kernel), by decide +kernel⟩, by decide⟩
theorem kfX4_18 : cv_F RX4 18 2 qX4 := ⟨⟨List.mem_of_getElem? (i := 224) (by decide +kernel), by decide +kernel⟩, by decide⟩
theorem kfX9_145 : cv_F RX9 145 2 qX4 := ⟨⟨List.mem_of_getElem? (i := 225) (by decide +kernel), by decide +kernel⟩, by decide⟩
theorem kfX0_15 : cv_F RX0 15 0 qX0 := ⟨⟨List.mem_of_getElem? (i := 239) (by decide +kernel), by decide +kernel⟩, by decide⟩
theorem kfX0_19 : cv_F RX0 19 1 qX0 := ⟨⟨List.mem_of_getElem? (i := 240) (by decide +kernel), by decide +kernel⟩, by decide⟩
theorem kfX0_9 : cv_F RX0 9 2 qX0 := ⟨⟨List.mem_of_getElem? (i := 241) (by decide +kernel), by decide +kernel⟩, by decide⟩
theorem kfX0_115 : cv_F RX0 115 3 qX0 := ⟨⟨List.mem_of_getElem? (i := 242) (by decide +kernel), by decide +kernel⟩, by decide⟩
theorem kfX9_305 : cv_F RX9 305 3 qX0 := ⟨⟨List.mem_of_getElem? (i := 243) (by decide +kernel), by decide +kernel⟩, by decide⟩
theorem kfX1_27 : cv_F RX1 27 0 qX1 := ⟨⟨List.mem_of_getElem? (i := 259) (by decide +kernel), by decide +kernel⟩, by decide⟩
theorem kfX1_31 : cv_F RX1 31 1 qX1 := ⟨⟨List.mem_of_getElem? (i := 260) (by decide +kernel), by decide +kernel⟩, by decide⟩
theorem kfX1_9 : cv_F RX1 9 2 qX1 := ⟨⟨List.mem_of_getElem? (i := 261) (by decide +kernel), by decide +kernel⟩, by decide⟩
theorem kfX1_15 : cv_F RX1 15 3 qX1 := ⟨⟨List.mem_of_getElem? (i := 262) (by decide +kernel), by decide +kernel⟩, by decide⟩
theorem kfX1_18 : cv_F RX1 18 4 qX1 := ⟨⟨List.mem_of_getElem? (i := 263) (by decide +kernel), by decide +kernel⟩, by decide⟩
theorem kfX1_21 : cv_F RX1 21 5 qX1 := ⟨⟨List.mem_of_getElem? (i := 264) (by decide +kernel), by decide +kernel⟩, by decide⟩
theorem kfX1_24 : cv_F RX1 24 6 qX1 := ⟨⟨List.mem_of_getElem? (i := 265) (by decide +kernel), by decide +kernel⟩, by decide⟩
theorem kfX1_42 : cv_F RX1 42 7 qX1 := ⟨⟨List.mem_of_getElem? (i := 266) (by decide +kernel), by decide +kernel⟩, by decide⟩
theorem kfX7_21 : cv_F RX7 21 0 qX7 := ⟨⟨List.mem_of_getElem? (i := 290) (by decide +kernel), by decide +kernel⟩, by decide⟩
theorem kfX7_25 : cv_F RX7 25 1 qX7 := ⟨⟨List.mem_of_getElem? (i := 291) (by decide +kernel), by decide +kernel⟩, by decide⟩
theorem kfX7_9 : cv_F RX7 9 2 qX7 := ⟨⟨List.mem_of_getElem? (i := 292) (by decide +kernel), by decide +kernel⟩, by decide⟩
theorem kfX7_15 : cv_F RX7 15 3 qX7 := ⟨⟨List.mem_of_getElem? (i := 293) (by decide +kernel), by decide +kernel⟩, by decide⟩
theorem kfX7_18 : cv_F RX7 18 4 qX7 := ⟨⟨List.mem_of_getElem? (i := 294) (by decide +kernel), by decide +kernel⟩, by decide⟩
theorem kfX7_29 : cv_F RX7 29 5 qX7 := ⟨⟨List.mem_of_getElem? (i := 295) (by decide +kernel), by decide +kernel⟩, by decide⟩
theorem kfX3_28 : cv_F RX3 28 0 qX3 := ⟨⟨List.mem_of_getElem? (i := 315) (by decide +kernel), by decide +kernel⟩, by decide⟩
theorem kfX3_32 : cv_F RX3 32 1 qX3 := ⟨⟨List.mem_of_getElem? (i := 316) (by decide +kernel), by decide +kernel⟩, by decide⟩
theorem kfX3_9 : cv_F RX3 9 2 qX3 := ⟨⟨List.mem_of_getElem? (i := 317) (by decide +kernel), by decide +kernel⟩, by decide⟩
theorem kfX3_15 : cv_F RX3 15 3 qX3 := ⟨⟨List.mem_of_getElem? (i := 318) (by decide +kernel), by decide +kernel⟩, by decide⟩
theorem kfX3_18 : cv_F RX3 18 4 qX3 := ⟨⟨List.mem_of_getElem? (i := 319) (by decide +kernel), by decide +kernel⟩, by decide⟩
theorem kfX3_22 : cv_F RX3 22 5 qX3 := ⟨⟨List.mem_of_getElem? (i := 320) (by decide +kernel), by decide +kernel⟩, by decide⟩
theorem kfX3_25 : cv_F RX3 25 6 qX3 := ⟨⟨List.mem_of_getElem? (i := 321) (by decide +kernel), by decide +kernel⟩, by decide⟩
theorem kfX3_36 : cv_F RX3 36 7 qX3 := ⟨⟨List.mem_of_getElem? (i := 322) (by decide +kernel), by decide +kernel⟩, by decide⟩
theorem kfX9_139 : cv_F RX9 139 7 qX3 := ⟨⟨List.mem_of_getElem? (i := 323) (by decide +kernel), by decide +kernel⟩, by decide⟩
theorem kfX3_40 : cv_F RX3 40 8 qX3 := ⟨⟨List.mem_of_getElem? (i := 324) (by decide +kernel), by decide +kernel⟩, by decide⟩
theorem kfX9_142 : cv_F RX9 142 8 qX3 := ⟨⟨List.mem_of_getElem? (i := 325) (by decide +kernel), by decide +kernel⟩, by decide⟩
theorem kfX9_21 : cv_F RX9 21 0 qX9 := ⟨⟨List.mem_of_getElem? (i := 346) (by decide +kernel), by decide +kernel⟩, by decide⟩
theorem kfX9_25 : cv_F RX9 25 1 qX9 := ⟨⟨List.mem_of_getElem? (i := 347) (by decide +kernel), by decide +kernel⟩, by decide⟩
theorem kfX9_29 : cv_F RX9 29 2 qX9 := ⟨⟨List.mem_of_getElem? (i := 348) (by decide +kernel), by decide +kernel⟩, by decide⟩
theorem kfX9_36 : cv_F RX9 36 3 qX9 := ⟨⟨List.mem_of_getElem? (i := 349) (by decide +kernel), by decide +kernel⟩, by decide⟩
theorem kfX9_45 : cv_F RX9 45 4 qX9 := ⟨⟨List.mem_of_getElem? (i := 350) (by decide +kernel), by decide +kernel⟩, by decide⟩
theorem kfX9_52 : cv_F RX9 52 5 qX9 := ⟨⟨List.mem_of_getElem? (i := 351) (by decide +kernel), by decide +kernel⟩, by decide⟩
theorem kfX9_59 : cv_F RX9 59 6 qX9 := ⟨⟨List.mem_of_getElem? (i := 352) (by decide +kernel), by decide +kernel⟩, by decide⟩
theorem kfX9_66 : cv_F RX9 66 7 qX9 := ⟨⟨List.mem_of_getElem? (i := 353) (by decide +kernel), by decide +kernel⟩, by decide⟩
theorem kfX9_70 : cv_F RX9 70 8 qX9 := ⟨⟨List.mem_of_getElem? (i := 354) (by decide +kernel), by decide +kernel⟩, by decide⟩
theorem kfX10_7 : cv_F RX10 7 0 qX10 := ⟨⟨List.mem_of_getElem? (i := 961) (by decide +kernel), by decide +kernel⟩, by decide⟩
theorem kfX10_13 : cv_F RX10 13 1 qX10 := ⟨⟨List.mem_of_getElem? (i := 962) (by decide +kernel), by decide +kernel⟩, by decide⟩
theorem kfX10_206 : cv_F RX10 206 2 qX10 := ⟨⟨List.mem_of_getElem? (i := 963) (by decide +kernel), by decide +kernel⟩, by decide⟩
theorem kfX10_90 : cv_F RX10 90 3 qX10 := ⟨⟨List.mem_of_getElem? (i := 964) (by decide +kernel), by decide +kernel⟩, by decide⟩
theorem kfX10_191 : cv_F RX10 191 4 qX10 := ⟨⟨List.mem_of_getElem? (i := 965) (by decide +kernel), by decide +kernel⟩, by decide⟩
theorem kfX10_194 : cv_F RX10 194 5 qX10 := ⟨⟨List.mem_of_getElem? (i := 966) (by decide +kernel), by decide +kernel⟩, by decide⟩
theorem kfX10_17 : cv_F RX10 17 6 qX10 := ⟨⟨List.mem_of_getElem? (i := 967) (by decide +kernel), by decide +kernel⟩, by decide⟩
theorem kfX10_97 : cv_F RX10 97 7 qX10 := ⟨⟨List.mem_of_getElem? (i := 968) (by decide +kernel), by decide +kernel⟩, by decide⟩
theorem kfX10_20 : cv_F RX10 20 8 qX10 := ⟨⟨List.mem_of_getElem? (i := 969) (by decide +kernel), by decide +kernel⟩, by decide⟩
theorem kfX10_104 : cv_F RX10 104 9 qX10 := ⟨⟨List.mem_of_getElem? (i := 970) (by decide +kernel), by decide +kernel⟩, by decide⟩
theorem kfX10_23 : cv_F RX10 23 10 qX10 := ⟨⟨List.mem_of_getElem? (i := 971) (by decide +kernel), by decide +kernel⟩, by decide⟩
theorem kfX10_26 : cv_F RX10 26 11 qX10 := ⟨⟨List.mem_of_getElem? (i := 972) (by decide +kernel), by decide +kernel⟩, by decide⟩
theorem kfX10_197 : cv_F RX10 197 12 qX10 := ⟨⟨List.mem_of_getElem? (i := 973) (by decide +kernel), by decide +kernel⟩, by decide⟩
theorem kfX10_29 : cv_F RX10 29 13 qX10 := ⟨⟨List.mem_of_getElem? (i := 974) (by decide +kernel), by decide +kernel⟩, by decide⟩
theorem kfX10_32 : cv_F RX10 32 14 qX10 := ⟨⟨List.mem_of_getElem? (i := 975) (by decide +kernel), by decide +kernel⟩, by decide⟩
theorem kfX10_35 : cv_F RX10 35 15 qX10 := ⟨⟨List.mem_of_getElem? (i := 976) (by decide +kernel), by decide +kernel⟩, by decide⟩
theorem kfX10_110 : cv_F RX10 110 16 qX10 := ⟨⟨List.mem_of_getElem? (i := 977) (by decide +kernel), by decide +kernel⟩, by decide⟩
theorem kfX10_114 : cv_F RX10 114 17 qX10 := ⟨⟨List.mem_of_getElem? (i := 978) (by decide +kernel), by decide +kernel⟩, by decide⟩
theorem kfX10_121 : cv_F RX10 121 18 qX10 := ⟨⟨List.mem_of_getElem? (i := 979) (by decide +kernel), by decide +kernel⟩, by decide⟩
theorem kfX10_139 : cv_F RX10 139 19 qX10 := ⟨⟨List.mem_of_getElem? (i := 980) (by decide +kernel), by decide +kernel⟩, by decide⟩
theorem kfX10_124 : cv_F RX10 124 20 qX10 := ⟨⟨List.mem_of_getElem? (i := 981) (by decide +kernel), by decide +kernel⟩, by decide⟩
theorem kfX10_38 : cv_F RX10 38 21 qX10 := ⟨⟨List.mem_of_getElem? (i := 982) (by decide +kernel), by decide +kernel⟩, by decide⟩
theorem kfX10_145 : cv_F RX10 145 22 qX10 := ⟨⟨List.mem_of_getElem? (i := 983) (by decide +kernel), by decide +kernel⟩, by decide⟩
theorem kfX10_148 : cv_F RX10 148 23 qX10 := ⟨⟨List.mem_of_getElem? (i := 984) (by decide +kernel), by decide +kernel⟩, by decide⟩
theorem kfX10_154 : cv_F RX10 154 24 qX10 := ⟨⟨List.mem_of_getElem? (i := 985) (by decide +kernel), by decide +kernel⟩, by decide⟩
theorem kfX10_42 : cv_F RX10 42 25 qX10 := ⟨⟨List.mem_of_getElem? (i := 986) (by decide +kernel), by decide +kernel⟩, by decide⟩
theorem kfX10_157 : cv_F RX10 157 26 qX10 := ⟨⟨List.mem_of_getElem? (i := 987) (by decide +kernel), by decide +kernel⟩, by decide⟩
theorem kfX10_45 : cv_F RX10 45 27 qX10 := ⟨⟨List.mem_of_getElem? (i := 988) (by decide +kernel), by decide +kernel⟩, by decide⟩
theorem kfX10_160 : cv_F RX10 160 28 qX10 := ⟨⟨List.mem_of_getElem? (i := 989) (by decide +kernel), by decide +kernel⟩, by decide⟩
theorem kfX10_48 : cv_F RX10 48 29 qX10 := ⟨⟨List.mem_of_getElem? (i := 990) (by decide +kernel), by decide +kernel⟩, by decide⟩
theorem kfX10_163 : cv_F RX10 163 30 qX10 := ⟨⟨List.mem_of_getElem? (i := 991) (by decide +kernel), by decide +kernel⟩, by decide⟩
theorem kfX10_51 : cv_F RX10 51 31 qX10 := ⟨⟨List.mem_of_getElem? (i := 992) (by decide +kernel), by decide +kernel⟩, by decide⟩
theorem kfX10_54 : cv_F RX10 54 32 qX10 := ⟨⟨List.mem_of_getElem? (i := 993) (by decide +kernel), by decide +kernel⟩, by decide⟩
theorem kfX10_57 : cv_F RX10 57 33 qX10 := ⟨⟨List.mem_of_getElem? (i := 994) (by decide +kernel), by decide +kernel⟩, by decide⟩
theorem kfX10_60 : cv_F RX10 60 34 qX10 := ⟨⟨List.mem_of_getElem? (i := 995) (by decide +kernel), by decide +kernel⟩, by decide⟩
theorem kfX10_63 : cv_F RX10 63 35 qX10 := ⟨⟨List.mem_of_getElem? (i := 996) (by decide +kernel), by decide +kernel⟩, by decide⟩
theorem kfX10_66 : cv_F RX10 66 36 qX10 := ⟨⟨List.mem_of_getElem? (i := 997) (by decide +kernel), by decide +kernel⟩, by decide⟩
theorem kfX10_69 : cv_F RX10 69 37 qX10 := ⟨⟨List.mem_of_getElem? (i := 998) (by decide +kernel), by decide +kernel⟩, by decide⟩
theorem kfX10_72 : cv_F RX10 72 38 qX10 := ⟨⟨List.mem_of_getElem? (i := 999) (by decide +kernel), by decide +kernel⟩, by decide⟩
theorem kfX10_200 : cv_F RX10 200 39 qX10 := ⟨⟨List.mem_of_getElem? (i := 1000) (by decide +kernel), by decide +kernel⟩, by decide⟩
theorem kfX10_75 : cv_F RX10 75 40 qX10 := ⟨⟨List.mem_of_getElem? (i := 1001) (by decide +kernel), by decide +kernel⟩, by decide⟩
theorem kfX10_78 : cv_F RX10 78 41 qX10 := ⟨⟨List.mem_of_getElem? (i := 1002) (by decide +kernel), by decide +kernel⟩, by decide⟩
theorem kfX10_81 : cv_F RX10 81 42 qX10 := ⟨⟨List.mem_of_getElem? (i := 1003) (by decide +kernel), by decide +kernel⟩, by decide⟩
theorem kfX10_203 : cv_F RX10 203 43 qX10 := ⟨⟨List.mem_of_getElem? (i := 1004) (by decide +kernel), by decide +kernel⟩, by decide⟩
theorem kfX10_84 : cv_F RX10 84 44 qX10 := ⟨⟨List.mem_of_getElem? (i := 1005) (by decide +kernel), by decide +kernel⟩, by decide⟩
theorem kfX10_87 : cv_F RX10 87 45 qX10 := ⟨⟨List.mem_of_getElem? (i := 1006) (by decide +kernel), by decide +kernel⟩, by decide⟩
theorem kmL_9 : cv_I RL 9 yX9_init iX9_init 0 := ⟨⟨tw_55, tw_56, tw_39, tw_57⟩, ⟨by decide +kernel, rfl⟩, ⟨by decide +kernel, by decide +kernel, by decide +kernel⟩⟩
theorem kmX9_12 : cv_I RX9 12 yX8_init iX8_init 0 := ⟨⟨tw_130, tw_131, tw_41, tw_132⟩, ⟨by decide +kernel, rfl⟩, ⟨by decide +kernel, by decide +kernel, by decide +kernel⟩⟩
theorem kmX2_9 : cv_I RX2 9 yX8_init iX8_init 0 := ⟨⟨tw_167, tw_131, tw_41, tw_132⟩, ⟨by decide +kernel, rfl⟩, ⟨by decide +kernel, by decide +kernel, by decide +kernel⟩⟩
theorem kmX9_35 : cv_I RX9 35 yX4_init iX4_init 0 := ⟨⟨tw_215, tw_216, tw_44, tw_217⟩, ⟨by decide +kernel, rfl⟩, ⟨by decide +kernel, by decide +kernel, by decide +kernel⟩⟩
theorem kmX4_17 : cv_I RX4 17 yX8_init iX8_init 0 := ⟨⟨tw_221, tw_131, tw_41, tw_132⟩, ⟨by decide +kernel, rfl⟩, ⟨by decide +kernel, by decide +kernel, by decide +kernel⟩⟩
theorem kmX9_42 : cv_I RX9 42 yX0_init iX0_init 2 := ⟨⟨tw_235, tw_236, tw_45, tw_237⟩, ⟨by decide +kernel, rfl⟩, ⟨by decide +kernel, by decide +kernel, by decide +kernel⟩⟩
theorem kmX9_51 : cv_I RX9 51 yX1_init iX1_init 2 := ⟨⟨tw_255, tw_256, tw_46, tw_257⟩, ⟨by decide +kernel, rfl⟩, ⟨by decide +kernel, by decide +kernel, by decide +kernel⟩⟩
theorem kmX9_58 : cv_I RX9 58 yX7_init iX7_init 2 := ⟨⟨tw_286, tw_287, tw_47, tw_288⟩, ⟨by decide +kernel, rfl⟩, ⟨by decide +kernel, by decide +kernel, by decide +kernel⟩⟩
theorem kmX9_65 : cv_I RX9 65 yX3_init iX3_init 2 := ⟨⟨tw_311, tw_312, tw_48, tw_313⟩, ⟨by decide +kernel, rfl⟩, ⟨by decide +kernel, by decide +kernel, by decide +kernel⟩⟩
theorem kmL_13 : cv_V RL 13 9 yX9_feed iX9_feed 1 := ⟨⟨tw_374, tw_375, tw_376, tw_39, tw_377⟩, ⟨rfl, by decide⟩, ⟨by decide +kernel, by decide +kernel, by decide +kernel⟩⟩
theorem kmX9_75 : cv_V RX9 75 6 yX6_append iX6_append 1 := ⟨⟨tw_379, tw_380, tw_381, tw_43, tw_382⟩, ⟨rfl, by decide⟩, ⟨by decide +kernel, by decide +kernel, by decide +kernel⟩⟩
theorem kmL_18 : cv_V RL 18 9 yX9_hotel iX9_hotel 0 := ⟨⟨tw_384, tw_385, tw_386, tw_39, tw_387⟩, ⟨rfl, by decide⟩, ⟨by decide +kernel, by decide +kernel, by decide +kernel⟩⟩
theorem kmX9_84 : cv_V RX9 84 6 yX6_readAll iX6_readAll 0 := ⟨⟨tw_388, tw_389, tw_390, tw_43, tw_391⟩, ⟨rfl, by decide⟩, ⟨by decide +kernel, by decide +kernel, by decide +kernel⟩⟩
theorem kmX6_29 : cv_V RX6 29 5 yX5_clear iX5_clear 0 := ⟨⟨tw_392, tw_393, tw_394, tw_40, tw_395⟩, ⟨rfl, by decide⟩, ⟨by decide +kernel, by decide +kernel, by decide +kernel⟩⟩
theorem kmX6_38 : cv_V RX6 38 6 yX6_skipBlanks iX6_skipBlanks 0 := ⟨⟨tw_396, tw_397, tw_398, tw_43, tw_399⟩, ⟨rfl, by decide⟩, ⟨by decide +kernel, by decide +kernel, by decide +kernel⟩⟩
theorem kmX6_44 : cv_V RX6 44 6 yX6_letterAt iX6_letterAt 1 := ⟨⟨tw_400, tw_401, tw_402, tw_43, tw_403⟩, ⟨rfl, by decide⟩, ⟨by decide +kernel, by decide +kernel, by decide +kernel⟩⟩
theorem kmX6_41 : cv_V RX6 41 6 yX6_readClause iX6_readClause 0 := ⟨⟨tw_404, tw_405, tw_406, tw_43, tw_407⟩, ⟨rfl, by decide⟩, ⟨by decide +kernel, by decide +kernel, by decide +kernel⟩⟩
theorem kmX6_48 : cv_V RX6 48 6 yX6_faultOfWord iX6_faultOfWord 1 := ⟨⟨tw_408, tw_409, tw_410, tw_43, tw_411⟩, ⟨rfl, by decide⟩, ⟨by decide +kernel, by decide +kernel, by decide +kernel⟩⟩
theorem kmX6_91 : cv_V RX6 91 5 yX5_isFull iX5_isFull 1 := ⟨⟨tw_412, tw_413, tw_414, tw_40, tw_415⟩, ⟨rfl, by decide⟩, ⟨by decide +kernel, by decide +kernel, by decide +kernel⟩⟩
theorem kmX6_51 : cv_V RX6 51 6 yX6_blame iX6_blame 2 := ⟨⟨tw_416, tw_417, tw_418, tw_43, tw_419⟩, ⟨rfl, by decide⟩, ⟨by decide +kernel, by decide +kernel, by decide +kernel⟩⟩
theorem kmX6_55 : cv_V RX6 55 6 yX6_firstLeast iX6_firstLeast 1 := ⟨⟨tw_420, tw_421, tw_422, tw_43, tw_423⟩, ⟨rfl, by decide⟩, ⟨by decide +kernel, by decide +kernel, by decide +kernel⟩⟩
theorem kmX6_58 : cv_V RX6 58 6 yX6_firstMost iX6_firstMost 1 := ⟨⟨tw_424, tw_425, tw_426, tw_43, tw_427⟩, ⟨rfl, by decide⟩, ⟨by decide +kernel, by decide +kernel, by decide +kernel⟩⟩
theorem kmX6_61 : cv_V RX6 61 6 yX6_readNumber iX6_readNumber 2 := ⟨⟨tw_428, tw_429, tw_430, tw_43, tw_431⟩, ⟨rfl, by decide⟩, ⟨by decide +kernel, by decide +kernel, by decide +kernel⟩⟩
theorem kmX6_95 : cv_S RX6 95 yX6_isFigure iX6_isFigure 1 := ⟨⟨tw_432, tw_433, tw_43, tw_434⟩, ⟨by decide +kernel, by decide +kernel, by decide +kernel⟩⟩
theorem kmX6_65 : cv_V RX6 65 6 yX6_secondLeast iX6_secondLeast 1 := ⟨⟨tw_435, tw_436, tw_437, tw_43, tw_438⟩, ⟨rfl, by decide⟩, ⟨by decide +kernel, by decide +kernel, by decide +kernel⟩⟩
theorem kmX6_68 : cv_V RX6 68 6 yX6_secondMost iX6_secondMost 1 := ⟨⟨tw_439, tw_440, tw_441, tw_43, tw_442⟩, ⟨rfl, by decide⟩, ⟨by decide +kernel, by decide +kernel, by decide +kernel⟩⟩
theorem kmX6_71 : cv_V RX6 71 5 yX5_joinedTo iX5_joinedTo 1 := ⟨⟨tw_443, tw_444, tw_445, tw_40, tw_446⟩, ⟨rfl, by decide⟩, ⟨by decide +kernel, by decide +kernel, by decide +kernel⟩⟩
theorem kmX5_69 : cv_V RX5 69 5 yX5_hasRoom iX5_hasRoom 1 := ⟨⟨tw_447, tw_448, tw_449, tw_40, tw_450⟩, ⟨rfl, by decide⟩, ⟨by decide +kernel, by decide +kernel, by decide +kernel⟩⟩
theorem kmX6_81 : cv_V RX6 81 6 yX6_readEnd iX6_readEnd 0 := ⟨⟨tw_454, tw_455, tw_456, tw_43, tw_457⟩, ⟨rfl, by decide⟩, ⟨by decide +kernel, by decide +kernel, by decide +kernel⟩⟩
theorem kmX6_84 : cv_V RX6 84 5 yX5_add iX5_add 3 := ⟨⟨tw_458, tw_459, tw_460, tw_40, tw_461⟩, ⟨rfl, by decide⟩, ⟨by decide +kernel, by decide +kernel, by decide +kernel⟩⟩
theorem kmX5_62 : cv_V RX5 62 5 yX5_isFull iX5_isFull 1 := ⟨⟨tw_462, tw_413, tw_414, tw_40, tw_415⟩, ⟨rfl, by decide⟩, ⟨by decide +kernel, by decide +kernel, by decide +kernel⟩⟩
theorem kmX5_65 : cv_V RX5 65 5 yX5_join iX5_join 2 := ⟨⟨tw_463, tw_464, tw_465, tw_40, tw_466⟩, ⟨rfl, by decide⟩, ⟨by decide +kernel, by decide +kernel, by decide +kernel⟩⟩
theorem kmX9_91 : cv_V RX9 91 5 yX5_become iX5_become 1 := ⟨⟨tw_467, tw_468, tw_469, tw_40, tw_470⟩, ⟨rfl, by decide⟩, ⟨by decide +kernel, by decide +kernel, by decide +kernel⟩⟩
theorem kmX9_95 : cv_V RX9 95 8 yX8_open iX8_open 1 := ⟨⟨tw_474, tw_475, tw_476, tw_41, tw_477⟩, ⟨rfl, by decide⟩, ⟨by decide +kernel, by decide +kernel, by decide +kernel⟩⟩
theorem kmX9_98 : cv_V RX9 98 4 yX4_forget iX4_forget 0 := ⟨⟨tw_478, tw_479, tw_480, tw_44, tw_481⟩, ⟨rfl, by decide⟩, ⟨by decide +kernel, by decide +kernel, by decide +kernel⟩⟩
theorem kmX9_101 : cv_V RX9 101 3 yX3_clear iX3_clear 0 := ⟨⟨tw_482, tw_483, tw_484, tw_48, tw_485⟩, ⟨rfl, by decide⟩, ⟨by decide +kernel, by decide +kernel, by decide +kernel⟩⟩
theorem kmL_23 : cv_V RL 23 9 yX9_fault iX9_fault 0 := ⟨⟨tw_486, tw_487, tw_488, tw_39, tw_489⟩, ⟨rfl, by decide⟩, ⟨by decide +kernel, by decide +kernel, by decide +kernel⟩⟩
theorem kmL_27 : cv_V RL 27 9 yX9_told iX9_told 1 := ⟨⟨tw_490, tw_491, tw_492, tw_39, tw_493⟩, ⟨rfl, by decide⟩, ⟨by decide +kernel, by decide +kernel, by decide +kernel⟩⟩
theorem kmX9_132 : cv_V RX9 132 8 yX8_thingsAt iX8_thingsAt 1 := ⟨⟨tw_494, tw_495, tw_496, tw_41, tw_497⟩, ⟨rfl, by decide⟩, ⟨by decide +kernel, by decide +kernel, by decide +kernel⟩⟩
theorem kmX9_136 : cv_V RX9 136 5 yX5_worthOf iX5_worthOf 1 := ⟨⟨tw_498, tw_499, tw_500, tw_40, tw_501⟩, ⟨rfl, by decide⟩, ⟨by decide +kernel, by decide +kernel, by decide +kernel⟩⟩
theorem kmX5_87 : cv_S RX5 87 yX5_sumOf iX5_sumOf 2 := ⟨⟨tw_502, tw_503, tw_40, tw_504⟩, ⟨by decide +kernel, by decide +kernel, by decide +kernel⟩⟩
theorem kmL_31 : cv_V RL 31 9 yX9_room iX9_room 1 := ⟨⟨tw_506, tw_507, tw_508, tw_39, tw_509⟩, ⟨rfl, by decide⟩, ⟨by decide +kernel, by decide +kernel, by decide +kernel⟩⟩
theorem kmX9_147 : cv_V RX9 147 5 yX5_hasRoom iX5_hasRoom 1 := ⟨⟨tw_510, tw_448, tw_449, tw_40, tw_450⟩, ⟨rfl, by decide⟩, ⟨by decide +kernel, by decide +kernel, by decide +kernel⟩⟩
theorem kmX9_150 : cv_V RX9 150 5 yX5_joinedTo iX5_joinedTo 1 := ⟨⟨tw_511, tw_444, tw_445, tw_40, tw_446⟩, ⟨rfl, by decide⟩, ⟨by decide +kernel, by decide +kernel, by decide +kernel⟩⟩
theorem kmL_35 : cv_V RL 35 9 yX9_waiter iX9_waiter 2 := ⟨⟨tw_513, tw_514, tw_515, tw_39, tw_516⟩, ⟨rfl, by decide⟩, ⟨by decide +kernel, by decide +kernel, by decide +kernel⟩⟩
theorem kmX9_154 : cv_V RX9 154 5 yX5_hasWaiter iX5_hasWaiter 1 := ⟨⟨tw_517, tw_518, tw_519, tw_40, tw_520⟩, ⟨rfl, by decide⟩, ⟨by decide +kernel, by decide +kernel, by decide +kernel⟩⟩
theorem kmX9_157 : cv_V RX9 157 8 yX8_roomOf iX8_roomOf 1 := ⟨⟨tw_521, tw_522, tw_523, tw_41, tw_524⟩, ⟨rfl, by decide⟩, ⟨by decide +kernel, by decide +kernel, by decide +kernel⟩⟩
theorem kmX8_45 : cv_S RX8 45 yX8_isSeat iX8_isSeat 1 := ⟨⟨tw_525, tw_526, tw_41, tw_527⟩, ⟨by decide +kernel, by decide +kernel, by decide +kernel⟩⟩
theorem kmX9_164 : cv_S RX9 164 yX9_sideOf iX9_sideOf 2 := ⟨⟨tw_528, tw_529, tw_39, tw_530⟩, ⟨by decide +kernel, by decide +kernel, by decide +kernel⟩⟩
theorem kmX9_168 : cv_V RX9 168 8 yX8_thingsOf iX8_thingsOf 1 := ⟨⟨tw_531, tw_532, tw_533, tw_41, tw_534⟩, ⟨rfl, by decide⟩, ⟨by decide +kernel, by decide +kernel, by decide +kernel⟩⟩
theorem kmX8_57 : cv_V RX8 57 8 yX8_thingsAt iX8_thingsAt 1 := ⟨⟨tw_536, tw_495, tw_496, tw_41, tw_497⟩, ⟨rfl, by decide⟩, ⟨by decide +kernel, by decide +kernel, by decide +kernel⟩⟩
theorem kmX9_171 : cv_V RX9 171 5 yX5_weightOf iX5_weightOf 1 := ⟨⟨tw_537, tw_538, tw_539, tw_40, tw_540⟩, ⟨rfl, by decide⟩, ⟨by decide +kernel, by decide +kernel, by decide +kernel⟩⟩
theorem kmX9_174 : cv_V RX9 174 0 yX0_slant iX0_slant 1 := ⟨⟨tw_541, tw_542, tw_543, tw_45, tw_544⟩, ⟨rfl, by decide⟩, ⟨by decide +kernel, by decide +kernel, by decide +kernel⟩⟩
theorem kmX0_23 : cv_V RX0 23 8 yX8_thingsOf iX8_thingsOf 1 := ⟨⟨tw_545, tw_532, tw_533, tw_41, tw_534⟩, ⟨rfl, by decide⟩, ⟨by decide +kernel, by decide +kernel, by decide +kernel⟩⟩
theorem kmX0_33 : cv_V RX0 33 8 yX8_thingsAt iX8_thingsAt 1 := ⟨⟨tw_547, tw_495, tw_496, tw_41, tw_497⟩, ⟨rfl, by decide⟩, ⟨by decide +kernel, by decide +kernel, by decide +kernel⟩⟩
theorem kmX0_36 : cv_V RX0 36 5 yX5_difference iX5_difference 2 := ⟨⟨tw_548, tw_549, tw_550, tw_40, tw_551⟩, ⟨rfl, by decide⟩, ⟨by decide +kernel, by decide +kernel, by decide +kernel⟩⟩
theorem kmX5_91 : cv_V RX5 91 5 yX5_weightOf iX5_weightOf 1 := ⟨⟨tw_552, tw_538, tw_539, tw_40, tw_540⟩, ⟨rfl, by decide⟩, ⟨by decide +kernel, by decide +kernel, by decide +kernel⟩⟩
theorem kmX9_177 : cv_V RX9 177 8 yX8_routeOf iX8_routeOf 1 := ⟨⟨tw_556, tw_557, tw_558, tw_41, tw_559⟩, ⟨rfl, by decide⟩, ⟨by decide +kernel, by decide +kernel, by decide +kernel⟩⟩
theorem kmX9_180 : cv_S RX9 180 yX9_stepsOf iX9_stepsOf 1 := ⟨⟨tw_560, tw_561, tw_39, tw_562⟩, ⟨by decide +kernel, by decide +kernel, by decide +kernel⟩⟩
theorem kmX9_183 : cv_V RX9 183 8 yX8_treatiesOf iX8_treatiesOf 1 := ⟨⟨tw_563, tw_564, tw_565, tw_41, tw_566⟩, ⟨rfl, by decide⟩, ⟨by decide +kernel, by decide +kernel, by decide +kernel⟩⟩
theorem kmL_40 : cv_V RL 40 9 yX9_thing iX9_thing 2 := ⟨⟨tw_567, tw_568, tw_569, tw_39, tw_570⟩, ⟨rfl, by decide⟩, ⟨by decide +kernel, by decide +kernel, by decide +kernel⟩⟩
theorem kmX9_186 : cv_V RX9 186 5 yX5_hasThing iX5_hasThing 1 := ⟨⟨tw_571, tw_572, tw_573, tw_40, tw_574⟩, ⟨rfl, by decide⟩, ⟨by decide +kernel, by decide +kernel, by decide +kernel⟩⟩
theorem kmX9_195 : cv_V RX9 195 8 yX8_bearerOf iX8_bearerOf 1 := ⟨⟨tw_575, tw_576, tw_577, tw_41, tw_578⟩, ⟨rfl, by decide⟩, ⟨by decide +kernel, by decide +kernel, by decide +kernel⟩⟩
theorem kmX8_49 : cv_V RX8 49 8 yX8_placeOf iX8_placeOf 1 := ⟨⟨tw_579, tw_580, tw_581, tw_41, tw_582⟩, ⟨rfl, by decide⟩, ⟨by decide +kernel, by decide +kernel, by decide +kernel⟩⟩
theorem kmL_44 : cv_V RL 44 9 yX9_minute iX9_minute 1 := ⟨⟨tw_583, tw_584, tw_585, tw_39, tw_586⟩, ⟨rfl, by decide⟩, ⟨by decide +kernel, by decide +kernel, by decide +kernel⟩⟩
theorem kmX9_198 : cv_V RX9 198 9 yX9_refusalOfMinutes iX9_refusalOfMinutes 1 := ⟨⟨tw_587, tw_589, tw_0, tw_39, tw_590⟩, ⟨rfl, by decide⟩, ⟨by decide +kernel, by decide +kernel, by decide +kernel⟩⟩
theorem kmX9_201 : cv_V RX9 201 4 yX4_remember iX4_remember 1 := ⟨⟨tw_592, tw_593, tw_594, tw_44, tw_595⟩, ⟨rfl, by decide⟩, ⟨by decide +kernel, by decide +kernel, by decide +kernel⟩⟩
theorem kmX4_25 : cv_V RX4 25 8 yX8_become iX8_become 1 := ⟨⟨tw_596, tw_597, tw_598, tw_41, tw_599⟩, ⟨rfl, by decide⟩, ⟨by decide +kernel, by decide +kernel, by decide +kernel⟩⟩
theorem kmX9_205 : cv_V RX9 205 0 yX0_tick iX0_tick 0 := ⟨⟨tw_604, tw_605, tw_606, tw_45, tw_607⟩, ⟨rfl, by decide⟩, ⟨by decide +kernel, by decide +kernel, by decide +kernel⟩⟩
theorem kmX0_44 : cv_V RX0 44 8 yX8_step iX8_step 1 := ⟨⟨tw_608, tw_609, tw_610, tw_41, tw_611⟩, ⟨rfl, by decide⟩, ⟨by decide +kernel, by decide +kernel, by decide +kernel⟩⟩
theorem kmX0_48 : cv_V RX0 48 0 yX0_countMeetings iX0_countMeetings 0 := ⟨⟨tw_612, tw_613, tw_614, tw_45, tw_615⟩, ⟨rfl, by decide⟩, ⟨by decide +kernel, by decide +kernel, by decide +kernel⟩⟩
theorem kmX0_76 : cv_V RX0 76 0 yX0_haveMet iX0_haveMet 2 := ⟨⟨tw_616, tw_617, tw_618, tw_45, tw_619⟩, ⟨rfl, by decide⟩, ⟨by decide +kernel, by decide +kernel, by decide +kernel⟩⟩
theorem kmX0_85 : cv_V RX0 85 5 yX5_hasTwoWaiters iX5_hasTwoWaiters 2 := ⟨⟨tw_620, tw_621, tw_622, tw_40, tw_623⟩, ⟨rfl, by decide⟩, ⟨by decide +kernel, by decide +kernel, by decide +kernel⟩⟩
theorem kmX5_58 : cv_V RX5 58 5 yX5_hasWaiter iX5_hasWaiter 1 := ⟨⟨tw_624, tw_518, tw_519, tw_40, tw_520⟩, ⟨rfl, by decide⟩, ⟨by decide +kernel, by decide +kernel, by decide +kernel⟩⟩
theorem kmX0_88 : cv_S RX0 88 yX0_meetBetween iX0_meetBetween 4 := ⟨⟨tw_625, tw_626, tw_45, tw_627⟩, ⟨by decide +kernel, by decide +kernel, by decide +kernel⟩⟩
theorem kmX0_82 : cv_V RX0 82 8 yX8_treatiesOf iX8_treatiesOf 1 := ⟨⟨tw_628, tw_564, tw_565, tw_41, tw_566⟩, ⟨rfl, by decide⟩, ⟨by decide +kernel, by decide +kernel, by decide +kernel⟩⟩
theorem kmX0_60 : cv_V RX0 60 0 yX0_slant iX0_slant 1 := ⟨⟨tw_630, tw_542, tw_543, tw_45, tw_544⟩, ⟨rfl, by decide⟩, ⟨by decide +kernel, by decide +kernel, by decide +kernel⟩⟩
theorem kmX0_66 : cv_V RX0 66 5 yX5_heaviestOf iX5_heaviestOf 1 := ⟨⟨tw_631, tw_632, tw_633, tw_40, tw_634⟩, ⟨rfl, by decide⟩, ⟨by decide +kernel, by decide +kernel, by decide +kernel⟩⟩
theorem kmX0_69 : cv_V RX0 69 8 yX8_put iX8_put 2 := ⟨⟨tw_635, tw_636, tw_637, tw_41, tw_638⟩, ⟨rfl, by decide⟩, ⟨by decide +kernel, by decide +kernel, by decide +kernel⟩⟩
theorem kmL_48 : cv_V RL 48 9 yX9_route iX9_route 2 := ⟨⟨tw_639, tw_640, tw_641, tw_39, tw_642⟩, ⟨rfl, by decide⟩, ⟨by decide +kernel, by decide +kernel, by decide +kernel⟩⟩
theorem kmX9_209 : cv_V RX9 209 5 yX5_hasAllRooms iX5_hasAllRooms 1 := ⟨⟨tw_644, tw_645, tw_646, tw_40, tw_647⟩, ⟨rfl, by decide⟩, ⟨by decide +kernel, by decide +kernel, by decide +kernel⟩⟩
theorem kmX9_212 : cv_S RX9 212 yX9_turnedRound iX9_turnedRound 1 := ⟨⟨tw_648, tw_649, tw_39, tw_650⟩, ⟨by decide +kernel, by decide +kernel, by decide +kernel⟩⟩
theorem kmX9_215 : cv_V RX9 215 5 yX5_canBeGone iX5_canBeGone 2 := ⟨⟨tw_651, tw_652, tw_653, tw_40, tw_654⟩, ⟨rfl, by decide⟩, ⟨by decide +kernel, by decide +kernel, by decide +kernel⟩⟩
theorem kmX5_76 : cv_V RX5 76 5 yX5_joinedTo iX5_joinedTo 1 := ⟨⟨tw_655, tw_444, tw_445, tw_40, tw_446⟩, ⟨rfl, by decide⟩, ⟨by decide +kernel, by decide +kernel, by decide +kernel⟩⟩
theorem kmX9_220 : cv_V RX9 220 8 yX8_setRoute iX8_setRoute 2 := ⟨⟨tw_656, tw_657, tw_658, tw_41, tw_659⟩, ⟨rfl, by decide⟩, ⟨by decide +kernel, by decide +kernel, by decide +kernel⟩⟩
theorem kmL_52 : cv_V RL 52 9 yX9_lay iX9_lay 3 := ⟨⟨tw_660, tw_661, tw_662, tw_39, tw_663⟩, ⟨rfl, by decide⟩, ⟨by decide +kernel, by decide +kernel, by decide +kernel⟩⟩
theorem kmX9_224 : cv_V RX9 224 8 yX8_isAtHand iX8_isAtHand 2 := ⟨⟨tw_664, tw_665, tw_666, tw_41, tw_667⟩, ⟨rfl, by decide⟩, ⟨by decide +kernel, by decide +kernel, by decide +kernel⟩⟩
theorem kmX8_60 : cv_V RX8 60 8 yX8_bearerOf iX8_bearerOf 1 := ⟨⟨tw_668, tw_576, tw_577, tw_41, tw_578⟩, ⟨rfl, by decide⟩, ⟨by decide +kernel, by decide +kernel, by decide +kernel⟩⟩
theorem kmX8_63 : cv_V RX8 63 8 yX8_roomOf iX8_roomOf 1 := ⟨⟨tw_669, tw_522, tw_523, tw_41, tw_524⟩, ⟨rfl, by decide⟩, ⟨by decide +kernel, by decide +kernel, by decide +kernel⟩⟩
theorem kmX9_227 : cv_V RX9 227 8 yX8_put iX8_put 2 := ⟨⟨tw_670, tw_636, tw_637, tw_41, tw_638⟩, ⟨rfl, by decide⟩, ⟨by decide +kernel, by decide +kernel, by decide +kernel⟩⟩
theorem kmL_57 : cv_V RL 57 9 yX9_takeOff iX9_takeOff 1 := ⟨⟨tw_671, tw_672, tw_673, tw_39, tw_674⟩, ⟨rfl, by decide⟩, ⟨by decide +kernel, by decide +kernel, by decide +kernel⟩⟩
theorem kmL_61 : cv_V RL 61 9 yX9_treaty iX9_treaty 3 := ⟨⟨tw_675, tw_676, tw_677, tw_39, tw_678⟩, ⟨rfl, by decide⟩, ⟨by decide +kernel, by decide +kernel, by decide +kernel⟩⟩
theorem kmX9_230 : cv_V RX9 230 5 yX5_hasTwoWaiters iX5_hasTwoWaiters 2 := ⟨⟨tw_679, tw_621, tw_622, tw_40, tw_623⟩, ⟨rfl, by decide⟩, ⟨by decide +kernel, by decide +kernel, by decide +kernel⟩⟩
theorem kmX9_233 : cv_S RX9 233 yX9_has iX9_has 2 := ⟨⟨tw_680, tw_452, tw_39, tw_453⟩, ⟨by decide +kernel, by decide +kernel, by decide +kernel⟩⟩
theorem kmX9_236 : cv_V RX9 236 8 yX8_setTreaty iX8_setTreaty 3 := ⟨⟨tw_681, tw_682, tw_683, tw_41, tw_684⟩, ⟨rfl, by decide⟩, ⟨by decide +kernel, by decide +kernel, by decide +kernel⟩⟩
theorem kmL_66 : cv_V RL 66 9 yX9_drift iX9_drift 1 := ⟨⟨tw_685, tw_686, tw_687, tw_39, tw_688⟩, ⟨rfl, by decide⟩, ⟨by decide +kernel, by decide +kernel, by decide +kernel⟩⟩
theorem kmX9_240 : cv_V RX9 240 0 yX0_drawRoute iX0_drawRoute 0 := ⟨⟨tw_689, tw_690, tw_691, tw_45, tw_692⟩, ⟨rfl, by decide⟩, ⟨by decide +kernel, by decide +kernel, by decide +kernel⟩⟩
theorem kmX0_92 : cv_V RX0 92 0 yX0_draw iX0_draw 1 := ⟨⟨tw_693, tw_694, tw_695, tw_45, tw_696⟩, ⟨rfl, by decide⟩, ⟨by decide +kernel, by decide +kernel, by decide +kernel⟩⟩
theorem kmX0_95 : cv_V RX0 95 8 yX8_roomOf iX8_roomOf 1 := ⟨⟨tw_701, tw_522, tw_523, tw_41, tw_524⟩, ⟨rfl, by decide⟩, ⟨by decide +kernel, by decide +kernel, by decide +kernel⟩⟩
theorem kmX0_98 : cv_V RX0 98 5 yX5_joinedTo iX5_joinedTo 1 := ⟨⟨tw_702, tw_444, tw_445, tw_40, tw_446⟩, ⟨rfl, by decide⟩, ⟨by decide +kernel, by decide +kernel, by decide +kernel⟩⟩
theorem kmX0_101 : cv_V RX0 101 8 yX8_routeOf iX8_routeOf 1 := ⟨⟨tw_703, tw_557, tw_558, tw_41, tw_559⟩, ⟨rfl, by decide⟩, ⟨by decide +kernel, by decide +kernel, by decide +kernel⟩⟩
theorem kmX0_104 : cv_S RX0 104 yJ6_bitCount_0f7a4 iJ6_bitCount_0f7a4 1 := ⟨⟨tw_704, tw_705, tw_52, tw_706⟩, ⟨by decide +kernel, by decide +kernel, by decide +kernel⟩⟩
theorem kmX0_109 : cv_S RX0 109 yX0_memberOf iX0_memberOf 2 := ⟨⟨tw_710, tw_711, tw_45, tw_712⟩, ⟨by decide +kernel, by decide +kernel, by decide +kernel⟩⟩
theorem kmX0_112 : cv_V RX0 112 8 yX8_setRoute iX8_setRoute 2 := ⟨⟨tw_713, tw_657, tw_658, tw_41, tw_659⟩, ⟨rfl, by decide⟩, ⟨by decide +kernel, by decide +kernel, by decide +kernel⟩⟩
theorem kmL_70 : cv_V RL 70 9 yX9_undo iX9_undo 0 := ⟨⟨tw_714, tw_715, tw_716, tw_39, tw_717⟩, ⟨rfl, by decide⟩, ⟨by decide +kernel, by decide +kernel, by decide +kernel⟩⟩
theorem kmX9_243 : cv_V RX9 243 4 yX4_bringBack iX4_bringBack 1 := ⟨⟨tw_718, tw_719, tw_720, tw_44, tw_721⟩, ⟨rfl, by decide⟩, ⟨by decide +kernel, by decide +kernel, by decide +kernel⟩⟩
theorem kmL_74 : cv_V RL 74 9 yX9_where iX9_where 2 := ⟨⟨tw_722, tw_723, tw_724, tw_39, tw_725⟩, ⟨rfl, by decide⟩, ⟨by decide +kernel, by decide +kernel, by decide +kernel⟩⟩
theorem kmX9_247 : cv_S RX9 247 yX9_isForeseen iX9_isForeseen 2 := ⟨⟨tw_726, tw_727, tw_39, tw_728⟩, ⟨by decide +kernel, by decide +kernel, by decide +kernel⟩⟩
theorem kmX9_250 : cv_V RX9 250 8 yX8_roomAfter iX8_roomAfter 2 := ⟨⟨tw_729, tw_730, tw_731, tw_41, tw_732⟩, ⟨rfl, by decide⟩, ⟨by decide +kernel, by decide +kernel, by decide +kernel⟩⟩
theorem kmX8_66 : cv_V RX8 66 8 yX8_routeOf iX8_routeOf 1 := ⟨⟨tw_733, tw_557, tw_558, tw_41, tw_559⟩, ⟨rfl, by decide⟩, ⟨by decide +kernel, by decide +kernel, by decide +kernel⟩⟩
theorem kmL_78 : cv_V RL 78 9 yX9_meets iX9_meets 2 := ⟨⟨tw_734, tw_735, tw_736, tw_39, tw_737⟩, ⟨rfl, by decide⟩, ⟨by decide +kernel, by decide +kernel, by decide +kernel⟩⟩
theorem kmX9_253 : cv_V RX9 253 1 yX1_firstMeeting iX1_firstMeeting 2 := ⟨⟨tw_738, tw_739, tw_740, tw_46, tw_741⟩, ⟨rfl, by decide⟩, ⟨by decide +kernel, by decide +kernel, by decide +kernel⟩⟩
theorem kmX1_35 : cv_V RX1 35 1 yX1_layTracks iX1_layTracks 0 := ⟨⟨tw_742, tw_743, tw_744, tw_46, tw_745⟩, ⟨rfl, by decide⟩, ⟨by decide +kernel, by decide +kernel, by decide +kernel⟩⟩
theorem kmX1_81 : cv_V RX1 81 8 yX8_routeOf iX8_routeOf 1 := ⟨⟨tw_746, tw_557, tw_558, tw_41, tw_559⟩, ⟨rfl, by decide⟩, ⟨by decide +kernel, by decide +kernel, by decide +kernel⟩⟩
theorem kmX1_90 : cv_V RX1 90 8 yX8_roomAfter iX8_roomAfter 2 := ⟨⟨tw_748, tw_730, tw_731, tw_41, tw_732⟩, ⟨rfl, by decide⟩, ⟨by decide +kernel, by decide +kernel, by decide +kernel⟩⟩
theorem kmX1_38 : cv_V RX1 38 1 yX1_meetingOf iX1_meetingOf 4 := ⟨⟨tw_749, tw_750, tw_751, tw_46, tw_752⟩, ⟨rfl, by decide⟩, ⟨by decide +kernel, by decide +kernel, by decide +kernel⟩⟩
theorem kmX1_98 : cv_V RX1 98 1 yX1_trackAt iX1_trackAt 2 := ⟨⟨tw_753, tw_754, tw_755, tw_46, tw_756⟩, ⟨rfl, by decide⟩, ⟨by decide +kernel, by decide +kernel, by decide +kernel⟩⟩
theorem kmX1_46 : cv_V RX1 46 5 yX5_hasWaiter iX5_hasWaiter 1 := ⟨⟨tw_757, tw_518, tw_519, tw_40, tw_520⟩, ⟨rfl, by decide⟩, ⟨by decide +kernel, by decide +kernel, by decide +kernel⟩⟩
theorem kmX1_101 : cv_S RX1 101 yX0_meetBetween iX0_meetBetween 4 := ⟨⟨tw_761, tw_626, tw_45, tw_627⟩, ⟨by decide +kernel, by decide +kernel, by decide +kernel⟩⟩
theorem kmL_82 : cv_V RL 82 9 yX9_way iX9_way 3 := ⟨⟨tw_762, tw_763, tw_764, tw_39, tw_765⟩, ⟨rfl, by decide⟩, ⟨by decide +kernel, by decide +kernel, by decide +kernel⟩⟩
theorem kmX9_256 : cv_V RX9 256 5 yX5_distance iX5_distance 2 := ⟨⟨tw_766, tw_767, tw_768, tw_40, tw_769⟩, ⟨rfl, by decide⟩, ⟨by decide +kernel, by decide +kernel, by decide +kernel⟩⟩
theorem kmX5_80 : cv_V RX5 80 5 yX5_joinedToAny iX5_joinedToAny 1 := ⟨⟨tw_770, tw_771, tw_772, tw_40, tw_773⟩, ⟨rfl, by decide⟩, ⟨by decide +kernel, by decide +kernel, by decide +kernel⟩⟩
theorem kmX9_259 : cv_V RX9 259 5 yX5_nextTowards iX5_nextTowards 2 := ⟨⟨tw_774, tw_775, tw_776, tw_40, tw_777⟩, ⟨rfl, by decide⟩, ⟨by decide +kernel, by decide +kernel, by decide +kernel⟩⟩
theorem kmX5_83 : cv_V RX5 83 5 yX5_distance iX5_distance 2 := ⟨⟨tw_778, tw_767, tw_768, tw_40, tw_769⟩, ⟨rfl, by decide⟩, ⟨by decide +kernel, by decide +kernel, by decide +kernel⟩⟩
theorem kmL_86 : cv_V RL 86 9 yX9_delays iX9_delays 1 := ⟨⟨tw_779, tw_780, tw_781, tw_39, tw_782⟩, ⟨rfl, by decide⟩, ⟨by decide +kernel, by decide +kernel, by decide +kernel⟩⟩
theorem kmX9_262 : cv_V RX9 262 1 yX1_seek iX1_seek 0 := ⟨⟨tw_783, tw_784, tw_785, tw_46, tw_786⟩, ⟨rfl, by decide⟩, ⟨by decide +kernel, by decide +kernel, by decide +kernel⟩⟩
theorem kmX1_53 : cv_V RX1 53 1 yX1_markClashes iX1_markClashes 0 := ⟨⟨tw_787, tw_788, tw_789, tw_46, tw_790⟩, ⟨rfl, by decide⟩, ⟨by decide +kernel, by decide +kernel, by decide +kernel⟩⟩
theorem kmX1_107 : cv_V RX1 107 1 yX1_setClashes iX1_setClashes 2 := ⟨⟨tw_791, tw_792, tw_793, tw_46, tw_794⟩, ⟨rfl, by decide⟩, ⟨by decide +kernel, by decide +kernel, by decide +kernel⟩⟩
theorem kmX1_111 : cv_V RX1 111 5 yX5_hasTwoWaiters iX5_hasTwoWaiters 2 := ⟨⟨tw_795, tw_621, tw_622, tw_40, tw_623⟩, ⟨rfl, by decide⟩, ⟨by decide +kernel, by decide +kernel, by decide +kernel⟩⟩
theorem kmX1_67 : cv_V RX1 67 1 yX1_endOfAll iX1_endOfAll 0 := ⟨⟨tw_803, tw_804, tw_805, tw_46, tw_806⟩, ⟨rfl, by decide⟩, ⟨by decide +kernel, by decide +kernel, by decide +kernel⟩⟩
theorem kmX1_71 : cv_V RX1 71 1 yX1_haveClash iX1_haveClash 0 := ⟨⟨tw_807, tw_808, tw_809, tw_46, tw_810⟩, ⟨rfl, by decide⟩, ⟨by decide +kernel, by decide +kernel, by decide +kernel⟩⟩
theorem kmX9_265 : cv_V RX9 265 1 yX1_answer iX1_answer 1 := ⟨⟨tw_813, tw_814, tw_815, tw_46, tw_816⟩, ⟨rfl, by decide⟩, ⟨by decide +kernel, by decide +kernel, by decide +kernel⟩⟩
theorem kmL_90 : cv_V RL 90 9 yX9_served iX9_served 1 := ⟨⟨tw_818, tw_819, tw_820, tw_39, tw_821⟩, ⟨rfl, by decide⟩, ⟨by decide +kernel, by decide +kernel, by decide +kernel⟩⟩
theorem kmX9_268 : cv_V RX9 268 5 yX5_hasOrder iX5_hasOrder 1 := ⟨⟨tw_822, tw_823, tw_824, tw_40, tw_825⟩, ⟨rfl, by decide⟩, ⟨by decide +kernel, by decide +kernel, by decide +kernel⟩⟩
theorem kmX9_271 : cv_V RX9 271 7 yX7_seek iX7_seek 0 := ⟨⟨tw_826, tw_827, tw_828, tw_47, tw_829⟩, ⟨rfl, by decide⟩, ⟨by decide +kernel, by decide +kernel, by decide +kernel⟩⟩
theorem kmX7_43 : cv_V RX7 43 7 yX7_markInTime iX7_markInTime 0 := ⟨⟨tw_830, tw_831, tw_832, tw_47, tw_833⟩, ⟨rfl, by decide⟩, ⟨by decide +kernel, by decide +kernel, by decide +kernel⟩⟩
theorem kmX7_70 : cv_V RX7 70 8 yX8_roomOf iX8_roomOf 1 := ⟨⟨tw_834, tw_522, tw_523, tw_41, tw_524⟩, ⟨rfl, by decide⟩, ⟨by decide +kernel, by decide +kernel, by decide +kernel⟩⟩
theorem kmX7_79 : cv_V RX7 79 5 yX5_distance iX5_distance 2 := ⟨⟨tw_835, tw_767, tw_768, tw_40, tw_769⟩, ⟨rfl, by decide⟩, ⟨by decide +kernel, by decide +kernel, by decide +kernel⟩⟩
theorem kmX7_60 : cv_V RX7 60 7 yX7_ordersTaken iX7_ordersTaken 0 := ⟨⟨tw_838, tw_839, tw_840, tw_47, tw_841⟩, ⟨rfl, by decide⟩, ⟨by decide +kernel, by decide +kernel, by decide +kernel⟩⟩
theorem kmX9_272 : cv_V RX9 272 7 yX7_answer iX7_answer 1 := ⟨⟨tw_844, tw_845, tw_846, tw_47, tw_847⟩, ⟨rfl, by decide⟩, ⟨by decide +kernel, by decide +kernel, by decide +kernel⟩⟩
theorem kmX7_33 : cv_V RX7 33 5 yX5_hasOrder iX5_hasOrder 1 := ⟨⟨tw_848, tw_823, tw_824, tw_40, tw_825⟩, ⟨rfl, by decide⟩, ⟨by decide +kernel, by decide +kernel, by decide +kernel⟩⟩
theorem kmX7_40 : cv_V RX7 40 5 yX5_hasWaiter iX5_hasWaiter 1 := ⟨⟨tw_850, tw_518, tw_519, tw_40, tw_520⟩, ⟨rfl, by decide⟩, ⟨by decide +kernel, by decide +kernel, by decide +kernel⟩⟩
theorem kmL_94 : cv_V RL 94 9 yX9_evened iX9_evened 2 := ⟨⟨tw_851, tw_852, tw_853, tw_39, tw_854⟩, ⟨rfl, by decide⟩, ⟨by decide +kernel, by decide +kernel, by decide +kernel⟩⟩
theorem kmX9_273 : cv_V RX9 273 5 yX5_evenestLeft iX5_evenestLeft 1 := ⟨⟨tw_855, tw_856, tw_857, tw_40, tw_858⟩, ⟨rfl, by decide⟩, ⟨by decide +kernel, by decide +kernel, by decide +kernel⟩⟩
theorem kmX5_99 : cv_V RX5 99 5 yX5_difference iX5_difference 2 := ⟨⟨tw_859, tw_549, tw_550, tw_40, tw_551⟩, ⟨rfl, by decide⟩, ⟨by decide +kernel, by decide +kernel, by decide +kernel⟩⟩
theorem kmX9_276 : cv_V RX9 276 5 yX5_difference iX5_difference 2 := ⟨⟨tw_860, tw_549, tw_550, tw_40, tw_551⟩, ⟨rfl, by decide⟩, ⟨by decide +kernel, by decide +kernel, by decide +kernel⟩⟩
theorem kmL_98 : cv_V RL 98 9 yX9_packed iX9_packed 2 := ⟨⟨tw_861, tw_862, tw_863, tw_39, tw_864⟩, ⟨rfl, by decide⟩, ⟨by decide +kernel, by decide +kernel, by decide +kernel⟩⟩
theorem kmX9_279 : cv_V RX9 279 5 yX5_worthiest iX5_worthiest 2 := ⟨⟨tw_865, tw_866, tw_867, tw_40, tw_868⟩, ⟨rfl, by decide⟩, ⟨by decide +kernel, by decide +kernel, by decide +kernel⟩⟩
theorem kmX5_102 : cv_V RX5 102 5 yX5_worthOf iX5_worthOf 1 := ⟨⟨tw_869, tw_499, tw_500, tw_40, tw_501⟩, ⟨rfl, by decide⟩, ⟨by decide +kernel, by decide +kernel, by decide +kernel⟩⟩
theorem kmL_102 : cv_V RL 102 9 yX9_covered iX9_covered 2 := ⟨⟨tw_870, tw_871, tw_872, tw_39, tw_873⟩, ⟨rfl, by decide⟩, ⟨by decide +kernel, by decide +kernel, by decide +kernel⟩⟩
theorem kmX9_282 : cv_V RX9 282 5 yX5_joinedToAny iX5_joinedToAny 1 := ⟨⟨tw_874, tw_771, tw_772, tw_40, tw_773⟩, ⟨rfl, by decide⟩, ⟨by decide +kernel, by decide +kernel, by decide +kernel⟩⟩
theorem kmL_106 : cv_V RL 106 9 yX9_calm iX9_calm 2 := ⟨⟨tw_875, tw_876, tw_877, tw_39, tw_878⟩, ⟨rfl, by decide⟩, ⟨by decide +kernel, by decide +kernel, by decide +kernel⟩⟩
theorem kmL_110 : cv_V RL 110 9 yX9_see iX9_see 3 := ⟨⟨tw_881, tw_882, tw_883, tw_39, tw_884⟩, ⟨rfl, by decide⟩, ⟨by decide +kernel, by decide +kernel, by decide +kernel⟩⟩
theorem kmX9_289 : cv_V RX9 289 3 yX3_addSight iX3_addSight 3 := ⟨⟨tw_885, tw_886, tw_887, tw_48, tw_888⟩, ⟨rfl, by decide⟩, ⟨by decide +kernel, by decide +kernel, by decide +kernel⟩⟩
theorem kmL_114 : cv_V RL 114 9 yX9_spiller iX9_spiller 0 := ⟨⟨tw_889, tw_890, tw_891, tw_39, tw_892⟩, ⟨rfl, by decide⟩, ⟨by decide +kernel, by decide +kernel, by decide +kernel⟩⟩
theorem kmX9_293 : cv_V RX9 293 3 yX3_suspects iX3_suspects 0 := ⟨⟨tw_893, tw_894, tw_895, tw_48, tw_896⟩, ⟨rfl, by decide⟩, ⟨by decide +kernel, by decide +kernel, by decide +kernel⟩⟩
theorem kmX3_48 : cv_V RX3 48 3 yX3_fitsAllSeen iX3_fitsAllSeen 1 := ⟨⟨tw_897, tw_898, tw_899, tw_48, tw_900⟩, ⟨rfl, by decide⟩, ⟨by decide +kernel, by decide +kernel, by decide +kernel⟩⟩
theorem kmX3_52 : cv_V RX3 52 8 yX8_roomsCameTo iX8_roomsCameTo 2 := ⟨⟨tw_901, tw_902, tw_903, tw_41, tw_904⟩, ⟨rfl, by decide⟩, ⟨by decide +kernel, by decide +kernel, by decide +kernel⟩⟩
theorem kmL_118 : cv_V RL 118 9 yX9_look iX9_look 0 := ⟨⟨tw_906, tw_907, tw_908, tw_39, tw_909⟩, ⟨rfl, by decide⟩, ⟨by decide +kernel, by decide +kernel, by decide +kernel⟩⟩
theorem kmX9_296 : cv_V RX9 296 3 yX3_bestRoom iX3_bestRoom 0 := ⟨⟨tw_910, tw_911, tw_912, tw_48, tw_913⟩, ⟨rfl, by decide⟩, ⟨by decide +kernel, by decide +kernel, by decide +kernel⟩⟩
theorem kmX3_62 : cv_V RX3 62 3 yX3_suspects iX3_suspects 0 := ⟨⟨tw_914, tw_894, tw_895, tw_48, tw_896⟩, ⟨rfl, by decide⟩, ⟨by decide +kernel, by decide +kernel, by decide +kernel⟩⟩
theorem kmX3_66 : cv_S RX3 66 yJ6_bitCount_0f7a4 iJ6_bitCount_0f7a4 1 := ⟨⟨tw_915, tw_705, tw_52, tw_706⟩, ⟨by decide +kernel, by decide +kernel, by decide +kernel⟩⟩
theorem kmX3_75 : cv_V RX3 75 3 yX3_countComingTo iX3_countComingTo 2 := ⟨⟨tw_916, tw_917, tw_918, tw_48, tw_919⟩, ⟨rfl, by decide⟩, ⟨by decide +kernel, by decide +kernel, by decide +kernel⟩⟩
theorem kmL_122 : cv_V RL 122 9 yX9_write iX9_write 2 := ⟨⟨tw_921, tw_922, tw_923, tw_39, tw_924⟩, ⟨rfl, by decide⟩, ⟨by decide +kernel, by decide +kernel, by decide +kernel⟩⟩
theorem kmX9_299 : cv_V RX9 299 3 yX3_addEntry iX3_addEntry 2 := ⟨⟨tw_925, tw_926, tw_927, tw_48, tw_928⟩, ⟨rfl, by decide⟩, ⟨by decide +kernel, by decide +kernel, by decide +kernel⟩⟩
theorem kmL_126 : cv_V RL 126 9 yX9_tear iX9_tear 0 := ⟨⟨tw_929, tw_930, tw_931, tw_39, tw_932⟩, ⟨rfl, by decide⟩, ⟨by decide +kernel, by decide +kernel, by decide +kernel⟩⟩
theorem kmL_130 : cv_V RL 130 9 yX9_judge iX9_judge 0 := ⟨⟨tw_933, tw_934, tw_935, tw_39, tw_936⟩, ⟨rfl, by decide⟩, ⟨by decide +kernel, by decide +kernel, by decide +kernel⟩⟩
theorem kmX9_302 : cv_V RX9 302 3 yX3_firstWrong iX3_firstWrong 0 := ⟨⟨tw_937, tw_938, tw_939, tw_48, tw_940⟩, ⟨rfl, by decide⟩, ⟨by decide +kernel, by decide +kernel, by decide +kernel⟩⟩
theorem kmX3_83 : cv_V RX3 83 8 yX8_roomOf iX8_roomOf 1 := ⟨⟨tw_941, tw_522, tw_523, tw_41, tw_524⟩, ⟨rfl, by decide⟩, ⟨by decide +kernel, by decide +kernel, by decide +kernel⟩⟩
theorem kmL_134 : cv_V RL 134 9 yX9_seed iX9_seed 1 := ⟨⟨tw_942, tw_943, tw_944, tw_39, tw_945⟩, ⟨rfl, by decide⟩, ⟨by decide +kernel, by decide +kernel, by decide +kernel⟩⟩
theorem kmL_138 : cv_V RL 138 9 yX9_keep iX9_keep 1 := ⟨⟨tw_946, tw_947, tw_948, tw_39, tw_949⟩, ⟨rfl, by decide⟩, ⟨by decide +kernel, by decide +kernel, by decide +kernel⟩⟩
theorem kmX9_311 : cv_V RX9 311 8 yX8_become iX8_become 1 := ⟨⟨tw_950, tw_597, tw_598, tw_41, tw_599⟩, ⟨rfl, by decide⟩, ⟨by decide +kernel, by decide +kernel, by decide +kernel⟩⟩
theorem kmL_142 : cv_V RL 142 9 yX9_goBack iX9_goBack 1 := ⟨⟨tw_951, tw_952, tw_953, tw_39, tw_954⟩, ⟨rfl, by decide⟩, ⟨by decide +kernel, by decide +kernel, by decide +kernel⟩⟩
theorem kmL_12 : cv_I RL 12 yX10_init iX10_init 0 := ⟨⟨tw_957, tw_958, tw_49, tw_959⟩, ⟨by decide +kernel, rfl⟩, ⟨by decide +kernel, by decide +kernel, by decide +kernel⟩⟩
theorem kmL_17 : cv_V RL 17 10 yX10_feed iX10_feed 1 := ⟨⟨tw_1100, tw_1101, tw_1102, tw_49, tw_1103⟩, ⟨rfl, by decide⟩, ⟨by decide +kernel, by decide +kernel, by decide +kernel⟩⟩
theorem kmX10_93 : cv_S RX10 93 yX10_in iX10_in 3 := ⟨⟨tw_1105, tw_1106, tw_49, tw_1107⟩, ⟨by decide +kernel, by decide +kernel, by decide +kernel⟩⟩
theorem kmL_22 : cv_V RL 22 10 yX10_hotel iX10_hotel 0 := ⟨⟨tw_1110, tw_1111, tw_1112, tw_49, tw_1113⟩, ⟨rfl, by decide⟩, ⟨by decide +kernel, by decide +kernel, by decide +kernel⟩⟩
theorem kmX10_127 : cv_V RX10 127 10 yX10_here iX10_here 0 := ⟨⟨tw_1114, tw_1116, tw_1, tw_49, tw_1117⟩, ⟨rfl, by decide⟩, ⟨by decide +kernel, by decide +kernel, by decide +kernel⟩⟩
theorem kmX10_117 : cv_V RX10 117 10 yX10_letterAt iX10_letterAt 1 := ⟨⟨tw_1118, tw_1120, tw_2, tw_49, tw_1121⟩, ⟨rfl, by decide⟩, ⟨by decide +kernel, by decide +kernel, by decide +kernel⟩⟩
theorem kmX10_188 : cv_V RX10 188 10 yX10_takesClause iX10_takesClause 0 := ⟨⟨tw_1122, tw_1124, tw_3, tw_49, tw_1125⟩, ⟨rfl, by decide⟩, ⟨by decide +kernel, by decide +kernel, by decide +kernel⟩⟩
theorem kmX10_131 : cv_V RX10 131 10 yX10_fails iX10_fails 2 := ⟨⟨tw_1126, tw_1128, tw_4, tw_49, tw_1129⟩, ⟨rfl, by decide⟩, ⟨by decide +kernel, by decide +kernel, by decide +kernel⟩⟩
theorem kmX10_182 : cv_V RX10 182 10 yX10_takesWords iX10_takesWords 1 := ⟨⟨tw_1130, tw_1132, tw_5, tw_49, tw_1133⟩, ⟨rfl, by decide⟩, ⟨by decide +kernel, by decide +kernel, by decide +kernel⟩⟩
theorem kmX10_166 : cv_V RX10 166 10 yX10_takesHotel iX10_takesHotel 0 := ⟨⟨tw_1134, tw_1136, tw_6, tw_49, tw_1137⟩, ⟨rfl, by decide⟩, ⟨by decide +kernel, by decide +kernel, by decide +kernel⟩⟩
theorem kmX10_142 : cv_V RX10 142 10 yX10_takesNumber iX10_takesNumber 2 := ⟨⟨tw_1138, tw_1140, tw_7, tw_49, tw_1141⟩, ⟨rfl, by decide⟩, ⟨by decide +kernel, by decide +kernel, by decide +kernel⟩⟩
theorem kmX10_170 : cv_V RX10 170 10 yX10_takesPassage iX10_takesPassage 0 := ⟨⟨tw_1144, tw_1146, tw_8, tw_49, tw_1147⟩, ⟨rfl, by decide⟩, ⟨by decide +kernel, by decide +kernel, by decide +kernel⟩⟩
theorem kmX10_151 : cv_S RX10 151 yX10_has iX10_has 2 := ⟨⟨tw_1148, tw_1149, tw_49, tw_1150⟩, ⟨by decide +kernel, by decide +kernel, by decide +kernel⟩⟩
theorem kmX10_173 : cv_V RX10 173 10 yX10_takesWaiter iX10_takesWaiter 0 := ⟨⟨tw_1151, tw_1153, tw_9, tw_49, tw_1154⟩, ⟨rfl, by decide⟩, ⟨by decide +kernel, by decide +kernel, by decide +kernel⟩⟩
theorem kmX10_176 : cv_V RX10 176 10 yX10_takesThing iX10_takesThing 0 := ⟨⟨tw_1155, tw_1157, tw_10, tw_49, tw_1158⟩, ⟨rfl, by decide⟩, ⟨by decide +kernel, by decide +kernel, by decide +kernel⟩⟩
theorem kmX10_179 : cv_V RX10 179 10 yX10_takesOrder iX10_takesOrder 0 := ⟨⟨tw_1159, tw_1161, tw_11, tw_49, tw_1162⟩, ⟨rfl, by decide⟩, ⟨by decide +kernel, by decide +kernel, by decide +kernel⟩⟩
theorem kmX10_185 : cv_V RX10 185 10 yX10_takes iX10_takes 1 := ⟨⟨tw_1163, tw_1165, tw_12, tw_49, tw_1166⟩, ⟨rfl, by decide⟩, ⟨by decide +kernel, by decide +kernel, by decide +kernel⟩⟩
theorem kmL_26 : cv_V RL 26 10 yX10_fault iX10_fault 0 := ⟨⟨tw_1167, tw_1168, tw_1169, tw_49, tw_1170⟩, ⟨rfl, by decide⟩, ⟨by decide +kernel, by decide +kernel, by decide +kernel⟩⟩
theorem kmL_30 : cv_V RL 30 10 yX10_told iX10_told 1 := ⟨⟨tw_1171, tw_1172, tw_1173, tw_49, tw_1174⟩, ⟨rfl, by decide⟩, ⟨by decide +kernel, by decide +kernel, by decide +kernel⟩⟩
theorem kmX10_209 : cv_V RX10 209 10 yX10_thingsAt iX10_thingsAt 2 := ⟨⟨tw_1175, tw_1177, tw_13, tw_49, tw_1178⟩, ⟨rfl, by decide⟩, ⟨by decide +kernel, by decide +kernel, by decide +kernel⟩⟩
theorem kmX10_213 : cv_V RX10 213 10 yX10_worthOf iX10_worthOf 1 := ⟨⟨tw_1179, tw_1181, tw_14, tw_49, tw_1182⟩, ⟨rfl, by decide⟩, ⟨by decide +kernel, by decide +kernel, by decide +kernel⟩⟩
theorem kmL_34 : cv_V RL 34 10 yX10_room iX10_room 1 := ⟨⟨tw_1183, tw_1184, tw_1185, tw_49, tw_1186⟩, ⟨rfl, by decide⟩, ⟨by decide +kernel, by decide +kernel, by decide +kernel⟩⟩
theorem kmX10_216 : cv_V RX10 216 10 yX10_isRoom iX10_isRoom 1 := ⟨⟨tw_1187, tw_1189, tw_15, tw_49, tw_1190⟩, ⟨rfl, by decide⟩, ⟨by decide +kernel, by decide +kernel, by decide +kernel⟩⟩
theorem kmL_39 : cv_V RL 39 10 yX10_waiter iX10_waiter 2 := ⟨⟨tw_1192, tw_1193, tw_1194, tw_49, tw_1195⟩, ⟨rfl, by decide⟩, ⟨by decide +kernel, by decide +kernel, by decide +kernel⟩⟩
theorem kmX10_100 : cv_V RX10 100 10 yX10_isWaiter iX10_isWaiter 1 := ⟨⟨tw_1196, tw_1198, tw_16, tw_49, tw_1199⟩, ⟨rfl, by decide⟩, ⟨by decide +kernel, by decide +kernel, by decide +kernel⟩⟩
theorem kmX10_223 : cv_V RX10 223 10 yX10_onTray iX10_onTray 2 := ⟨⟨tw_1200, tw_1202, tw_17, tw_49, tw_1203⟩, ⟨rfl, by decide⟩, ⟨by decide +kernel, by decide +kernel, by decide +kernel⟩⟩
theorem kmX10_220 : cv_V RX10 220 10 yX10_weightOf iX10_weightOf 1 := ⟨⟨tw_1204, tw_1206, tw_18, tw_49, tw_1207⟩, ⟨rfl, by decide⟩, ⟨by decide +kernel, by decide +kernel, by decide +kernel⟩⟩
theorem kmX10_226 : cv_V RX10 226 10 yX10_differs iX10_differs 2 := ⟨⟨tw_1208, tw_1210, tw_19, tw_49, tw_1211⟩, ⟨rfl, by decide⟩, ⟨by decide +kernel, by decide +kernel, by decide +kernel⟩⟩
theorem kmL_43 : cv_V RL 43 10 yX10_thing iX10_thing 2 := ⟨⟨tw_1212, tw_1213, tw_1214, tw_49, tw_1215⟩, ⟨rfl, by decide⟩, ⟨by decide +kernel, by decide +kernel, by decide +kernel⟩⟩
theorem kmX10_229 : cv_V RX10 229 10 yX10_isThing iX10_isThing 1 := ⟨⟨tw_1216, tw_1218, tw_20, tw_49, tw_1219⟩, ⟨rfl, by decide⟩, ⟨by decide +kernel, by decide +kernel, by decide +kernel⟩⟩
theorem kmX10_232 : cv_V RX10 232 10 yX10_whose iX10_whose 1 := ⟨⟨tw_1220, tw_1222, tw_21, tw_49, tw_1223⟩, ⟨rfl, by decide⟩, ⟨by decide +kernel, by decide +kernel, by decide +kernel⟩⟩
theorem kmL_73 : cv_V RL 73 10 yX10_undo iX10_undo 0 := ⟨⟨tw_1224, tw_1225, tw_1226, tw_49, tw_1227⟩, ⟨rfl, by decide⟩, ⟨by decide +kernel, by decide +kernel, by decide +kernel⟩⟩
theorem kmX10_246 : cv_V RX10 246 10 yX10_copy iX10_copy 2 := ⟨⟨tw_1229, tw_1231, tw_22, tw_49, tw_1232⟩, ⟨rfl, by decide⟩, ⟨by decide +kernel, by decide +kernel, by decide +kernel⟩⟩
theorem kmL_47 : cv_V RL 47 10 yX10_minute iX10_minute 1 := ⟨⟨tw_1233, tw_1234, tw_1235, tw_49, tw_1236⟩, ⟨rfl, by decide⟩, ⟨by decide +kernel, by decide +kernel, by decide +kernel⟩⟩
theorem kmX10_252 : cv_V RX10 252 10 yX10_minds iX10_minds 0 := ⟨⟨tw_1238, tw_1240, tw_23, tw_49, tw_1241⟩, ⟨rfl, by decide⟩, ⟨by decide +kernel, by decide +kernel, by decide +kernel⟩⟩
theorem kmX10_255 : cv_V RX10 255 10 yX10_passes iX10_passes 1 := ⟨⟨tw_1242, tw_1244, tw_24, tw_49, tw_1245⟩, ⟨rfl, by decide⟩, ⟨by decide +kernel, by decide +kernel, by decide +kernel⟩⟩
theorem kmX10_235 : cv_V RX10 235 10 yX10_walks iX10_walks 2 := ⟨⟨tw_1246, tw_1248, tw_25, tw_49, tw_1249⟩, ⟨rfl, by decide⟩, ⟨by decide +kernel, by decide +kernel, by decide +kernel⟩⟩
theorem kmX10_239 : cv_V RX10 239 10 yX10_haveMet iX10_haveMet 3 := ⟨⟨tw_1250, tw_1252, tw_26, tw_49, tw_1253⟩, ⟨rfl, by decide⟩, ⟨by decide +kernel, by decide +kernel, by decide +kernel⟩⟩
theorem kmX10_243 : cv_V RX10 243 10 yX10_spills iX10_spills 2 := ⟨⟨tw_1254, tw_1256, tw_27, tw_49, tw_1257⟩, ⟨rfl, by decide⟩, ⟨by decide +kernel, by decide +kernel, by decide +kernel⟩⟩
theorem kmL_51 : cv_V RL 51 10 yX10_route iX10_route 2 := ⟨⟨tw_1258, tw_1259, tw_1260, tw_49, tw_1261⟩, ⟨rfl, by decide⟩, ⟨by decide +kernel, by decide +kernel, by decide +kernel⟩⟩
theorem kmL_56 : cv_V RL 56 10 yX10_lay iX10_lay 3 := ⟨⟨tw_1263, tw_1264, tw_1265, tw_49, tw_1266⟩, ⟨rfl, by decide⟩, ⟨by decide +kernel, by decide +kernel, by decide +kernel⟩⟩
theorem kmL_60 : cv_V RL 60 10 yX10_takeOff iX10_takeOff 1 := ⟨⟨tw_1267, tw_1268, tw_1269, tw_49, tw_1270⟩, ⟨rfl, by decide⟩, ⟨by decide +kernel, by decide +kernel, by decide +kernel⟩⟩
theorem kmL_65 : cv_V RL 65 10 yX10_treaty iX10_treaty 3 := ⟨⟨tw_1271, tw_1272, tw_1273, tw_49, tw_1274⟩, ⟨rfl, by decide⟩, ⟨by decide +kernel, by decide +kernel, by decide +kernel⟩⟩
theorem kmX10_261 : cv_V RX10 261 10 yX10_areTwo iX10_areTwo 2 := ⟨⟨tw_1275, tw_1277, tw_28, tw_49, tw_1278⟩, ⟨rfl, by decide⟩, ⟨by decide +kernel, by decide +kernel, by decide +kernel⟩⟩
theorem kmL_69 : cv_V RL 69 10 yX10_drift iX10_drift 1 := ⟨⟨tw_1279, tw_1280, tw_1281, tw_49, tw_1282⟩, ⟨rfl, by decide⟩, ⟨by decide +kernel, by decide +kernel, by decide +kernel⟩⟩
theorem kmX10_271 : cv_V RX10 271 10 yX10_draw iX10_draw 1 := ⟨⟨tw_1283, tw_1285, tw_29, tw_49, tw_1286⟩, ⟨rfl, by decide⟩, ⟨by decide +kernel, by decide +kernel, by decide +kernel⟩⟩
theorem kmX10_274 : cv_S RX10 274 yX10_ones iX10_ones 1 := ⟨⟨tw_1291, tw_1292, tw_49, tw_1293⟩, ⟨by decide +kernel, by decide +kernel, by decide +kernel⟩⟩
theorem kmX10_277 : cv_S RX10 277 yX10_nth iX10_nth 2 := ⟨⟨tw_1294, tw_1295, tw_49, tw_1296⟩, ⟨by decide +kernel, by decide +kernel, by decide +kernel⟩⟩
theorem kmL_77 : cv_V RL 77 10 yX10_where iX10_where 2 := ⟨⟨tw_1297, tw_1298, tw_1299, tw_49, tw_1300⟩, ⟨rfl, by decide⟩, ⟨by decide +kernel, by decide +kernel, by decide +kernel⟩⟩
theorem kmX10_282 : cv_V RX10 282 10 yX10_tries iX10_tries 0 := ⟨⟨tw_1302, tw_1304, tw_30, tw_49, tw_1305⟩, ⟨rfl, by decide⟩, ⟨by decide +kernel, by decide +kernel, by decide +kernel⟩⟩
theorem kmX10_285 : cv_V RX10 285 10 yX10_walksAll iX10_walksAll 0 := ⟨⟨tw_1306, tw_1308, tw_31, tw_49, tw_1309⟩, ⟨rfl, by decide⟩, ⟨by decide +kernel, by decide +kernel, by decide +kernel⟩⟩
theorem kmL_81 : cv_V RL 81 10 yX10_meets iX10_meets 2 := ⟨⟨tw_1310, tw_1311, tw_1312, tw_49, tw_1313⟩, ⟨rfl, by decide⟩, ⟨by decide +kernel, by decide +kernel, by decide +kernel⟩⟩
theorem kmL_85 : cv_V RL 85 10 yX10_way iX10_way 3 := ⟨⟨tw_1314, tw_1315, tw_1316, tw_49, tw_1317⟩, ⟨rfl, by decide⟩, ⟨by decide +kernel, by decide +kernel, by decide +kernel⟩⟩
theorem kmX10_289 : cv_V RX10 289 10 yX10_wayOf iX10_wayOf 2 := ⟨⟨tw_1318, tw_1320, tw_32, tw_49, tw_1321⟩, ⟨rfl, by decide⟩, ⟨by decide +kernel, by decide +kernel, by decide +kernel⟩⟩
theorem kmX10_292 : cv_V RX10 292 10 yX10_nextOf iX10_nextOf 2 := ⟨⟨tw_1323, tw_1325, tw_33, tw_49, tw_1326⟩, ⟨rfl, by decide⟩, ⟨by decide +kernel, by decide +kernel, by decide +kernel⟩⟩
theorem kmL_89 : cv_V RL 89 10 yX10_delays iX10_delays 1 := ⟨⟨tw_1327, tw_1328, tw_1329, tw_49, tw_1330⟩, ⟨rfl, by decide⟩, ⟨by decide +kernel, by decide +kernel, by decide +kernel⟩⟩
theorem kmX10_295 : cv_V RX10 295 10 yX10_isApart iX10_isApart 0 := ⟨⟨tw_1331, tw_1333, tw_34, tw_49, tw_1334⟩, ⟨rfl, by decide⟩, ⟨by decide +kernel, by decide +kernel, by decide +kernel⟩⟩
theorem kmL_93 : cv_V RL 93 10 yX10_served iX10_served 1 := ⟨⟨tw_1335, tw_1336, tw_1337, tw_49, tw_1338⟩, ⟨rfl, by decide⟩, ⟨by decide +kernel, by decide +kernel, by decide +kernel⟩⟩
theorem kmX10_298 : cv_V RX10 298 10 yX10_servedBy iX10_servedBy 1 := ⟨⟨tw_1339, tw_1341, tw_35, tw_49, tw_1342⟩, ⟨rfl, by decide⟩, ⟨by decide +kernel, by decide +kernel, by decide +kernel⟩⟩
theorem kmL_97 : cv_V RL 97 10 yX10_evened iX10_evened 2 := ⟨⟨tw_1343, tw_1344, tw_1345, tw_49, tw_1346⟩, ⟨rfl, by decide⟩, ⟨by decide +kernel, by decide +kernel, by decide +kernel⟩⟩
theorem kmL_101 : cv_V RL 101 10 yX10_packed iX10_packed 2 := ⟨⟨tw_1347, tw_1348, tw_1349, tw_49, tw_1350⟩, ⟨rfl, by decide⟩, ⟨by decide +kernel, by decide +kernel, by decide +kernel⟩⟩
theorem kmL_105 : cv_V RL 105 10 yX10_covered iX10_covered 2 := ⟨⟨tw_1351, tw_1352, tw_1353, tw_49, tw_1354⟩, ⟨rfl, by decide⟩, ⟨by decide +kernel, by decide +kernel, by decide +kernel⟩⟩
theorem kmL_109 : cv_V RL 109 10 yX10_calm iX10_calm 2 := ⟨⟨tw_1355, tw_1356, tw_1357, tw_49, tw_1358⟩, ⟨rfl, by decide⟩, ⟨by decide +kernel, by decide +kernel, by decide +kernel⟩⟩
theorem kmL_113 : cv_V RL 113 10 yX10_see iX10_see 3 := ⟨⟨tw_1361, tw_1362, tw_1363, tw_49, tw_1364⟩, ⟨rfl, by decide⟩, ⟨by decide +kernel, by decide +kernel, by decide +kernel⟩⟩
theorem kmL_117 : cv_V RL 117 10 yX10_spiller iX10_spiller 0 := ⟨⟨tw_1365, tw_1366, tw_1367, tw_49, tw_1368⟩, ⟨rfl, by decide⟩, ⟨by decide +kernel, by decide +kernel, by decide +kernel⟩⟩
theorem kmX10_308 : cv_V RX10 308 10 yX10_spillers iX10_spillers 0 := ⟨⟨tw_1369, tw_1371, tw_36, tw_49, tw_1372⟩, ⟨rfl, by decide⟩, ⟨by decide +kernel, by decide +kernel, by decide +kernel⟩⟩
theorem kmX10_305 : cv_V RX10 305 10 yX10_comesTo iX10_comesTo 2 := ⟨⟨tw_1373, tw_1375, tw_37, tw_49, tw_1376⟩, ⟨rfl, by decide⟩, ⟨by decide +kernel, by decide +kernel, by decide +kernel⟩⟩
theorem kmL_121 : cv_V RL 121 10 yX10_look iX10_look 0 := ⟨⟨tw_1377, tw_1378, tw_1379, tw_49, tw_1380⟩, ⟨rfl, by decide⟩, ⟨by decide +kernel, by decide +kernel, by decide +kernel⟩⟩
theorem kmL_125 : cv_V RL 125 10 yX10_write iX10_write 2 := ⟨⟨tw_1381, tw_1382, tw_1383, tw_49, tw_1384⟩, ⟨rfl, by decide⟩, ⟨by decide +kernel, by decide +kernel, by decide +kernel⟩⟩
theorem kmL_129 : cv_V RL 129 10 yX10_tear iX10_tear 0 := ⟨⟨tw_1385, tw_1386, tw_1387, tw_49, tw_1388⟩, ⟨rfl, by decide⟩, ⟨by decide +kernel, by decide +kernel, by decide +kernel⟩⟩
theorem kmL_133 : cv_V RL 133 10 yX10_judge iX10_judge 0 := ⟨⟨tw_1389, tw_1390, tw_1391, tw_49, tw_1392⟩, ⟨rfl, by decide⟩, ⟨by decide +kernel, by decide +kernel, by decide +kernel⟩⟩
theorem kmL_137 : cv_V RL 137 10 yX10_seed iX10_seed 1 := ⟨⟨tw_1393, tw_1394, tw_1395, tw_49, tw_1396⟩, ⟨rfl, by decide⟩, ⟨by decide +kernel, by decide +kernel, by decide +kernel⟩⟩
theorem kmL_141 : cv_V RL 141 10 yX10_keep iX10_keep 1 := ⟨⟨tw_1397, tw_1398, tw_1399, tw_49, tw_1400⟩, ⟨rfl, by decide⟩, ⟨by decide +kernel, by decide +kernel, by decide +kernel⟩⟩
theorem kmL_145 : cv_V RL 145 10 yX10_goBack iX10_goBack 1 := ⟨⟨tw_1401, tw_1402, tw_1403, tw_49, tw_1404⟩, ⟨rfl, by decide⟩, ⟨by decide +kernel, by decide +kernel, by decide +kernel⟩⟩
theorem kmX9_9 : cv_IN RX9 9 yX5_init iX5_init 0 := ⟨⟨⟨"TrayLands", by decide +kernel⟩, tw_64, tw_40, tw_65⟩, ⟨by decide +kernel, rfl⟩, ⟨by decide +kernel, by decide +kernel, by decide +kernel⟩⟩
theorem kmX9_17 : cv_IN RX9 17 yX2_init iX2_init 0 := ⟨⟨⟨"TrayLands", by decide +kernel⟩, tw_163, tw_42, tw_164⟩, ⟨by decide +kernel, rfl⟩, ⟨by decide +kernel, by decide +kernel, by decide +kernel⟩⟩
theorem kmX9_20 : cv_IN RX9 20 yX6_init iX6_init 0 := ⟨⟨⟨"TrayLands", by decide +kernel⟩, tw_182, tw_43, tw_183⟩, ⟨by decide +kernel, rfl⟩, ⟨by decide +kernel, by decide +kernel, by decide +kernel⟩⟩
theorem kmX6_11 : cv_IN RX6 11 yX5_init iX5_init 0 := ⟨⟨⟨"TrayLands", by decide +kernel⟩, tw_64, tw_40, tw_65⟩, ⟨by decide +kernel, rfl⟩, ⟨by decide +kernel, by decide +kernel, by decide +kernel⟩⟩
theorem kmX6_74 : cv_SN RX6 74 yX9_has iX9_has 2 := ⟨⟨⟨"TrayLands", by decide +kernel⟩, tw_452, tw_39, tw_453⟩, ⟨by decide +kernel, by decide +kernel, by decide +kernel⟩⟩
theorem kmX5_72 : cv_SN RX5 72 yX9_has iX9_has 2 := ⟨⟨⟨"TrayLands", by decide +kernel⟩, tw_452, tw_39, tw_453⟩, ⟨by decide +kernel, by decide +kernel, by decide +kernel⟩⟩
theorem kmX8_53 : cv_SN RX8 53 yX9_sideOf iX9_sideOf 2 := ⟨⟨⟨"TrayLands", by decide +kernel⟩, tw_529, tw_39, tw_530⟩, ⟨by decide +kernel, by decide +kernel, by decide +kernel⟩⟩
theorem kmX0_29 : cv_SN RX0 29 yX9_sideOf iX9_sideOf 2 := ⟨⟨⟨"TrayLands", by decide +kernel⟩, tw_529, tw_39, tw_530⟩, ⟨by decide +kernel, by decide +kernel, by decide +kernel⟩⟩
theorem kmX0_56 : cv_SN RX0 56 yX9_has iX9_has 2 := ⟨⟨⟨"TrayLands", by decide +kernel⟩, tw_452, tw_39, tw_453⟩, ⟨by decide +kernel, by decide +kernel, by decide +kernel⟩⟩
theorem kmX1_87 : cv_SN RX1 87 yX9_stepsOf iX9_stepsOf 1 := ⟨⟨⟨"TrayLands", by decide +kernel⟩, tw_561, tw_39, tw_562⟩, ⟨by decide +kernel, by decide +kernel, by decide +kernel⟩⟩
theorem kmX1_59 : cv_SN RX1 59 yX9_power iX9_power 2 := ⟨⟨⟨"TrayLands", by decide +kernel⟩, tw_797, tw_39, tw_798⟩, ⟨by decide +kernel, by decide +kernel, by decide +kernel⟩⟩
theorem kmX1_63 : cv_SN RX1 63 yX9_spell iX9_spell 4 := ⟨⟨⟨"TrayLands", by decide +kernel⟩, tw_800, tw_39, tw_801⟩, ⟨by decide +kernel, by decide +kernel, by decide +kernel⟩⟩
theorem kmX1_115 : cv_SN RX1 115 yX9_has iX9_has 2 := ⟨⟨⟨"TrayLands", by decide +kernel⟩, tw_452, tw_39, tw_453⟩, ⟨by decide +kernel, by decide +kernel, by decide +kernel⟩⟩
theorem kmX7_52 : cv_SN RX7 52 yX9_power iX9_power 2 := ⟨⟨⟨"TrayLands", by decide +kernel⟩, tw_797, tw_39, tw_798⟩, ⟨by decide +kernel, by decide +kernel, by decide +kernel⟩⟩
theorem kmX7_56 : cv_SN RX7 56 yX9_spell iX9_spell 4 := ⟨⟨⟨"TrayLands", by decide +kernel⟩, tw_800, tw_39, tw_801⟩, ⟨by decide +kernel, by decide +kernel, by decide +kernel⟩⟩
theorem kmX7_88 : cv_SN RX7 88 yX9_has iX9_has 2 := ⟨⟨⟨"TrayLands", by decide +kernel⟩, tw_452, tw_39, tw_453⟩, ⟨by decide +kernel, by decide +kernel, by decide +kernel⟩⟩
theorem kmX3_58 : cv_SN RX3 58 yX9_has iX9_has 2 := ⟨⟨⟨"TrayLands", by decide +kernel⟩, tw_452, tw_39, tw_453⟩, ⟨by decide +kernel, by decide +kernel, by decide +kernel⟩⟩
