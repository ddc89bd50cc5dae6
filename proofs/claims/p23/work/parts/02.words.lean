theorem ini_LivedLinksLaw : (Cond.initialized R_law) ∈ lw_gd := List.mem_filter.mpr ⟨List.mem_of_getElem? (i := 8) (by decide +kernel), by decide +kernel⟩
theorem ini_LivedLinks : (Cond.initialized RX6) ∈ lw_gd := List.mem_filter.mpr ⟨List.mem_of_getElem? (i := 9) (by decide +kernel), by decide +kernel⟩
theorem ini_LivedLinks_Links : (Cond.initialized RX4) ∈ lw_gd := List.mem_filter.mpr ⟨List.mem_of_getElem? (i := 10) (by decide +kernel), by decide +kernel⟩
theorem ini_LivedLinks_History : (Cond.initialized RX1) ∈ lw_gd := List.mem_filter.mpr ⟨List.mem_of_getElem? (i := 11) (by decide +kernel), by decide +kernel⟩
theorem ini_LivedLinks_LinkText : (Cond.initialized RX3) ∈ lw_gd := List.mem_filter.mpr ⟨List.mem_of_getElem? (i := 12) (by decide +kernel), by decide +kernel⟩
theorem ini_LivedLinks_Moments : (Cond.initialized RX5) ∈ lw_gd := List.mem_filter.mpr ⟨List.mem_of_getElem? (i := 13) (by decide +kernel), by decide +kernel⟩
theorem ini_LivedLinks_Joinings : (Cond.initialized RX2) ∈ lw_gd := List.mem_filter.mpr ⟨List.mem_of_getElem? (i := 14) (by decide +kernel), by decide +kernel⟩
theorem ini_java_lang_Math : (Cond.initialized "java/lang/Math") ∈ lw_gd := List.mem_filter.mpr ⟨List.mem_of_getElem? (i := 15) (by decide +kernel), by decide +kernel⟩
theorem ini_LivedLinks_MomentRows : (Cond.initialized RX8) ∈ lw_gd := List.mem_filter.mpr ⟨List.mem_of_getElem? (i := 16) (by decide +kernel), by decide +kernel⟩
theorem ini_LivedLinks_HalvesWay : (Cond.initialized RX0) ∈ lw_gd := List.mem_filter.mpr ⟨List.mem_of_getElem? (i := 17) (by decide +kernel), by decide +kernel⟩
theorem cl_R_law_10 : (Cond.classLink R_law 10 RX6) ∈ lw_gd := List.mem_filter.mpr ⟨List.mem_of_getElem? (i := 18) (by decide +kernel), by decide +kernel⟩
theorem ins_RX6 : (Cond.instantiable RX6 9) ∈ lw_gd := List.mem_filter.mpr ⟨List.mem_of_getElem? (i := 19) (by decide +kernel), by decide +kernel⟩
theorem ml_R_law_72 : (Cond.methodLink R_law 72 yX6_init) ∈ lw_gd := List.mem_filter.mpr ⟨List.mem_of_getElem? (i := 20) (by decide +kernel), by decide +kernel⟩
theorem im_yX6_init : (Cond.instanceMethod yX6_init) ∈ lw_gd := List.mem_filter.mpr ⟨List.mem_of_getElem? (i := 21) (by decide +kernel), by decide +kernel⟩
theorem co_yX6_init : (Cond.code yX6_init cX6_init 1 none) ∈ lw_gd := List.mem_filter.mpr ⟨List.mem_of_getElem? (i := 22) (by decide +kernel), by decide +kernel⟩
theorem ml_RX6_1 : (Cond.methodLink RX6 1 objectInit) ∈ lw_gd := List.mem_filter.mpr ⟨List.mem_of_getElem? (i := 23) (by decide +kernel), by decide +kernel⟩
theorem im_objectInit : (Cond.instanceMethod objectInit) ∈ lw_gd := List.mem_filter.mpr ⟨List.mem_of_getElem? (i := 24) (by decide +kernel), by decide +kernel⟩
theorem co_objectInit : (Cond.code objectInit ⟨#[0xb1]⟩ 1 none) ∈ lw_gd := List.mem_filter.mpr ⟨List.mem_of_getElem? (i := 25) (by decide +kernel), by decide +kernel⟩
theorem cl_RX6_7 : (Cond.classLink RX6 7 RX4) ∈ lw_gd := List.mem_filter.mpr ⟨List.mem_of_getElem? (i := 26) (by decide +kernel), by decide +kernel⟩
theorem ins_RX4 : (Cond.instantiable RX4 5) ∈ lw_gd := List.mem_filter.mpr ⟨List.mem_of_getElem? (i := 27) (by decide +kernel), by decide +kernel⟩
theorem ml_RX6_9 : (RX6, 9, yX4_init, RX6) ∈ lw_nest := by decide +kernel
theorem im_yX4_init : (Cond.instanceMethod yX4_init) ∈ lw_gd := List.mem_filter.mpr ⟨List.mem_of_getElem? (i := 29) (by decide +kernel), by decide +kernel⟩
theorem co_yX4_init : (Cond.code yX4_init cX4_init 1 none) ∈ lw_gd := List.mem_filter.mpr ⟨List.mem_of_getElem? (i := 30) (by decide +kernel), by decide +kernel⟩
theorem ml_RX4_3 : (Cond.methodLink RX4 3 objectInit) ∈ lw_gd := List.mem_filter.mpr ⟨List.mem_of_getElem? (i := 31) (by decide +kernel), by decide +kernel⟩
theorem fl_RX4_9 : (Cond.fieldLink RX4 9 "LivedLinks$Links" "one" "[I") ∈ lw_gd := List.mem_filter.mpr ⟨List.mem_of_getElem? (i := 32) (by decide +kernel), by decide +kernel⟩
theorem fl_RX4_15 : (Cond.fieldLink RX4 15 "LivedLinks$Links" "other" "[I") ∈ lw_gd := List.mem_filter.mpr ⟨List.mem_of_getElem? (i := 33) (by decide +kernel), by decide +kernel⟩
theorem fl_RX4_18 : (Cond.fieldLink RX4 18 "LivedLinks$Links" "from" "[I") ∈ lw_gd := List.mem_filter.mpr ⟨List.mem_of_getElem? (i := 34) (by decide +kernel), by decide +kernel⟩
theorem fl_RX4_21 : (Cond.fieldLink RX4 21 "LivedLinks$Links" "to" "[I") ∈ lw_gd := List.mem_filter.mpr ⟨List.mem_of_getElem? (i := 35) (by decide +kernel), by decide +kernel⟩
theorem fl_RX4_24 : (Cond.fieldLink RX4 24 "LivedLinks$Links" "size" "I") ∈ lw_gd := List.mem_filter.mpr ⟨List.mem_of_getElem? (i := 36) (by decide +kernel), by decide +kernel⟩
theorem ac_int : (Cond.arrayClass .int) ∈ lw_gd := List.mem_filter.mpr ⟨List.mem_of_getElem? (i := 48) (by decide +kernel), by decide +kernel⟩
theorem cl_RX6_23 : (Cond.classLink RX6 23 RX1) ∈ lw_gd := List.mem_filter.mpr ⟨List.mem_of_getElem? (i := 49) (by decide +kernel), by decide +kernel⟩
theorem ins_RX1 : (Cond.instantiable RX1 2) ∈ lw_gd := List.mem_filter.mpr ⟨List.mem_of_getElem? (i := 50) (by decide +kernel), by decide +kernel⟩
theorem ml_RX6_25 : (Cond.methodLink RX6 25 yX1_init) ∈ lw_gd := List.mem_filter.mpr ⟨List.mem_of_getElem? (i := 51) (by decide +kernel), by decide +kernel⟩
theorem im_yX1_init : (Cond.instanceMethod yX1_init) ∈ lw_gd := List.mem_filter.mpr ⟨List.mem_of_getElem? (i := 52) (by decide +kernel), by decide +kernel⟩
theorem co_yX1_init : (Cond.code yX1_init cX1_init 2 none) ∈ lw_gd := List.mem_filter.mpr ⟨List.mem_of_getElem? (i := 53) (by decide +kernel), by decide +kernel⟩
theorem ml_RX1_3 : (Cond.methodLink RX1 3 objectInit) ∈ lw_gd := List.mem_filter.mpr ⟨List.mem_of_getElem? (i := 54) (by decide +kernel), by decide +kernel⟩
theorem cl_RX1_9 : (Cond.classLink RX1 9 RX4) ∈ lw_gd := List.mem_filter.mpr ⟨List.mem_of_getElem? (i := 55) (by decide +kernel), by decide +kernel⟩
theorem ml_RX1_17 : (RX1, 17, yX4_init, RX6) ∈ lw_nest := by decide +kernel
theorem fl_RX1_11 : (Cond.fieldLink RX1 11 "LivedLinks$History" "states" "[LLivedLinks$Links;") ∈ lw_gd := List.mem_filter.mpr ⟨List.mem_of_getElem? (i := 58) (by decide +kernel), by decide +kernel⟩
theorem fl_RX1_18 : (Cond.fieldLink RX1 18 "LivedLinks$History" "size" "I") ∈ lw_gd := List.mem_filter.mpr ⟨List.mem_of_getElem? (i := 59) (by decide +kernel), by decide +kernel⟩
theorem cl_RX6_30 : (Cond.classLink RX6 30 RX3) ∈ lw_gd := List.mem_filter.mpr ⟨List.mem_of_getElem? (i := 65) (by decide +kernel), by decide +kernel⟩
theorem ins_RX3 : (Cond.instantiable RX3 3) ∈ lw_gd := List.mem_filter.mpr ⟨List.mem_of_getElem? (i := 66) (by decide +kernel), by decide +kernel⟩
theorem ml_RX6_32 : (RX6, 32, yX3_init, RX6) ∈ lw_nest := by decide +kernel
theorem im_yX3_init : (Cond.instanceMethod yX3_init) ∈ lw_gd := List.mem_filter.mpr ⟨List.mem_of_getElem? (i := 68) (by decide +kernel), by decide +kernel⟩
theorem co_yX3_init : (Cond.code yX3_init cX3_init 1 none) ∈ lw_gd := List.mem_filter.mpr ⟨List.mem_of_getElem? (i := 69) (by decide +kernel), by decide +kernel⟩
theorem ml_RX3_3 : (Cond.methodLink RX3 3 objectInit) ∈ lw_gd := List.mem_filter.mpr ⟨List.mem_of_getElem? (i := 70) (by decide +kernel), by decide +kernel⟩
theorem fl_RX3_9 : (Cond.fieldLink RX3 9 "LivedLinks$LinkText" "characters" "[C") ∈ lw_gd := List.mem_filter.mpr ⟨List.mem_of_getElem? (i := 71) (by decide +kernel), by decide +kernel⟩
theorem fl_RX3_15 : (Cond.fieldLink RX3 15 "LivedLinks$LinkText" "length" "I") ∈ lw_gd := List.mem_filter.mpr ⟨List.mem_of_getElem? (i := 72) (by decide +kernel), by decide +kernel⟩
theorem ac_char : (Cond.arrayClass .char) ∈ lw_gd := List.mem_filter.mpr ⟨List.mem_of_getElem? (i := 80) (by decide +kernel), by decide +kernel⟩
theorem cl_RX6_40 : (Cond.classLink RX6 40 RX5) ∈ lw_gd := List.mem_filter.mpr ⟨List.mem_of_getElem? (i := 81) (by decide +kernel), by decide +kernel⟩
theorem ins_RX5 : (Cond.instantiable RX5 2) ∈ lw_gd := List.mem_filter.mpr ⟨List.mem_of_getElem? (i := 82) (by decide +kernel), by decide +kernel⟩
theorem ml_RX6_42 : (RX6, 42, yX5_init, RX6) ∈ lw_nest := by decide +kernel
theorem im_yX5_init : (Cond.instanceMethod yX5_init) ∈ lw_gd := List.mem_filter.mpr ⟨List.mem_of_getElem? (i := 84) (by decide +kernel), by decide +kernel⟩
theorem co_yX5_init : (Cond.code yX5_init cX5_init 1 none) ∈ lw_gd := List.mem_filter.mpr ⟨List.mem_of_getElem? (i := 85) (by decide +kernel), by decide +kernel⟩
theorem ml_RX5_3 : (Cond.methodLink RX5 3 objectInit) ∈ lw_gd := List.mem_filter.mpr ⟨List.mem_of_getElem? (i := 86) (by decide +kernel), by decide +kernel⟩
theorem cl_RX5_9 : (Cond.classLink RX5 9 RX2) ∈ lw_gd := List.mem_filter.mpr ⟨List.mem_of_getElem? (i := 87) (by decide +kernel), by decide +kernel⟩
theorem ins_RX2 : (Cond.instantiable RX2 4) ∈ lw_gd := List.mem_filter.mpr ⟨List.mem_of_getElem? (i := 88) (by decide +kernel), by decide +kernel⟩
theorem ml_RX5_11 : (Cond.methodLink RX5 11 yX2_init) ∈ lw_gd := List.mem_filter.mpr ⟨List.mem_of_getElem? (i := 89) (by decide +kernel), by decide +kernel⟩
theorem im_yX2_init : (Cond.instanceMethod yX2_init) ∈ lw_gd := List.mem_filter.mpr ⟨List.mem_of_getElem? (i := 90) (by decide +kernel), by decide +kernel⟩
theorem co_yX2_init : (Cond.code yX2_init cX2_init 4 none) ∈ lw_gd := List.mem_filter.mpr ⟨List.mem_of_getElem? (i := 91) (by decide +kernel), by decide +kernel⟩
theorem ml_RX2_1 : (Cond.methodLink RX2 1 objectInit) ∈ lw_gd := List.mem_filter.mpr ⟨List.mem_of_getElem? (i := 92) (by decide +kernel), by decide +kernel⟩
theorem ml_RX2_7 : (Cond.methodLink RX2 7 Lib.Math.max.name) ∈ lw_gd := List.mem_filter.mpr ⟨List.mem_of_getElem? (i := 93) (by decide +kernel), by decide +kernel⟩
theorem sm_Lib_Math_max_name : (Cond.static Lib.Math.max.name) ∈ lw_gd := List.mem_filter.mpr ⟨List.mem_of_getElem? (i := 94) (by decide +kernel), by decide +kernel⟩
theorem co_Lib_Math_max_name : (Cond.code Lib.Math.max.name Lib.Math.max.code 2 (some .int)) ∈ lw_gd := List.mem_filter.mpr ⟨List.mem_of_getElem? (i := 95) (by decide +kernel), by decide +kernel⟩
theorem fl_RX2_13 : (Cond.fieldLink RX2 13 "LivedLinks$Joinings" "above" "[I") ∈ lw_gd := List.mem_filter.mpr ⟨List.mem_of_getElem? (i := 96) (by decide +kernel), by decide +kernel⟩
theorem fl_RX2_19 : (Cond.fieldLink RX2 19 "LivedLinks$Joinings" "below" "[I") ∈ lw_gd := List.mem_filter.mpr ⟨List.mem_of_getElem? (i := 97) (by decide +kernel), by decide +kernel⟩
theorem fl_RX2_22 : (Cond.fieldLink RX2 22 "LivedLinks$Joinings" "hung" "[I") ∈ lw_gd := List.mem_filter.mpr ⟨List.mem_of_getElem? (i := 98) (by decide +kernel), by decide +kernel⟩
theorem fl_RX2_25 : (Cond.fieldLink RX2 25 "LivedLinks$Joinings" "standing" "I") ∈ lw_gd := List.mem_filter.mpr ⟨List.mem_of_getElem? (i := 99) (by decide +kernel), by decide +kernel⟩
theorem fl_RX5_14 : (Cond.fieldLink RX5 14 "LivedLinks$Moments" "points" "LLivedLinks$Joinings;") ∈ lw_gd := List.mem_filter.mpr ⟨List.mem_of_getElem? (i := 109) (by decide +kernel), by decide +kernel⟩
theorem fl_RX5_20 : (Cond.fieldLink RX5 20 "LivedLinks$Moments" "sides" "LLivedLinks$Joinings;") ∈ lw_gd := List.mem_filter.mpr ⟨List.mem_of_getElem? (i := 110) (by decide +kernel), by decide +kernel⟩
theorem cl_RX6_47 : (Cond.classLink RX6 47 RX8) ∈ lw_gd := List.mem_filter.mpr ⟨List.mem_of_getElem? (i := 116) (by decide +kernel), by decide +kernel⟩
theorem ins_RX8 : (Cond.instantiable RX8 6) ∈ lw_gd := List.mem_filter.mpr ⟨List.mem_of_getElem? (i := 117) (by decide +kernel), by decide +kernel⟩
theorem ml_RX6_49 : (RX6, 49, yX8_init, RX6) ∈ lw_nest := by decide +kernel
theorem im_yX8_init : (Cond.instanceMethod yX8_init) ∈ lw_gd := List.mem_filter.mpr ⟨List.mem_of_getElem? (i := 119) (by decide +kernel), by decide +kernel⟩
theorem co_yX8_init : (Cond.code yX8_init cX8_init 1 none) ∈ lw_gd := List.mem_filter.mpr ⟨List.mem_of_getElem? (i := 120) (by decide +kernel), by decide +kernel⟩
theorem ml_RX8_3 : (Cond.methodLink RX8 3 objectInit) ∈ lw_gd := List.mem_filter.mpr ⟨List.mem_of_getElem? (i := 121) (by decide +kernel), by decide +kernel⟩
theorem fl_RX8_9 : (Cond.fieldLink RX8 9 "LivedLinks$MomentRows" "many" "I") ∈ lw_gd := List.mem_filter.mpr ⟨List.mem_of_getElem? (i := 122) (by decide +kernel), by decide +kernel⟩
theorem fl_RX8_15 : (Cond.fieldLink RX8 15 "LivedLinks$MomentRows" "first" "I") ∈ lw_gd := List.mem_filter.mpr ⟨List.mem_of_getElem? (i := 123) (by decide +kernel), by decide +kernel⟩
theorem fl_RX8_18 : (Cond.fieldLink RX8 18 "LivedLinks$MomentRows" "last" "I") ∈ lw_gd := List.mem_filter.mpr ⟨List.mem_of_getElem? (i := 124) (by decide +kernel), by decide +kernel⟩
theorem fl_RX8_27 : (Cond.fieldLink RX8 27 "LivedLinks$MomentRows" "row" "I") ∈ lw_gd := List.mem_filter.mpr ⟨List.mem_of_getElem? (i := 125) (by decide +kernel), by decide +kernel⟩
theorem fl_RX8_21 : (Cond.fieldLink RX8 21 "LivedLinks$MomentRows" "longest" "I") ∈ lw_gd := List.mem_filter.mpr ⟨List.mem_of_getElem? (i := 126) (by decide +kernel), by decide +kernel⟩
theorem fl_RX8_24 : (Cond.fieldLink RX8 24 "LivedLinks$MomentRows" "longestBegin" "I") ∈ lw_gd := List.mem_filter.mpr ⟨List.mem_of_getElem? (i := 127) (by decide +kernel), by decide +kernel⟩
theorem cl_RX6_54 : (Cond.classLink RX6 54 RX0) ∈ lw_gd := List.mem_filter.mpr ⟨List.mem_of_getElem? (i := 141) (by decide +kernel), by decide +kernel⟩
theorem ins_RX0 : (Cond.instantiable RX0 7) ∈ lw_gd := List.mem_filter.mpr ⟨List.mem_of_getElem? (i := 142) (by decide +kernel), by decide +kernel⟩
theorem ml_RX6_56 : (RX6, 56, yX0_init, RX6) ∈ lw_nest := by decide +kernel
theorem im_yX0_init : (Cond.instanceMethod yX0_init) ∈ lw_gd := List.mem_filter.mpr ⟨List.mem_of_getElem? (i := 144) (by decide +kernel), by decide +kernel⟩
theorem co_yX0_init : (Cond.code yX0_init cX0_init 1 none) ∈ lw_gd := List.mem_filter.mpr ⟨List.mem_of_getElem? (i := 145) (by decide +kernel), by decide +kernel⟩
theorem ml_RX0_3 : (Cond.methodLink RX0 3 objectInit) ∈ lw_gd := List.mem_filter.mpr ⟨List.mem_of_getElem? (i := 146) (by decide +kernel), by decide +kernel⟩
theorem cl_RX0_9 : (Cond.classLink RX0 9 RX2) ∈ lw_gd := List.mem_filter.mpr ⟨List.mem_of_getElem? (i := 147) (by decide +kernel), by decide +kernel⟩
theorem ml_RX0_11 : (Cond.methodLink RX0 11 yX2_init) ∈ lw_gd := List.mem_filter.mpr ⟨List.mem_of_getElem? (i := 148) (by decide +kernel), by decide +kernel⟩
theorem fl_RX0_14 : (Cond.fieldLink RX0 14 "LivedLinks$HalvesWay" "points" "LLivedLinks$Joinings;") ∈ lw_gd := List.mem_filter.mpr ⟨List.mem_of_getElem? (i := 149) (by decide +kernel), by decide +kernel⟩
theorem fl_RX0_20 : (Cond.fieldLink RX0 20 "LivedLinks$HalvesWay" "standingAt" "[I") ∈ lw_gd := List.mem_filter.mpr ⟨List.mem_of_getElem? (i := 150) (by decide +kernel), by decide +kernel⟩
theorem fl_RX0_24 : (Cond.fieldLink RX0 24 "LivedLinks$HalvesWay" "laidHere" "I") ∈ lw_gd := List.mem_filter.mpr ⟨List.mem_of_getElem? (i := 151) (by decide +kernel), by decide +kernel⟩
theorem fl_RX0_28 : (Cond.fieldLink RX0 28 "LivedLinks$HalvesWay" "madeHere" "I") ∈ lw_gd := List.mem_filter.mpr ⟨List.mem_of_getElem? (i := 152) (by decide +kernel), by decide +kernel⟩
theorem fl_RX0_34 : (Cond.fieldLink RX0 34 "LivedLinks$HalvesWay" "laidInAll" "I") ∈ lw_gd := List.mem_filter.mpr ⟨List.mem_of_getElem? (i := 153) (by decide +kernel), by decide +kernel⟩
theorem fl_RX0_31 : (Cond.fieldLink RX0 31 "LivedLinks$HalvesWay" "madeInAll" "I") ∈ lw_gd := List.mem_filter.mpr ⟨List.mem_of_getElem? (i := 154) (by decide +kernel), by decide +kernel⟩
theorem fl_RX0_37 : (Cond.fieldLink RX0 37 "LivedLinks$HalvesWay" "mostStanding" "I") ∈ lw_gd := List.mem_filter.mpr ⟨List.mem_of_getElem? (i := 155) (by decide +kernel), by decide +kernel⟩
theorem fl_RX6_10 : (Cond.fieldLink RX6 10 "LivedLinks" "links" "LLivedLinks$Links;") ∈ lw_gd := List.mem_filter.mpr ⟨List.mem_of_getElem? (i := 171) (by decide +kernel), by decide +kernel⟩
theorem fl_RX6_16 : (Cond.fieldLink RX6 16 "LivedLinks" "snapshot" "LLivedLinks$Links;") ∈ lw_gd := List.mem_filter.mpr ⟨List.mem_of_getElem? (i := 172) (by decide +kernel), by decide +kernel⟩
theorem fl_RX6_19 : (Cond.fieldLink RX6 19 "LivedLinks" "hasSnapshot" "Z") ∈ lw_gd := List.mem_filter.mpr ⟨List.mem_of_getElem? (i := 173) (by decide +kernel), by decide +kernel⟩
theorem fl_RX6_26 : (Cond.fieldLink RX6 26 "LivedLinks" "history" "LLivedLinks$History;") ∈ lw_gd := List.mem_filter.mpr ⟨List.mem_of_getElem? (i := 174) (by decide +kernel), by decide +kernel⟩
theorem fl_RX6_33 : (Cond.fieldLink RX6 33 "LivedLinks" "text" "LLivedLinks$LinkText;") ∈ lw_gd := List.mem_filter.mpr ⟨List.mem_of_getElem? (i := 175) (by decide +kernel), by decide +kernel⟩
theorem fl_RX6_37 : (Cond.fieldLink RX6 37 "LivedLinks" "found" "LLivedLinks$Links;") ∈ lw_gd := List.mem_filter.mpr ⟨List.mem_of_getElem? (i := 176) (by decide +kernel), by decide +kernel⟩
theorem fl_RX6_43 : (Cond.fieldLink RX6 43 "LivedLinks" "moments" "LLivedLinks$Moments;") ∈ lw_gd := List.mem_filter.mpr ⟨List.mem_of_getElem? (i := 177) (by decide +kernel), by decide +kernel⟩
theorem fl_RX6_50 : (Cond.fieldLink RX6 50 "LivedLinks" "joinedMoments" "LLivedLinks$MomentRows;") ∈ lw_gd := List.mem_filter.mpr ⟨List.mem_of_getElem? (i := 178) (by decide +kernel), by decide +kernel⟩
theorem fl_RX6_57 : (Cond.fieldLink RX6 57 "LivedLinks" "way" "LLivedLinks$HalvesWay;") ∈ lw_gd := List.mem_filter.mpr ⟨List.mem_of_getElem? (i := 179) (by decide +kernel), by decide +kernel⟩
theorem ml_R_law_73 : (Cond.methodLink R_law 73 yL_cell) ∈ lw_gd := List.mem_filter.mpr ⟨List.mem_of_getElem? (i := 199) (by decide +kernel), by decide +kernel⟩
theorem sm_yL_cell : (Cond.static yL_cell) ∈ lw_gd := List.mem_filter.mpr ⟨List.mem_of_getElem? (i := 200) (by decide +kernel), by decide +kernel⟩
theorem co_yL_cell : (Cond.code yL_cell cL_cell 2 (some .int)) ∈ lw_gd := List.mem_filter.mpr ⟨List.mem_of_getElem? (i := 201) (by decide +kernel), by decide +kernel⟩
theorem kc_R_law_7 : (Cond.constant R_law 7 (1892199733)) ∈ lw_gd := List.mem_filter.mpr ⟨List.mem_of_getElem? (i := 202) (by decide +kernel), by decide +kernel⟩
theorem ml_R_law_15 : (Cond.methodLink R_law 15 yL_up) ∈ lw_gd := List.mem_filter.mpr ⟨List.mem_of_getElem? (i := 203) (by decide +kernel), by decide +kernel⟩
theorem sm_yL_up : (Cond.static yL_up) ∈ lw_gd := List.mem_filter.mpr ⟨List.mem_of_getElem? (i := 204) (by decide +kernel), by decide +kernel⟩
theorem co_yL_up : (Cond.code yL_up cL_up 2 (some .int)) ∈ lw_gd := List.mem_filter.mpr ⟨List.mem_of_getElem? (i := 205) (by decide +kernel), by decide +kernel⟩
theorem kc_R_law_8 : (Cond.constant R_law 8 (2147483647)) ∈ lw_gd := List.mem_filter.mpr ⟨List.mem_of_getElem? (i := 206) (by decide +kernel), by decide +kernel⟩
theorem ml_R_law_77 : (Cond.methodLink R_law 77 yL_isStep) ∈ lw_gd := List.mem_filter.mpr ⟨List.mem_of_getElem? (i := 207) (by decide +kernel), by decide +kernel⟩
theorem sm_yL_isStep : (Cond.static yL_isStep) ∈ lw_gd := List.mem_filter.mpr ⟨List.mem_of_getElem? (i := 208) (by decide +kernel), by decide +kernel⟩
theorem co_yL_isStep : (Cond.code yL_isStep cL_isStep 13 (some .boolean)) ∈ lw_gd := List.mem_filter.mpr ⟨List.mem_of_getElem? (i := 209) (by decide +kernel), by decide +kernel⟩
theorem ml_R_law_9 : (Cond.methodLink R_law 9 yX6_count) ∈ lw_gd := List.mem_filter.mpr ⟨List.mem_of_getElem? (i := 210) (by decide +kernel), by decide +kernel⟩
theorem im_yX6_count : (Cond.instanceMethod yX6_count) ∈ lw_gd := List.mem_filter.mpr ⟨List.mem_of_getElem? (i := 211) (by decide +kernel), by decide +kernel⟩
theorem se_yX6_count : (Cond.selects RX6 yX6_count yX6_count) ∈ lw_gd := List.mem_filter.mpr ⟨List.mem_of_getElem? (i := 212) (by decide +kernel), by decide +kernel⟩
theorem co_yX6_count : (Cond.code yX6_count cX6_count 2 (some .int)) ∈ lw_gd := List.mem_filter.mpr ⟨List.mem_of_getElem? (i := 213) (by decide +kernel), by decide +kernel⟩
theorem ml_RX6_81 : (Cond.methodLink RX6 81 yX4_size) ∈ lw_gd := List.mem_filter.mpr ⟨List.mem_of_getElem? (i := 214) (by decide +kernel), by decide +kernel⟩
theorem im_yX4_size : (Cond.instanceMethod yX4_size) ∈ lw_gd := List.mem_filter.mpr ⟨List.mem_of_getElem? (i := 215) (by decide +kernel), by decide +kernel⟩
theorem se_yX4_size : (Cond.selects RX4 yX4_size yX4_size) ∈ lw_gd := List.mem_filter.mpr ⟨List.mem_of_getElem? (i := 216) (by decide +kernel), by decide +kernel⟩
theorem co_yX4_size : (Cond.code yX4_size cX4_size 1 (some .int)) ∈ lw_gd := List.mem_filter.mpr ⟨List.mem_of_getElem? (i := 217) (by decide +kernel), by decide +kernel⟩
theorem ml_RX6_224 : (Cond.methodLink RX6 224 yX6_countOnWay) ∈ lw_gd := List.mem_filter.mpr ⟨List.mem_of_getElem? (i := 218) (by decide +kernel), by decide +kernel⟩
theorem im_yX6_countOnWay : (Cond.instanceMethod yX6_countOnWay) ∈ lw_gd := List.mem_filter.mpr ⟨List.mem_of_getElem? (i := 220) (by decide +kernel), by decide +kernel⟩
theorem co_yX6_countOnWay : (Cond.code yX6_countOnWay cX6_countOnWay 2 (some .int)) ∈ lw_gd := List.mem_filter.mpr ⟨List.mem_of_getElem? (i := 221) (by decide +kernel), by decide +kernel⟩
theorem ml_RX6_236 : (Cond.methodLink RX6 236 yX0_goAll) ∈ lw_gd := List.mem_filter.mpr ⟨List.mem_of_getElem? (i := 222) (by decide +kernel), by decide +kernel⟩
theorem im_yX0_goAll : (Cond.instanceMethod yX0_goAll) ∈ lw_gd := List.mem_filter.mpr ⟨List.mem_of_getElem? (i := 223) (by decide +kernel), by decide +kernel⟩
theorem se_yX0_goAll : (Cond.selects RX0 yX0_goAll yX0_goAll) ∈ lw_gd := List.mem_filter.mpr ⟨List.mem_of_getElem? (i := 224) (by decide +kernel), by decide +kernel⟩
theorem co_yX0_goAll : (Cond.code yX0_goAll cX0_goAll 4 none) ∈ lw_gd := List.mem_filter.mpr ⟨List.mem_of_getElem? (i := 225) (by decide +kernel), by decide +kernel⟩
theorem ml_RX0_40 : (RX0, 40, yX6_spanBegin, RX6) ∈ lw_nest := by decide +kernel
theorem sm_yX6_spanBegin : (Cond.static yX6_spanBegin) ∈ lw_gd := List.mem_filter.mpr ⟨List.mem_of_getElem? (i := 227) (by decide +kernel), by decide +kernel⟩
theorem co_yX6_spanBegin : (Cond.code yX6_spanBegin cX6_spanBegin 2 (some .int)) ∈ lw_gd := List.mem_filter.mpr ⟨List.mem_of_getElem? (i := 228) (by decide +kernel), by decide +kernel⟩
theorem ml_RX6_215 : (Cond.methodLink RX6 215 yX6_spanLength) ∈ lw_gd := List.mem_filter.mpr ⟨List.mem_of_getElem? (i := 229) (by decide +kernel), by decide +kernel⟩
theorem sm_yX6_spanLength : (Cond.static yX6_spanLength) ∈ lw_gd := List.mem_filter.mpr ⟨List.mem_of_getElem? (i := 230) (by decide +kernel), by decide +kernel⟩
theorem co_yX6_spanLength : (Cond.code yX6_spanLength cX6_spanLength 1 (some .int)) ∈ lw_gd := List.mem_filter.mpr ⟨List.mem_of_getElem? (i := 231) (by decide +kernel), by decide +kernel⟩
theorem ml_RX0_44 : (Cond.methodLink RX0 44 yX0_joinLaid) ∈ lw_gd := List.mem_filter.mpr ⟨List.mem_of_getElem? (i := 232) (by decide +kernel), by decide +kernel⟩
theorem im_yX0_joinLaid : (Cond.instanceMethod yX0_joinLaid) ∈ lw_gd := List.mem_filter.mpr ⟨List.mem_of_getElem? (i := 234) (by decide +kernel), by decide +kernel⟩
theorem co_yX0_joinLaid : (Cond.code yX0_joinLaid cX0_joinLaid 6 none) ∈ lw_gd := List.mem_filter.mpr ⟨List.mem_of_getElem? (i := 235) (by decide +kernel), by decide +kernel⟩
theorem ml_RX0_57 : (Cond.methodLink RX0 57 yX2_takeBackTo) ∈ lw_gd := List.mem_filter.mpr ⟨List.mem_of_getElem? (i := 236) (by decide +kernel), by decide +kernel⟩
theorem im_yX2_takeBackTo : (Cond.instanceMethod yX2_takeBackTo) ∈ lw_gd := List.mem_filter.mpr ⟨List.mem_of_getElem? (i := 237) (by decide +kernel), by decide +kernel⟩
theorem se_yX2_takeBackTo : (Cond.selects RX2 yX2_takeBackTo yX2_takeBackTo) ∈ lw_gd := List.mem_filter.mpr ⟨List.mem_of_getElem? (i := 238) (by decide +kernel), by decide +kernel⟩
theorem co_yX2_takeBackTo : (Cond.code yX2_takeBackTo cX2_takeBackTo 3 none) ∈ lw_gd := List.mem_filter.mpr ⟨List.mem_of_getElem? (i := 239) (by decide +kernel), by decide +kernel⟩
theorem ml_RX2_37 : (Cond.methodLink RX2 37 yX2_takeOff) ∈ lw_gd := List.mem_filter.mpr ⟨List.mem_of_getElem? (i := 240) (by decide +kernel), by decide +kernel⟩
theorem im_yX2_takeOff : (Cond.instanceMethod yX2_takeOff) ∈ lw_gd := List.mem_filter.mpr ⟨List.mem_of_getElem? (i := 242) (by decide +kernel), by decide +kernel⟩
theorem co_yX2_takeOff : (Cond.code yX2_takeOff cX2_takeOff 3 none) ∈ lw_gd := List.mem_filter.mpr ⟨List.mem_of_getElem? (i := 243) (by decide +kernel), by decide +kernel⟩
theorem ml_RX2_29 : (Cond.methodLink RX2 29 yX2_has) ∈ lw_gd := List.mem_filter.mpr ⟨List.mem_of_getElem? (i := 244) (by decide +kernel), by decide +kernel⟩
theorem im_yX2_has : (Cond.instanceMethod yX2_has) ∈ lw_gd := List.mem_filter.mpr ⟨List.mem_of_getElem? (i := 246) (by decide +kernel), by decide +kernel⟩
theorem co_yX2_has : (Cond.code yX2_has cX2_has 2 (some .boolean)) ∈ lw_gd := List.mem_filter.mpr ⟨List.mem_of_getElem? (i := 247) (by decide +kernel), by decide +kernel⟩
theorem ml_RX0_60 : (Cond.methodLink RX0 60 yX4_size) ∈ lw_gd := List.mem_filter.mpr ⟨List.mem_of_getElem? (i := 248) (by decide +kernel), by decide +kernel⟩
theorem ml_RX0_65 : (Cond.methodLink RX0 65 yX4_isLaidAt) ∈ lw_gd := List.mem_filter.mpr ⟨List.mem_of_getElem? (i := 249) (by decide +kernel), by decide +kernel⟩
theorem im_yX4_isLaidAt : (Cond.instanceMethod yX4_isLaidAt) ∈ lw_gd := List.mem_filter.mpr ⟨List.mem_of_getElem? (i := 250) (by decide +kernel), by decide +kernel⟩
theorem se_yX4_isLaidAt : (Cond.selects RX4 yX4_isLaidAt yX4_isLaidAt) ∈ lw_gd := List.mem_filter.mpr ⟨List.mem_of_getElem? (i := 251) (by decide +kernel), by decide +kernel⟩
theorem co_yX4_isLaidAt : (Cond.code yX4_isLaidAt cX4_isLaidAt 4 (some .boolean)) ∈ lw_gd := List.mem_filter.mpr ⟨List.mem_of_getElem? (i := 252) (by decide +kernel), by decide +kernel⟩
theorem ml_RX4_36 : (RX4, 36, yX6_spanLength, RX6) ∈ lw_nest := by decide +kernel
theorem ml_RX4_40 : (Cond.methodLink RX4 40 yX4_coversAll) ∈ lw_gd := List.mem_filter.mpr ⟨List.mem_of_getElem? (i := 254) (by decide +kernel), by decide +kernel⟩
theorem im_yX4_coversAll : (Cond.instanceMethod yX4_coversAll) ∈ lw_gd := List.mem_filter.mpr ⟨List.mem_of_getElem? (i := 256) (by decide +kernel), by decide +kernel⟩
theorem co_yX4_coversAll : (Cond.code yX4_coversAll cX4_coversAll 4 (some .boolean)) ∈ lw_gd := List.mem_filter.mpr ⟨List.mem_of_getElem? (i := 257) (by decide +kernel), by decide +kernel⟩
theorem ml_RX4_28 : (Cond.methodLink RX4 28 yX4_has) ∈ lw_gd := List.mem_filter.mpr ⟨List.mem_of_getElem? (i := 258) (by decide +kernel), by decide +kernel⟩
theorem im_yX4_has : (Cond.instanceMethod yX4_has) ∈ lw_gd := List.mem_filter.mpr ⟨List.mem_of_getElem? (i := 259) (by decide +kernel), by decide +kernel⟩
theorem se_yX4_has : (Cond.selects RX4 yX4_has yX4_has) ∈ lw_gd := List.mem_filter.mpr ⟨List.mem_of_getElem? (i := 260) (by decide +kernel), by decide +kernel⟩
theorem co_yX4_has : (Cond.code yX4_has cX4_has 2 (some .boolean)) ∈ lw_gd := List.mem_filter.mpr ⟨List.mem_of_getElem? (i := 261) (by decide +kernel), by decide +kernel⟩
theorem ml_RX4_44 : (RX4, 44, yX6_spanBegin, RX6) ∈ lw_nest := by decide +kernel
theorem ml_RX0_69 : (Cond.methodLink RX0 69 yX4_oneOf) ∈ lw_gd := List.mem_filter.mpr ⟨List.mem_of_getElem? (i := 263) (by decide +kernel), by decide +kernel⟩
theorem im_yX4_oneOf : (Cond.instanceMethod yX4_oneOf) ∈ lw_gd := List.mem_filter.mpr ⟨List.mem_of_getElem? (i := 264) (by decide +kernel), by decide +kernel⟩
theorem se_yX4_oneOf : (Cond.selects RX4 yX4_oneOf yX4_oneOf) ∈ lw_gd := List.mem_filter.mpr ⟨List.mem_of_getElem? (i := 265) (by decide +kernel), by decide +kernel⟩
theorem co_yX4_oneOf : (Cond.code yX4_oneOf cX4_oneOf 2 (some .int)) ∈ lw_gd := List.mem_filter.mpr ⟨List.mem_of_getElem? (i := 266) (by decide +kernel), by decide +kernel⟩
theorem ml_RX0_73 : (Cond.methodLink RX0 73 yX4_otherOf) ∈ lw_gd := List.mem_filter.mpr ⟨List.mem_of_getElem? (i := 267) (by decide +kernel), by decide +kernel⟩
theorem im_yX4_otherOf : (Cond.instanceMethod yX4_otherOf) ∈ lw_gd := List.mem_filter.mpr ⟨List.mem_of_getElem? (i := 268) (by decide +kernel), by decide +kernel⟩
theorem se_yX4_otherOf : (Cond.selects RX4 yX4_otherOf yX4_otherOf) ∈ lw_gd := List.mem_filter.mpr ⟨List.mem_of_getElem? (i := 269) (by decide +kernel), by decide +kernel⟩
theorem co_yX4_otherOf : (Cond.code yX4_otherOf cX4_otherOf 2 (some .int)) ∈ lw_gd := List.mem_filter.mpr ⟨List.mem_of_getElem? (i := 270) (by decide +kernel), by decide +kernel⟩
theorem ml_RX0_76 : (Cond.methodLink RX0 76 yX2_join) ∈ lw_gd := List.mem_filter.mpr ⟨List.mem_of_getElem? (i := 271) (by decide +kernel), by decide +kernel⟩
theorem im_yX2_join : (Cond.instanceMethod yX2_join) ∈ lw_gd := List.mem_filter.mpr ⟨List.mem_of_getElem? (i := 272) (by decide +kernel), by decide +kernel⟩
theorem se_yX2_join : (Cond.selects RX2 yX2_join yX2_join) ∈ lw_gd := List.mem_filter.mpr ⟨List.mem_of_getElem? (i := 273) (by decide +kernel), by decide +kernel⟩
theorem co_yX2_join : (Cond.code yX2_join cX2_join 6 none) ∈ lw_gd := List.mem_filter.mpr ⟨List.mem_of_getElem? (i := 274) (by decide +kernel), by decide +kernel⟩
theorem ml_RX2_33 : (Cond.methodLink RX2 33 yX2_topOf) ∈ lw_gd := List.mem_filter.mpr ⟨List.mem_of_getElem? (i := 275) (by decide +kernel), by decide +kernel⟩
theorem im_yX2_topOf : (Cond.instanceMethod yX2_topOf) ∈ lw_gd := List.mem_filter.mpr ⟨List.mem_of_getElem? (i := 277) (by decide +kernel), by decide +kernel⟩
theorem co_yX2_topOf : (Cond.code yX2_topOf cX2_topOf 4 (some .int)) ∈ lw_gd := List.mem_filter.mpr ⟨List.mem_of_getElem? (i := 278) (by decide +kernel), by decide +kernel⟩
theorem ml_RX0_48 : (Cond.methodLink RX0 48 yX2_standing) ∈ lw_gd := List.mem_filter.mpr ⟨List.mem_of_getElem? (i := 279) (by decide +kernel), by decide +kernel⟩
theorem im_yX2_standing : (Cond.instanceMethod yX2_standing) ∈ lw_gd := List.mem_filter.mpr ⟨List.mem_of_getElem? (i := 280) (by decide +kernel), by decide +kernel⟩
theorem se_yX2_standing : (Cond.selects RX2 yX2_standing yX2_standing) ∈ lw_gd := List.mem_filter.mpr ⟨List.mem_of_getElem? (i := 281) (by decide +kernel), by decide +kernel⟩
theorem co_yX2_standing : (Cond.code yX2_standing cX2_standing 1 (some .int)) ∈ lw_gd := List.mem_filter.mpr ⟨List.mem_of_getElem? (i := 282) (by decide +kernel), by decide +kernel⟩
theorem ml_RX0_52 : (Cond.methodLink RX0 52 Lib.Math.max.name) ∈ lw_gd := List.mem_filter.mpr ⟨List.mem_of_getElem? (i := 283) (by decide +kernel), by decide +kernel⟩
theorem ml_RX6_239 : (Cond.methodLink RX6 239 yX0_madeInAll) ∈ lw_gd := List.mem_filter.mpr ⟨List.mem_of_getElem? (i := 284) (by decide +kernel), by decide +kernel⟩
theorem im_yX0_madeInAll : (Cond.instanceMethod yX0_madeInAll) ∈ lw_gd := List.mem_filter.mpr ⟨List.mem_of_getElem? (i := 285) (by decide +kernel), by decide +kernel⟩
theorem se_yX0_madeInAll : (Cond.selects RX0 yX0_madeInAll yX0_madeInAll) ∈ lw_gd := List.mem_filter.mpr ⟨List.mem_of_getElem? (i := 286) (by decide +kernel), by decide +kernel⟩
theorem co_yX0_madeInAll : (Cond.code yX0_madeInAll cX0_madeInAll 1 (some .int)) ∈ lw_gd := List.mem_filter.mpr ⟨List.mem_of_getElem? (i := 287) (by decide +kernel), by decide +kernel⟩
theorem ml_RX6_242 : (Cond.methodLink RX6 242 yX0_idleInAll) ∈ lw_gd := List.mem_filter.mpr ⟨List.mem_of_getElem? (i := 288) (by decide +kernel), by decide +kernel⟩
theorem im_yX0_idleInAll : (Cond.instanceMethod yX0_idleInAll) ∈ lw_gd := List.mem_filter.mpr ⟨List.mem_of_getElem? (i := 289) (by decide +kernel), by decide +kernel⟩
theorem se_yX0_idleInAll : (Cond.selects RX0 yX0_idleInAll yX0_idleInAll) ∈ lw_gd := List.mem_filter.mpr ⟨List.mem_of_getElem? (i := 290) (by decide +kernel), by decide +kernel⟩
theorem co_yX0_idleInAll : (Cond.code yX0_idleInAll cX0_idleInAll 1 (some .int)) ∈ lw_gd := List.mem_filter.mpr ⟨List.mem_of_getElem? (i := 291) (by decide +kernel), by decide +kernel⟩
theorem ml_RX6_245 : (Cond.methodLink RX6 245 yX0_mostStanding) ∈ lw_gd := List.mem_filter.mpr ⟨List.mem_of_getElem? (i := 292) (by decide +kernel), by decide +kernel⟩
theorem im_yX0_mostStanding : (Cond.instanceMethod yX0_mostStanding) ∈ lw_gd := List.mem_filter.mpr ⟨List.mem_of_getElem? (i := 293) (by decide +kernel), by decide +kernel⟩
theorem se_yX0_mostStanding : (Cond.selects RX0 yX0_mostStanding yX0_mostStanding) ∈ lw_gd := List.mem_filter.mpr ⟨List.mem_of_getElem? (i := 294) (by decide +kernel), by decide +kernel⟩
theorem co_yX0_mostStanding : (Cond.code yX0_mostStanding cX0_mostStanding 1 (some .int)) ∈ lw_gd := List.mem_filter.mpr ⟨List.mem_of_getElem? (i := 295) (by decide +kernel), by decide +kernel⟩
theorem ml_RX6_227 : (Cond.methodLink RX6 227 yX5_oddMoments) ∈ lw_gd := List.mem_filter.mpr ⟨List.mem_of_getElem? (i := 296) (by decide +kernel), by decide +kernel⟩
theorem im_yX5_oddMoments : (Cond.instanceMethod yX5_oddMoments) ∈ lw_gd := List.mem_filter.mpr ⟨List.mem_of_getElem? (i := 297) (by decide +kernel), by decide +kernel⟩
theorem se_yX5_oddMoments : (Cond.selects RX5 yX5_oddMoments yX5_oddMoments) ∈ lw_gd := List.mem_filter.mpr ⟨List.mem_of_getElem? (i := 298) (by decide +kernel), by decide +kernel⟩
theorem co_yX5_oddMoments : (Cond.code yX5_oddMoments cX5_oddMoments 4 (some .int)) ∈ lw_gd := List.mem_filter.mpr ⟨List.mem_of_getElem? (i := 299) (by decide +kernel), by decide +kernel⟩
theorem ml_RX5_70 : (Cond.methodLink RX5 70 yX5_isOddAt) ∈ lw_gd := List.mem_filter.mpr ⟨List.mem_of_getElem? (i := 300) (by decide +kernel), by decide +kernel⟩
theorem im_yX5_isOddAt : (Cond.instanceMethod yX5_isOddAt) ∈ lw_gd := List.mem_filter.mpr ⟨List.mem_of_getElem? (i := 301) (by decide +kernel), by decide +kernel⟩
theorem se_yX5_isOddAt : (Cond.selects RX5 yX5_isOddAt yX5_isOddAt) ∈ lw_gd := List.mem_filter.mpr ⟨List.mem_of_getElem? (i := 302) (by decide +kernel), by decide +kernel⟩
theorem co_yX5_isOddAt : (Cond.code yX5_isOddAt cX5_isOddAt 4 (some .boolean)) ∈ lw_gd := List.mem_filter.mpr ⟨List.mem_of_getElem? (i := 303) (by decide +kernel), by decide +kernel⟩
theorem ml_RX5_23 : (Cond.methodLink RX5 23 yX2_takeBackTo) ∈ lw_gd := List.mem_filter.mpr ⟨List.mem_of_getElem? (i := 304) (by decide +kernel), by decide +kernel⟩
theorem ml_RX5_26 : (Cond.methodLink RX5 26 yX4_size) ∈ lw_gd := List.mem_filter.mpr ⟨List.mem_of_getElem? (i := 305) (by decide +kernel), by decide +kernel⟩
theorem ml_RX5_32 : (Cond.methodLink RX5 32 yX4_livesAt) ∈ lw_gd := List.mem_filter.mpr ⟨List.mem_of_getElem? (i := 306) (by decide +kernel), by decide +kernel⟩
theorem im_yX4_livesAt : (Cond.instanceMethod yX4_livesAt) ∈ lw_gd := List.mem_filter.mpr ⟨List.mem_of_getElem? (i := 307) (by decide +kernel), by decide +kernel⟩
theorem se_yX4_livesAt : (Cond.selects RX4 yX4_livesAt yX4_livesAt) ∈ lw_gd := List.mem_filter.mpr ⟨List.mem_of_getElem? (i := 308) (by decide +kernel), by decide +kernel⟩
theorem co_yX4_livesAt : (Cond.code yX4_livesAt cX4_livesAt 3 (some .boolean)) ∈ lw_gd := List.mem_filter.mpr ⟨List.mem_of_getElem? (i := 309) (by decide +kernel), by decide +kernel⟩
theorem ml_RX5_36 : (Cond.methodLink RX5 36 yX4_oneOf) ∈ lw_gd := List.mem_filter.mpr ⟨List.mem_of_getElem? (i := 310) (by decide +kernel), by decide +kernel⟩
theorem ml_RX5_40 : (Cond.methodLink RX5 40 yX4_otherOf) ∈ lw_gd := List.mem_filter.mpr ⟨List.mem_of_getElem? (i := 311) (by decide +kernel), by decide +kernel⟩
theorem ml_RX5_43 : (Cond.methodLink RX5 43 yX2_join) ∈ lw_gd := List.mem_filter.mpr ⟨List.mem_of_getElem? (i := 312) (by decide +kernel), by decide +kernel⟩
theorem ml_RX5_51 : (Cond.methodLink RX5 51 yX2_areJoined) ∈ lw_gd := List.mem_filter.mpr ⟨List.mem_of_getElem? (i := 313) (by decide +kernel), by decide +kernel⟩
theorem im_yX2_areJoined : (Cond.instanceMethod yX2_areJoined) ∈ lw_gd := List.mem_filter.mpr ⟨List.mem_of_getElem? (i := 314) (by decide +kernel), by decide +kernel⟩
theorem se_yX2_areJoined : (Cond.selects RX2 yX2_areJoined yX2_areJoined) ∈ lw_gd := List.mem_filter.mpr ⟨List.mem_of_getElem? (i := 315) (by decide +kernel), by decide +kernel⟩
theorem co_yX2_areJoined : (Cond.code yX2_areJoined cX2_areJoined 3 (some .boolean)) ∈ lw_gd := List.mem_filter.mpr ⟨List.mem_of_getElem? (i := 316) (by decide +kernel), by decide +kernel⟩
theorem ml_RX6_230 : (Cond.methodLink RX6 230 yX5_mostParts) ∈ lw_gd := List.mem_filter.mpr ⟨List.mem_of_getElem? (i := 317) (by decide +kernel), by decide +kernel⟩
theorem im_yX5_mostParts : (Cond.instanceMethod yX5_mostParts) ∈ lw_gd := List.mem_filter.mpr ⟨List.mem_of_getElem? (i := 318) (by decide +kernel), by decide +kernel⟩
theorem se_yX5_mostParts : (Cond.selects RX5 yX5_mostParts yX5_mostParts) ∈ lw_gd := List.mem_filter.mpr ⟨List.mem_of_getElem? (i := 319) (by decide +kernel), by decide +kernel⟩
theorem co_yX5_mostParts : (Cond.code yX5_mostParts cX5_mostParts 4 (some .int)) ∈ lw_gd := List.mem_filter.mpr ⟨List.mem_of_getElem? (i := 320) (by decide +kernel), by decide +kernel⟩
theorem ml_RX5_74 : (Cond.methodLink RX5 74 yX5_partsAt) ∈ lw_gd := List.mem_filter.mpr ⟨List.mem_of_getElem? (i := 321) (by decide +kernel), by decide +kernel⟩
theorem im_yX5_partsAt : (Cond.instanceMethod yX5_partsAt) ∈ lw_gd := List.mem_filter.mpr ⟨List.mem_of_getElem? (i := 322) (by decide +kernel), by decide +kernel⟩
theorem se_yX5_partsAt : (Cond.selects RX5 yX5_partsAt yX5_partsAt) ∈ lw_gd := List.mem_filter.mpr ⟨List.mem_of_getElem? (i := 323) (by decide +kernel), by decide +kernel⟩
theorem co_yX5_partsAt : (Cond.code yX5_partsAt cX5_partsAt 3 (some .int)) ∈ lw_gd := List.mem_filter.mpr ⟨List.mem_of_getElem? (i := 324) (by decide +kernel), by decide +kernel⟩
theorem ml_RX5_47 : (Cond.methodLink RX5 47 yX5_joinWithout) ∈ lw_gd := List.mem_filter.mpr ⟨List.mem_of_getElem? (i := 325) (by decide +kernel), by decide +kernel⟩
theorem im_yX5_joinWithout : (Cond.instanceMethod yX5_joinWithout) ∈ lw_gd := List.mem_filter.mpr ⟨List.mem_of_getElem? (i := 327) (by decide +kernel), by decide +kernel⟩
theorem co_yX5_joinWithout : (Cond.code yX5_joinWithout cX5_joinWithout 5 none) ∈ lw_gd := List.mem_filter.mpr ⟨List.mem_of_getElem? (i := 328) (by decide +kernel), by decide +kernel⟩
theorem ml_RX5_54 : (Cond.methodLink RX5 54 yX2_standing) ∈ lw_gd := List.mem_filter.mpr ⟨List.mem_of_getElem? (i := 329) (by decide +kernel), by decide +kernel⟩
theorem ml_RX5_60 : (Cond.methodLink RX5 60 Lib.Math.max.name) ∈ lw_gd := List.mem_filter.mpr ⟨List.mem_of_getElem? (i := 330) (by decide +kernel), by decide +kernel⟩
theorem ml_RX6_233 : (Cond.methodLink RX6 233 yX5_fewestParts) ∈ lw_gd := List.mem_filter.mpr ⟨List.mem_of_getElem? (i := 331) (by decide +kernel), by decide +kernel⟩
theorem im_yX5_fewestParts : (Cond.instanceMethod yX5_fewestParts) ∈ lw_gd := List.mem_filter.mpr ⟨List.mem_of_getElem? (i := 332) (by decide +kernel), by decide +kernel⟩
theorem se_yX5_fewestParts : (Cond.selects RX5 yX5_fewestParts yX5_fewestParts) ∈ lw_gd := List.mem_filter.mpr ⟨List.mem_of_getElem? (i := 333) (by decide +kernel), by decide +kernel⟩
theorem co_yX5_fewestParts : (Cond.code yX5_fewestParts cX5_fewestParts 4 (some .int)) ∈ lw_gd := List.mem_filter.mpr ⟨List.mem_of_getElem? (i := 334) (by decide +kernel), by decide +kernel⟩
theorem ml_RX5_78 : (Cond.methodLink RX5 78 Lib.Math.min.name) ∈ lw_gd := List.mem_filter.mpr ⟨List.mem_of_getElem? (i := 335) (by decide +kernel), by decide +kernel⟩
theorem sm_Lib_Math_min_name : (Cond.static Lib.Math.min.name) ∈ lw_gd := List.mem_filter.mpr ⟨List.mem_of_getElem? (i := 336) (by decide +kernel), by decide +kernel⟩
theorem co_Lib_Math_min_name : (Cond.code Lib.Math.min.name Lib.Math.min.code 2 (some .int)) ∈ lw_gd := List.mem_filter.mpr ⟨List.mem_of_getElem? (i := 337) (by decide +kernel), by decide +kernel⟩
theorem ml_RX6_137 : (Cond.methodLink RX6 137 yX1_size) ∈ lw_gd := List.mem_filter.mpr ⟨List.mem_of_getElem? (i := 338) (by decide +kernel), by decide +kernel⟩
theorem im_yX1_size : (Cond.instanceMethod yX1_size) ∈ lw_gd := List.mem_filter.mpr ⟨List.mem_of_getElem? (i := 339) (by decide +kernel), by decide +kernel⟩
theorem se_yX1_size : (Cond.selects RX1 yX1_size yX1_size) ∈ lw_gd := List.mem_filter.mpr ⟨List.mem_of_getElem? (i := 340) (by decide +kernel), by decide +kernel⟩
theorem co_yX1_size : (Cond.code yX1_size cX1_size 1 (some .int)) ∈ lw_gd := List.mem_filter.mpr ⟨List.mem_of_getElem? (i := 341) (by decide +kernel), by decide +kernel⟩
theorem ml_RX6_127 : (Cond.methodLink RX6 127 yX3_length) ∈ lw_gd := List.mem_filter.mpr ⟨List.mem_of_getElem? (i := 342) (by decide +kernel), by decide +kernel⟩
theorem im_yX3_length : (Cond.instanceMethod yX3_length) ∈ lw_gd := List.mem_filter.mpr ⟨List.mem_of_getElem? (i := 343) (by decide +kernel), by decide +kernel⟩
theorem se_yX3_length : (Cond.selects RX3 yX3_length yX3_length) ∈ lw_gd := List.mem_filter.mpr ⟨List.mem_of_getElem? (i := 344) (by decide +kernel), by decide +kernel⟩
theorem co_yX3_length : (Cond.code yX3_length cX3_length 1 (some .int)) ∈ lw_gd := List.mem_filter.mpr ⟨List.mem_of_getElem? (i := 345) (by decide +kernel), by decide +kernel⟩
theorem ml_R_law_21 : (Cond.methodLink R_law 21 yX6_addLink) ∈ lw_gd := List.mem_filter.mpr ⟨List.mem_of_getElem? (i := 346) (by decide +kernel), by decide +kernel⟩
theorem im_yX6_addLink : (Cond.instanceMethod yX6_addLink) ∈ lw_gd := List.mem_filter.mpr ⟨List.mem_of_getElem? (i := 347) (by decide +kernel), by decide +kernel⟩
theorem se_yX6_addLink : (Cond.selects RX6 yX6_addLink yX6_addLink) ∈ lw_gd := List.mem_filter.mpr ⟨List.mem_of_getElem? (i := 348) (by decide +kernel), by decide +kernel⟩
theorem co_yX6_addLink : (Cond.code yX6_addLink cX6_addLink 5 (some .int)) ∈ lw_gd := List.mem_filter.mpr ⟨List.mem_of_getElem? (i := 349) (by decide +kernel), by decide +kernel⟩
theorem ml_RX6_61 : (Cond.methodLink RX6 61 yX6_isPoint) ∈ lw_gd := List.mem_filter.mpr ⟨List.mem_of_getElem? (i := 350) (by decide +kernel), by decide +kernel⟩
theorem sm_yX6_isPoint : (Cond.static yX6_isPoint) ∈ lw_gd := List.mem_filter.mpr ⟨List.mem_of_getElem? (i := 351) (by decide +kernel), by decide +kernel⟩
theorem co_yX6_isPoint : (Cond.code yX6_isPoint cX6_isPoint 1 (some .boolean)) ∈ lw_gd := List.mem_filter.mpr ⟨List.mem_of_getElem? (i := 352) (by decide +kernel), by decide +kernel⟩
theorem ml_RX6_65 : (Cond.methodLink RX6 65 yX6_isLife) ∈ lw_gd := List.mem_filter.mpr ⟨List.mem_of_getElem? (i := 353) (by decide +kernel), by decide +kernel⟩
theorem sm_yX6_isLife : (Cond.static yX6_isLife) ∈ lw_gd := List.mem_filter.mpr ⟨List.mem_of_getElem? (i := 354) (by decide +kernel), by decide +kernel⟩
theorem co_yX6_isLife : (Cond.code yX6_isLife cX6_isLife 2 (some .boolean)) ∈ lw_gd := List.mem_filter.mpr ⟨List.mem_of_getElem? (i := 355) (by decide +kernel), by decide +kernel⟩
theorem ml_RX6_102 : (Cond.methodLink RX6 102 yX6_isMoment) ∈ lw_gd := List.mem_filter.mpr ⟨List.mem_of_getElem? (i := 356) (by decide +kernel), by decide +kernel⟩
theorem sm_yX6_isMoment : (Cond.static yX6_isMoment) ∈ lw_gd := List.mem_filter.mpr ⟨List.mem_of_getElem? (i := 357) (by decide +kernel), by decide +kernel⟩
theorem co_yX6_isMoment : (Cond.code yX6_isMoment cX6_isMoment 1 (some .boolean)) ∈ lw_gd := List.mem_filter.mpr ⟨List.mem_of_getElem? (i := 358) (by decide +kernel), by decide +kernel⟩
theorem ml_RX6_69 : (Cond.methodLink RX6 69 yX4_room) ∈ lw_gd := List.mem_filter.mpr ⟨List.mem_of_getElem? (i := 359) (by decide +kernel), by decide +kernel⟩
theorem im_yX4_room : (Cond.instanceMethod yX4_room) ∈ lw_gd := List.mem_filter.mpr ⟨List.mem_of_getElem? (i := 360) (by decide +kernel), by decide +kernel⟩
theorem se_yX4_room : (Cond.selects RX4 yX4_room yX4_room) ∈ lw_gd := List.mem_filter.mpr ⟨List.mem_of_getElem? (i := 361) (by decide +kernel), by decide +kernel⟩
theorem co_yX4_room : (Cond.code yX4_room cX4_room 1 (some .int)) ∈ lw_gd := List.mem_filter.mpr ⟨List.mem_of_getElem? (i := 362) (by decide +kernel), by decide +kernel⟩
theorem ml_RX6_73 : (Cond.methodLink RX6 73 yX1_remember) ∈ lw_gd := List.mem_filter.mpr ⟨List.mem_of_getElem? (i := 363) (by decide +kernel), by decide +kernel⟩
theorem im_yX1_remember : (Cond.instanceMethod yX1_remember) ∈ lw_gd := List.mem_filter.mpr ⟨List.mem_of_getElem? (i := 364) (by decide +kernel), by decide +kernel⟩
theorem se_yX1_remember : (Cond.selects RX1 yX1_remember yX1_remember) ∈ lw_gd := List.mem_filter.mpr ⟨List.mem_of_getElem? (i := 365) (by decide +kernel), by decide +kernel⟩
theorem co_yX1_remember : (Cond.code yX1_remember cX1_remember 3 none) ∈ lw_gd := List.mem_filter.mpr ⟨List.mem_of_getElem? (i := 366) (by decide +kernel), by decide +kernel⟩
theorem ml_RX1_22 : (Cond.methodLink RX1 22 yX1_dropOldest) ∈ lw_gd := List.mem_filter.mpr ⟨List.mem_of_getElem? (i := 367) (by decide +kernel), by decide +kernel⟩
theorem im_yX1_dropOldest : (Cond.instanceMethod yX1_dropOldest) ∈ lw_gd := List.mem_filter.mpr ⟨List.mem_of_getElem? (i := 369) (by decide +kernel), by decide +kernel⟩
theorem co_yX1_dropOldest : (Cond.code yX1_dropOldest cX1_dropOldest 3 none) ∈ lw_gd := List.mem_filter.mpr ⟨List.mem_of_getElem? (i := 370) (by decide +kernel), by decide +kernel⟩
theorem ml_RX1_25 : (Cond.methodLink RX1 25 yX4_take) ∈ lw_gd := List.mem_filter.mpr ⟨List.mem_of_getElem? (i := 371) (by decide +kernel), by decide +kernel⟩
theorem im_yX4_take : (Cond.instanceMethod yX4_take) ∈ lw_gd := List.mem_filter.mpr ⟨List.mem_of_getElem? (i := 372) (by decide +kernel), by decide +kernel⟩
theorem se_yX4_take : (Cond.selects RX4 yX4_take yX4_take) ∈ lw_gd := List.mem_filter.mpr ⟨List.mem_of_getElem? (i := 373) (by decide +kernel), by decide +kernel⟩
theorem co_yX4_take : (Cond.code yX4_take cX4_take 2 none) ∈ lw_gd := List.mem_filter.mpr ⟨List.mem_of_getElem? (i := 374) (by decide +kernel), by decide +kernel⟩
theorem ml_RX4_59 : (Cond.methodLink RX4 59 yX4_empty) ∈ lw_gd := List.mem_filter.mpr ⟨List.mem_of_getElem? (i := 375) (by decide +kernel), by decide +kernel⟩
theorem im_yX4_empty : (Cond.instanceMethod yX4_empty) ∈ lw_gd := List.mem_filter.mpr ⟨List.mem_of_getElem? (i := 376) (by decide +kernel), by decide +kernel⟩
theorem se_yX4_empty : (Cond.selects RX4 yX4_empty yX4_empty) ∈ lw_gd := List.mem_filter.mpr ⟨List.mem_of_getElem? (i := 377) (by decide +kernel), by decide +kernel⟩
theorem co_yX4_empty : (Cond.code yX4_empty cX4_empty 1 none) ∈ lw_gd := List.mem_filter.mpr ⟨List.mem_of_getElem? (i := 378) (by decide +kernel), by decide +kernel⟩
theorem ml_RX4_62 : (Cond.methodLink RX4 62 yX4_addAll) ∈ lw_gd := List.mem_filter.mpr ⟨List.mem_of_getElem? (i := 379) (by decide +kernel), by decide +kernel⟩
theorem im_yX4_addAll : (Cond.instanceMethod yX4_addAll) ∈ lw_gd := List.mem_filter.mpr ⟨List.mem_of_getElem? (i := 380) (by decide +kernel), by decide +kernel⟩
theorem se_yX4_addAll : (Cond.selects RX4 yX4_addAll yX4_addAll) ∈ lw_gd := List.mem_filter.mpr ⟨List.mem_of_getElem? (i := 381) (by decide +kernel), by decide +kernel⟩
theorem co_yX4_addAll : (Cond.code yX4_addAll cX4_addAll 3 none) ∈ lw_gd := List.mem_filter.mpr ⟨List.mem_of_getElem? (i := 382) (by decide +kernel), by decide +kernel⟩
theorem ml_RX4_55 : (Cond.methodLink RX4 55 yX4_add) ∈ lw_gd := List.mem_filter.mpr ⟨List.mem_of_getElem? (i := 383) (by decide +kernel), by decide +kernel⟩
theorem im_yX4_add : (Cond.instanceMethod yX4_add) ∈ lw_gd := List.mem_filter.mpr ⟨List.mem_of_getElem? (i := 384) (by decide +kernel), by decide +kernel⟩
theorem se_yX4_add : (Cond.selects RX4 yX4_add yX4_add) ∈ lw_gd := List.mem_filter.mpr ⟨List.mem_of_getElem? (i := 385) (by decide +kernel), by decide +kernel⟩
theorem co_yX4_add : (Cond.code yX4_add cX4_add 5 none) ∈ lw_gd := List.mem_filter.mpr ⟨List.mem_of_getElem? (i := 386) (by decide +kernel), by decide +kernel⟩
theorem ml_RX4_51 : (Cond.methodLink RX4 51 yX4_room) ∈ lw_gd := List.mem_filter.mpr ⟨List.mem_of_getElem? (i := 387) (by decide +kernel), by decide +kernel⟩
theorem ml_RX6_77 : (Cond.methodLink RX6 77 yX4_add) ∈ lw_gd := List.mem_filter.mpr ⟨List.mem_of_getElem? (i := 388) (by decide +kernel), by decide +kernel⟩
theorem ml_R_law_25 : (Cond.methodLink R_law 25 yX6_removeLink) ∈ lw_gd := List.mem_filter.mpr ⟨List.mem_of_getElem? (i := 389) (by decide +kernel), by decide +kernel⟩
theorem im_yX6_removeLink : (Cond.instanceMethod yX6_removeLink) ∈ lw_gd := List.mem_filter.mpr ⟨List.mem_of_getElem? (i := 390) (by decide +kernel), by decide +kernel⟩
theorem se_yX6_removeLink : (Cond.selects RX6 yX6_removeLink yX6_removeLink) ∈ lw_gd := List.mem_filter.mpr ⟨List.mem_of_getElem? (i := 391) (by decide +kernel), by decide +kernel⟩
theorem co_yX6_removeLink : (Cond.code yX6_removeLink cX6_removeLink 2 (some .int)) ∈ lw_gd := List.mem_filter.mpr ⟨List.mem_of_getElem? (i := 392) (by decide +kernel), by decide +kernel⟩
theorem ml_RX6_84 : (Cond.methodLink RX6 84 yX4_has) ∈ lw_gd := List.mem_filter.mpr ⟨List.mem_of_getElem? (i := 393) (by decide +kernel), by decide +kernel⟩
theorem ml_RX6_87 : (Cond.methodLink RX6 87 yX4_removeAt) ∈ lw_gd := List.mem_filter.mpr ⟨List.mem_of_getElem? (i := 394) (by decide +kernel), by decide +kernel⟩
theorem im_yX4_removeAt : (Cond.instanceMethod yX4_removeAt) ∈ lw_gd := List.mem_filter.mpr ⟨List.mem_of_getElem? (i := 395) (by decide +kernel), by decide +kernel⟩
theorem se_yX4_removeAt : (Cond.selects RX4 yX4_removeAt yX4_removeAt) ∈ lw_gd := List.mem_filter.mpr ⟨List.mem_of_getElem? (i := 396) (by decide +kernel), by decide +kernel⟩
theorem co_yX4_removeAt : (Cond.code yX4_removeAt cX4_removeAt 3 none) ∈ lw_gd := List.mem_filter.mpr ⟨List.mem_of_getElem? (i := 397) (by decide +kernel), by decide +kernel⟩
theorem ml_R_law_28 : (Cond.methodLink R_law 28 yX6_setLife) ∈ lw_gd := List.mem_filter.mpr ⟨List.mem_of_getElem? (i := 398) (by decide +kernel), by decide +kernel⟩
theorem im_yX6_setLife : (Cond.instanceMethod yX6_setLife) ∈ lw_gd := List.mem_filter.mpr ⟨List.mem_of_getElem? (i := 399) (by decide +kernel), by decide +kernel⟩
theorem se_yX6_setLife : (Cond.selects RX6 yX6_setLife yX6_setLife) ∈ lw_gd := List.mem_filter.mpr ⟨List.mem_of_getElem? (i := 400) (by decide +kernel), by decide +kernel⟩
theorem co_yX6_setLife : (Cond.code yX6_setLife cX6_setLife 4 (some .int)) ∈ lw_gd := List.mem_filter.mpr ⟨List.mem_of_getElem? (i := 401) (by decide +kernel), by decide +kernel⟩
theorem ml_RX6_91 : (Cond.methodLink RX6 91 yX4_fromOf) ∈ lw_gd := List.mem_filter.mpr ⟨List.mem_of_getElem? (i := 402) (by decide +kernel), by decide +kernel⟩
theorem im_yX4_fromOf : (Cond.instanceMethod yX4_fromOf) ∈ lw_gd := List.mem_filter.mpr ⟨List.mem_of_getElem? (i := 403) (by decide +kernel), by decide +kernel⟩
theorem se_yX4_fromOf : (Cond.selects RX4 yX4_fromOf yX4_fromOf) ∈ lw_gd := List.mem_filter.mpr ⟨List.mem_of_getElem? (i := 404) (by decide +kernel), by decide +kernel⟩
theorem co_yX4_fromOf : (Cond.code yX4_fromOf cX4_fromOf 2 (some .int)) ∈ lw_gd := List.mem_filter.mpr ⟨List.mem_of_getElem? (i := 405) (by decide +kernel), by decide +kernel⟩
theorem ml_RX6_95 : (Cond.methodLink RX6 95 yX4_toOf) ∈ lw_gd := List.mem_filter.mpr ⟨List.mem_of_getElem? (i := 406) (by decide +kernel), by decide +kernel⟩
theorem im_yX4_toOf : (Cond.instanceMethod yX4_toOf) ∈ lw_gd := List.mem_filter.mpr ⟨List.mem_of_getElem? (i := 407) (by decide +kernel), by decide +kernel⟩
theorem se_yX4_toOf : (Cond.selects RX4 yX4_toOf yX4_toOf) ∈ lw_gd := List.mem_filter.mpr ⟨List.mem_of_getElem? (i := 408) (by decide +kernel), by decide +kernel⟩
theorem co_yX4_toOf : (Cond.code yX4_toOf cX4_toOf 2 (some .int)) ∈ lw_gd := List.mem_filter.mpr ⟨List.mem_of_getElem? (i := 409) (by decide +kernel), by decide +kernel⟩
theorem ml_RX6_98 : (Cond.methodLink RX6 98 yX4_live) ∈ lw_gd := List.mem_filter.mpr ⟨List.mem_of_getElem? (i := 410) (by decide +kernel), by decide +kernel⟩
theorem im_yX4_live : (Cond.instanceMethod yX4_live) ∈ lw_gd := List.mem_filter.mpr ⟨List.mem_of_getElem? (i := 411) (by decide +kernel), by decide +kernel⟩
theorem se_yX4_live : (Cond.selects RX4 yX4_live yX4_live) ∈ lw_gd := List.mem_filter.mpr ⟨List.mem_of_getElem? (i := 412) (by decide +kernel), by decide +kernel⟩
theorem co_yX4_live : (Cond.code yX4_live cX4_live 4 none) ∈ lw_gd := List.mem_filter.mpr ⟨List.mem_of_getElem? (i := 413) (by decide +kernel), by decide +kernel⟩
theorem ml_R_law_32 : (Cond.methodLink R_law 32 yX6_moment) ∈ lw_gd := List.mem_filter.mpr ⟨List.mem_of_getElem? (i := 414) (by decide +kernel), by decide +kernel⟩
theorem im_yX6_moment : (Cond.instanceMethod yX6_moment) ∈ lw_gd := List.mem_filter.mpr ⟨List.mem_of_getElem? (i := 415) (by decide +kernel), by decide +kernel⟩
theorem se_yX6_moment : (Cond.selects RX6 yX6_moment yX6_moment) ∈ lw_gd := List.mem_filter.mpr ⟨List.mem_of_getElem? (i := 416) (by decide +kernel), by decide +kernel⟩
theorem co_yX6_moment : (Cond.code yX6_moment cX6_moment 3 (some .int)) ∈ lw_gd := List.mem_filter.mpr ⟨List.mem_of_getElem? (i := 417) (by decide +kernel), by decide +kernel⟩
theorem ml_RX6_121 : (Cond.methodLink RX6 121 yX4_livingAt) ∈ lw_gd := List.mem_filter.mpr ⟨List.mem_of_getElem? (i := 418) (by decide +kernel), by decide +kernel⟩
theorem im_yX4_livingAt : (Cond.instanceMethod yX4_livingAt) ∈ lw_gd := List.mem_filter.mpr ⟨List.mem_of_getElem? (i := 419) (by decide +kernel), by decide +kernel⟩
theorem se_yX4_livingAt : (Cond.selects RX4 yX4_livingAt yX4_livingAt) ∈ lw_gd := List.mem_filter.mpr ⟨List.mem_of_getElem? (i := 420) (by decide +kernel), by decide +kernel⟩
theorem co_yX4_livingAt : (Cond.code yX4_livingAt cX4_livingAt 4 (some .int)) ∈ lw_gd := List.mem_filter.mpr ⟨List.mem_of_getElem? (i := 421) (by decide +kernel), by decide +kernel⟩
theorem ml_RX4_32 : (Cond.methodLink RX4 32 yX4_livesAt) ∈ lw_gd := List.mem_filter.mpr ⟨List.mem_of_getElem? (i := 422) (by decide +kernel), by decide +kernel⟩
theorem ml_RX6_159 : (Cond.methodLink RX6 159 yX5_partsAt) ∈ lw_gd := List.mem_filter.mpr ⟨List.mem_of_getElem? (i := 423) (by decide +kernel), by decide +kernel⟩
theorem ml_RX6_162 : (Cond.methodLink RX6 162 yX5_isOddAt) ∈ lw_gd := List.mem_filter.mpr ⟨List.mem_of_getElem? (i := 424) (by decide +kernel), by decide +kernel⟩
theorem ml_RX6_155 : (Cond.methodLink RX6 155 yX6_asNumber) ∈ lw_gd := List.mem_filter.mpr ⟨List.mem_of_getElem? (i := 425) (by decide +kernel), by decide +kernel⟩
theorem sm_yX6_asNumber : (Cond.static yX6_asNumber) ∈ lw_gd := List.mem_filter.mpr ⟨List.mem_of_getElem? (i := 426) (by decide +kernel), by decide +kernel⟩
theorem co_yX6_asNumber : (Cond.code yX6_asNumber cX6_asNumber 1 (some .int)) ∈ lw_gd := List.mem_filter.mpr ⟨List.mem_of_getElem? (i := 427) (by decide +kernel), by decide +kernel⟩
theorem ml_RX6_166 : (Cond.methodLink RX6 166 yX5_greatestPartAt) ∈ lw_gd := List.mem_filter.mpr ⟨List.mem_of_getElem? (i := 428) (by decide +kernel), by decide +kernel⟩
theorem im_yX5_greatestPartAt : (Cond.instanceMethod yX5_greatestPartAt) ∈ lw_gd := List.mem_filter.mpr ⟨List.mem_of_getElem? (i := 429) (by decide +kernel), by decide +kernel⟩
theorem se_yX5_greatestPartAt : (Cond.selects RX5 yX5_greatestPartAt yX5_greatestPartAt) ∈ lw_gd := List.mem_filter.mpr ⟨List.mem_of_getElem? (i := 430) (by decide +kernel), by decide +kernel⟩
theorem co_yX5_greatestPartAt : (Cond.code yX5_greatestPartAt cX5_greatestPartAt 5 (some .int)) ∈ lw_gd := List.mem_filter.mpr ⟨List.mem_of_getElem? (i := 431) (by decide +kernel), by decide +kernel⟩
theorem ml_RX5_57 : (Cond.methodLink RX5 57 yX2_partSize) ∈ lw_gd := List.mem_filter.mpr ⟨List.mem_of_getElem? (i := 432) (by decide +kernel), by decide +kernel⟩
theorem im_yX2_partSize : (Cond.instanceMethod yX2_partSize) ∈ lw_gd := List.mem_filter.mpr ⟨List.mem_of_getElem? (i := 433) (by decide +kernel), by decide +kernel⟩
theorem se_yX2_partSize : (Cond.selects RX2 yX2_partSize yX2_partSize) ∈ lw_gd := List.mem_filter.mpr ⟨List.mem_of_getElem? (i := 434) (by decide +kernel), by decide +kernel⟩
theorem co_yX2_partSize : (Cond.code yX2_partSize cX2_partSize 3 (some .int)) ∈ lw_gd := List.mem_filter.mpr ⟨List.mem_of_getElem? (i := 435) (by decide +kernel), by decide +kernel⟩
theorem ml_RX6_169 : (Cond.methodLink RX6 169 yX5_neededLinksAt) ∈ lw_gd := List.mem_filter.mpr ⟨List.mem_of_getElem? (i := 436) (by decide +kernel), by decide +kernel⟩
theorem im_yX5_neededLinksAt : (Cond.instanceMethod yX5_neededLinksAt) ∈ lw_gd := List.mem_filter.mpr ⟨List.mem_of_getElem? (i := 437) (by decide +kernel), by decide +kernel⟩
theorem se_yX5_neededLinksAt : (Cond.selects RX5 yX5_neededLinksAt yX5_neededLinksAt) ∈ lw_gd := List.mem_filter.mpr ⟨List.mem_of_getElem? (i := 438) (by decide +kernel), by decide +kernel⟩
theorem co_yX5_neededLinksAt : (Cond.code yX5_neededLinksAt cX5_neededLinksAt 5 (some .int)) ∈ lw_gd := List.mem_filter.mpr ⟨List.mem_of_getElem? (i := 439) (by decide +kernel), by decide +kernel⟩
theorem ml_RX5_66 : (Cond.methodLink RX5 66 yX5_isNeededAt) ∈ lw_gd := List.mem_filter.mpr ⟨List.mem_of_getElem? (i := 440) (by decide +kernel), by decide +kernel⟩
theorem im_yX5_isNeededAt : (Cond.instanceMethod yX5_isNeededAt) ∈ lw_gd := List.mem_filter.mpr ⟨List.mem_of_getElem? (i := 441) (by decide +kernel), by decide +kernel⟩
theorem se_yX5_isNeededAt : (Cond.selects RX5 yX5_isNeededAt yX5_isNeededAt) ∈ lw_gd := List.mem_filter.mpr ⟨List.mem_of_getElem? (i := 442) (by decide +kernel), by decide +kernel⟩
theorem co_yX5_isNeededAt : (Cond.code yX5_isNeededAt cX5_isNeededAt 4 (some .boolean)) ∈ lw_gd := List.mem_filter.mpr ⟨List.mem_of_getElem? (i := 443) (by decide +kernel), by decide +kernel⟩
theorem ml_RX6_172 : (Cond.methodLink RX6 172 yX5_linklessPointsAt) ∈ lw_gd := List.mem_filter.mpr ⟨List.mem_of_getElem? (i := 444) (by decide +kernel), by decide +kernel⟩
theorem im_yX5_linklessPointsAt : (Cond.instanceMethod yX5_linklessPointsAt) ∈ lw_gd := List.mem_filter.mpr ⟨List.mem_of_getElem? (i := 445) (by decide +kernel), by decide +kernel⟩
theorem se_yX5_linklessPointsAt : (Cond.selects RX5 yX5_linklessPointsAt yX5_linklessPointsAt) ∈ lw_gd := List.mem_filter.mpr ⟨List.mem_of_getElem? (i := 446) (by decide +kernel), by decide +kernel⟩
theorem co_yX5_linklessPointsAt : (Cond.code yX5_linklessPointsAt cX5_linklessPointsAt 5 (some .int)) ∈ lw_gd := List.mem_filter.mpr ⟨List.mem_of_getElem? (i := 447) (by decide +kernel), by decide +kernel⟩
theorem ml_R_law_35 : (Cond.methodLink R_law 35 yX6_clear) ∈ lw_gd := List.mem_filter.mpr ⟨List.mem_of_getElem? (i := 448) (by decide +kernel), by decide +kernel⟩
theorem im_yX6_clear : (Cond.instanceMethod yX6_clear) ∈ lw_gd := List.mem_filter.mpr ⟨List.mem_of_getElem? (i := 449) (by decide +kernel), by decide +kernel⟩
theorem se_yX6_clear : (Cond.selects RX6 yX6_clear yX6_clear) ∈ lw_gd := List.mem_filter.mpr ⟨List.mem_of_getElem? (i := 450) (by decide +kernel), by decide +kernel⟩
theorem co_yX6_clear : (Cond.code yX6_clear cX6_clear 3 (some .int)) ∈ lw_gd := List.mem_filter.mpr ⟨List.mem_of_getElem? (i := 451) (by decide +kernel), by decide +kernel⟩
theorem ml_RX6_124 : (Cond.methodLink RX6 124 yX4_removeLivingAt) ∈ lw_gd := List.mem_filter.mpr ⟨List.mem_of_getElem? (i := 452) (by decide +kernel), by decide +kernel⟩
theorem im_yX4_removeLivingAt : (Cond.instanceMethod yX4_removeLivingAt) ∈ lw_gd := List.mem_filter.mpr ⟨List.mem_of_getElem? (i := 453) (by decide +kernel), by decide +kernel⟩
theorem se_yX4_removeLivingAt : (Cond.selects RX4 yX4_removeLivingAt yX4_removeLivingAt) ∈ lw_gd := List.mem_filter.mpr ⟨List.mem_of_getElem? (i := 454) (by decide +kernel), by decide +kernel⟩
theorem co_yX4_removeLivingAt : (Cond.code yX4_removeLivingAt cX4_removeLivingAt 3 none) ∈ lw_gd := List.mem_filter.mpr ⟨List.mem_of_getElem? (i := 455) (by decide +kernel), by decide +kernel⟩
theorem ml_RX4_66 : (Cond.methodLink RX4 66 yX4_removeAt) ∈ lw_gd := List.mem_filter.mpr ⟨List.mem_of_getElem? (i := 456) (by decide +kernel), by decide +kernel⟩
theorem ml_R_law_38 : (Cond.methodLink R_law 38 yX6_undo) ∈ lw_gd := List.mem_filter.mpr ⟨List.mem_of_getElem? (i := 457) (by decide +kernel), by decide +kernel⟩
theorem im_yX6_undo : (Cond.instanceMethod yX6_undo) ∈ lw_gd := List.mem_filter.mpr ⟨List.mem_of_getElem? (i := 458) (by decide +kernel), by decide +kernel⟩
theorem se_yX6_undo : (Cond.selects RX6 yX6_undo yX6_undo) ∈ lw_gd := List.mem_filter.mpr ⟨List.mem_of_getElem? (i := 459) (by decide +kernel), by decide +kernel⟩
theorem co_yX6_undo : (Cond.code yX6_undo cX6_undo 1 (some .int)) ∈ lw_gd := List.mem_filter.mpr ⟨List.mem_of_getElem? (i := 460) (by decide +kernel), by decide +kernel⟩
theorem ml_RX6_138 : (Cond.methodLink RX6 138 yX1_goBack) ∈ lw_gd := List.mem_filter.mpr ⟨List.mem_of_getElem? (i := 461) (by decide +kernel), by decide +kernel⟩
theorem im_yX1_goBack : (Cond.instanceMethod yX1_goBack) ∈ lw_gd := List.mem_filter.mpr ⟨List.mem_of_getElem? (i := 462) (by decide +kernel), by decide +kernel⟩
theorem se_yX1_goBack : (Cond.selects RX1 yX1_goBack yX1_goBack) ∈ lw_gd := List.mem_filter.mpr ⟨List.mem_of_getElem? (i := 463) (by decide +kernel), by decide +kernel⟩
theorem co_yX1_goBack : (Cond.code yX1_goBack cX1_goBack 3 none) ∈ lw_gd := List.mem_filter.mpr ⟨List.mem_of_getElem? (i := 464) (by decide +kernel), by decide +kernel⟩
theorem ml_R_law_42 : (Cond.methodLink R_law 42 yX6_keep) ∈ lw_gd := List.mem_filter.mpr ⟨List.mem_of_getElem? (i := 465) (by decide +kernel), by decide +kernel⟩
theorem im_yX6_keep : (Cond.instanceMethod yX6_keep) ∈ lw_gd := List.mem_filter.mpr ⟨List.mem_of_getElem? (i := 466) (by decide +kernel), by decide +kernel⟩
theorem se_yX6_keep : (Cond.selects RX6 yX6_keep yX6_keep) ∈ lw_gd := List.mem_filter.mpr ⟨List.mem_of_getElem? (i := 467) (by decide +kernel), by decide +kernel⟩
theorem co_yX6_keep : (Cond.code yX6_keep cX6_keep 1 (some .int)) ∈ lw_gd := List.mem_filter.mpr ⟨List.mem_of_getElem? (i := 468) (by decide +kernel), by decide +kernel⟩
theorem ml_RX6_141 : (Cond.methodLink RX6 141 yX4_take) ∈ lw_gd := List.mem_filter.mpr ⟨List.mem_of_getElem? (i := 469) (by decide +kernel), by decide +kernel⟩
theorem ml_R_law_45 : (Cond.methodLink R_law 45 yX6_restore) ∈ lw_gd := List.mem_filter.mpr ⟨List.mem_of_getElem? (i := 470) (by decide +kernel), by decide +kernel⟩
theorem im_yX6_restore : (Cond.instanceMethod yX6_restore) ∈ lw_gd := List.mem_filter.mpr ⟨List.mem_of_getElem? (i := 471) (by decide +kernel), by decide +kernel⟩
theorem se_yX6_restore : (Cond.selects RX6 yX6_restore yX6_restore) ∈ lw_gd := List.mem_filter.mpr ⟨List.mem_of_getElem? (i := 472) (by decide +kernel), by decide +kernel⟩
theorem co_yX6_restore : (Cond.code yX6_restore cX6_restore 1 (some .int)) ∈ lw_gd := List.mem_filter.mpr ⟨List.mem_of_getElem? (i := 473) (by decide +kernel), by decide +kernel⟩
theorem ml_R_law_85 : (Cond.methodLink R_law 85 yL_areAlike) ∈ lw_gd := List.mem_filter.mpr ⟨List.mem_of_getElem? (i := 474) (by decide +kernel), by decide +kernel⟩
theorem sm_yL_areAlike : (Cond.static yL_areAlike) ∈ lw_gd := List.mem_filter.mpr ⟨List.mem_of_getElem? (i := 475) (by decide +kernel), by decide +kernel⟩
theorem co_yL_areAlike : (Cond.code yL_areAlike cL_areAlike 10 (some .boolean)) ∈ lw_gd := List.mem_filter.mpr ⟨List.mem_of_getElem? (i := 476) (by decide +kernel), by decide +kernel⟩
theorem ml_R_law_48 : (Cond.methodLink R_law 48 yX6_link) ∈ lw_gd := List.mem_filter.mpr ⟨List.mem_of_getElem? (i := 477) (by decide +kernel), by decide +kernel⟩
theorem im_yX6_link : (Cond.instanceMethod yX6_link) ∈ lw_gd := List.mem_filter.mpr ⟨List.mem_of_getElem? (i := 478) (by decide +kernel), by decide +kernel⟩
theorem se_yX6_link : (Cond.selects RX6 yX6_link yX6_link) ∈ lw_gd := List.mem_filter.mpr ⟨List.mem_of_getElem? (i := 479) (by decide +kernel), by decide +kernel⟩
theorem co_yX6_link : (Cond.code yX6_link cX6_link 3 (some .int)) ∈ lw_gd := List.mem_filter.mpr ⟨List.mem_of_getElem? (i := 480) (by decide +kernel), by decide +kernel⟩
theorem ml_RX6_108 : (Cond.methodLink RX6 108 yX4_oneOf) ∈ lw_gd := List.mem_filter.mpr ⟨List.mem_of_getElem? (i := 481) (by decide +kernel), by decide +kernel⟩
theorem ml_RX6_111 : (Cond.methodLink RX6 111 yX4_otherOf) ∈ lw_gd := List.mem_filter.mpr ⟨List.mem_of_getElem? (i := 482) (by decide +kernel), by decide +kernel⟩
theorem ml_RX6_144 : (Cond.methodLink RX6 144 yX4_spansOf) ∈ lw_gd := List.mem_filter.mpr ⟨List.mem_of_getElem? (i := 483) (by decide +kernel), by decide +kernel⟩
theorem im_yX4_spansOf : (Cond.instanceMethod yX4_spansOf) ∈ lw_gd := List.mem_filter.mpr ⟨List.mem_of_getElem? (i := 484) (by decide +kernel), by decide +kernel⟩
theorem se_yX4_spansOf : (Cond.selects RX4 yX4_spansOf yX4_spansOf) ∈ lw_gd := List.mem_filter.mpr ⟨List.mem_of_getElem? (i := 485) (by decide +kernel), by decide +kernel⟩
theorem co_yX4_spansOf : (Cond.code yX4_spansOf cX4_spansOf 5 (some .int)) ∈ lw_gd := List.mem_filter.mpr ⟨List.mem_of_getElem? (i := 486) (by decide +kernel), by decide +kernel⟩
theorem ml_RX4_48 : (Cond.methodLink RX4 48 yX4_isLaidAt) ∈ lw_gd := List.mem_filter.mpr ⟨List.mem_of_getElem? (i := 487) (by decide +kernel), by decide +kernel⟩
theorem ml_RX6_147 : (Cond.methodLink RX6 147 yX5_neededMomentsOf) ∈ lw_gd := List.mem_filter.mpr ⟨List.mem_of_getElem? (i := 488) (by decide +kernel), by decide +kernel⟩
theorem im_yX5_neededMomentsOf : (Cond.instanceMethod yX5_neededMomentsOf) ∈ lw_gd := List.mem_filter.mpr ⟨List.mem_of_getElem? (i := 489) (by decide +kernel), by decide +kernel⟩
theorem se_yX5_neededMomentsOf : (Cond.selects RX5 yX5_neededMomentsOf yX5_neededMomentsOf) ∈ lw_gd := List.mem_filter.mpr ⟨List.mem_of_getElem? (i := 490) (by decide +kernel), by decide +kernel⟩
theorem co_yX5_neededMomentsOf : (Cond.code yX5_neededMomentsOf cX5_neededMomentsOf 5 (some .int)) ∈ lw_gd := List.mem_filter.mpr ⟨List.mem_of_getElem? (i := 491) (by decide +kernel), by decide +kernel⟩
theorem ml_R_law_51 : (Cond.methodLink R_law 51 yX6_needed) ∈ lw_gd := List.mem_filter.mpr ⟨List.mem_of_getElem? (i := 492) (by decide +kernel), by decide +kernel⟩
theorem im_yX6_needed : (Cond.instanceMethod yX6_needed) ∈ lw_gd := List.mem_filter.mpr ⟨List.mem_of_getElem? (i := 493) (by decide +kernel), by decide +kernel⟩
theorem se_yX6_needed : (Cond.selects RX6 yX6_needed yX6_needed) ∈ lw_gd := List.mem_filter.mpr ⟨List.mem_of_getElem? (i := 494) (by decide +kernel), by decide +kernel⟩
theorem co_yX6_needed : (Cond.code yX6_needed cX6_needed 3 (some .int)) ∈ lw_gd := List.mem_filter.mpr ⟨List.mem_of_getElem? (i := 495) (by decide +kernel), by decide +kernel⟩
theorem ml_RX6_105 : (Cond.methodLink RX6 105 yX4_livesAt) ∈ lw_gd := List.mem_filter.mpr ⟨List.mem_of_getElem? (i := 496) (by decide +kernel), by decide +kernel⟩
theorem ml_RX6_185 : (Cond.methodLink RX6 185 yX5_isNeededAt) ∈ lw_gd := List.mem_filter.mpr ⟨List.mem_of_getElem? (i := 497) (by decide +kernel), by decide +kernel⟩
theorem ml_R_law_54 : (Cond.methodLink R_law 54 yX6_span) ∈ lw_gd := List.mem_filter.mpr ⟨List.mem_of_getElem? (i := 498) (by decide +kernel), by decide +kernel⟩
theorem im_yX6_span : (Cond.instanceMethod yX6_span) ∈ lw_gd := List.mem_filter.mpr ⟨List.mem_of_getElem? (i := 499) (by decide +kernel), by decide +kernel⟩
theorem se_yX6_span : (Cond.selects RX6 yX6_span yX6_span) ∈ lw_gd := List.mem_filter.mpr ⟨List.mem_of_getElem? (i := 500) (by decide +kernel), by decide +kernel⟩
theorem co_yX6_span : (Cond.code yX6_span cX6_span 4 (some .int)) ∈ lw_gd := List.mem_filter.mpr ⟨List.mem_of_getElem? (i := 501) (by decide +kernel), by decide +kernel⟩
theorem ml_RX6_207 : (Cond.methodLink RX6 207 yX0_goTo) ∈ lw_gd := List.mem_filter.mpr ⟨List.mem_of_getElem? (i := 502) (by decide +kernel), by decide +kernel⟩
theorem im_yX0_goTo : (Cond.instanceMethod yX0_goTo) ∈ lw_gd := List.mem_filter.mpr ⟨List.mem_of_getElem? (i := 503) (by decide +kernel), by decide +kernel⟩
theorem se_yX0_goTo : (Cond.selects RX0 yX0_goTo yX0_goTo) ∈ lw_gd := List.mem_filter.mpr ⟨List.mem_of_getElem? (i := 504) (by decide +kernel), by decide +kernel⟩
theorem co_yX0_goTo : (Cond.code yX0_goTo cX0_goTo 5 none) ∈ lw_gd := List.mem_filter.mpr ⟨List.mem_of_getElem? (i := 505) (by decide +kernel), by decide +kernel⟩
theorem ml_RX6_211 : (Cond.methodLink RX6 211 yX6_spanBegin) ∈ lw_gd := List.mem_filter.mpr ⟨List.mem_of_getElem? (i := 506) (by decide +kernel), by decide +kernel⟩
theorem ml_RX6_218 : (Cond.methodLink RX6 218 yX0_laidHere) ∈ lw_gd := List.mem_filter.mpr ⟨List.mem_of_getElem? (i := 507) (by decide +kernel), by decide +kernel⟩
theorem im_yX0_laidHere : (Cond.instanceMethod yX0_laidHere) ∈ lw_gd := List.mem_filter.mpr ⟨List.mem_of_getElem? (i := 508) (by decide +kernel), by decide +kernel⟩
theorem se_yX0_laidHere : (Cond.selects RX0 yX0_laidHere yX0_laidHere) ∈ lw_gd := List.mem_filter.mpr ⟨List.mem_of_getElem? (i := 509) (by decide +kernel), by decide +kernel⟩
theorem co_yX0_laidHere : (Cond.code yX0_laidHere cX0_laidHere 1 (some .int)) ∈ lw_gd := List.mem_filter.mpr ⟨List.mem_of_getElem? (i := 510) (by decide +kernel), by decide +kernel⟩
theorem ml_RX6_221 : (Cond.methodLink RX6 221 yX0_madeHere) ∈ lw_gd := List.mem_filter.mpr ⟨List.mem_of_getElem? (i := 511) (by decide +kernel), by decide +kernel⟩
theorem im_yX0_madeHere : (Cond.instanceMethod yX0_madeHere) ∈ lw_gd := List.mem_filter.mpr ⟨List.mem_of_getElem? (i := 512) (by decide +kernel), by decide +kernel⟩
theorem se_yX0_madeHere : (Cond.selects RX0 yX0_madeHere yX0_madeHere) ∈ lw_gd := List.mem_filter.mpr ⟨List.mem_of_getElem? (i := 513) (by decide +kernel), by decide +kernel⟩
theorem co_yX0_madeHere : (Cond.code yX0_madeHere cX0_madeHere 1 (some .int)) ∈ lw_gd := List.mem_filter.mpr ⟨List.mem_of_getElem? (i := 514) (by decide +kernel), by decide +kernel⟩
theorem ml_R_law_57 : (Cond.methodLink R_law 57 yX6_together) ∈ lw_gd := List.mem_filter.mpr ⟨List.mem_of_getElem? (i := 515) (by decide +kernel), by decide +kernel⟩
theorem im_yX6_together : (Cond.instanceMethod yX6_together) ∈ lw_gd := List.mem_filter.mpr ⟨List.mem_of_getElem? (i := 516) (by decide +kernel), by decide +kernel⟩
theorem se_yX6_together : (Cond.selects RX6 yX6_together yX6_together) ∈ lw_gd := List.mem_filter.mpr ⟨List.mem_of_getElem? (i := 517) (by decide +kernel), by decide +kernel⟩
theorem co_yX6_together : (Cond.code yX6_together cX6_together 5 (some .int)) ∈ lw_gd := List.mem_filter.mpr ⟨List.mem_of_getElem? (i := 518) (by decide +kernel), by decide +kernel⟩
theorem ml_RX6_189 : (Cond.methodLink RX6 189 yX8_empty) ∈ lw_gd := List.mem_filter.mpr ⟨List.mem_of_getElem? (i := 519) (by decide +kernel), by decide +kernel⟩
theorem im_yX8_empty : (Cond.instanceMethod yX8_empty) ∈ lw_gd := List.mem_filter.mpr ⟨List.mem_of_getElem? (i := 520) (by decide +kernel), by decide +kernel⟩
theorem se_yX8_empty : (Cond.selects RX8 yX8_empty yX8_empty) ∈ lw_gd := List.mem_filter.mpr ⟨List.mem_of_getElem? (i := 521) (by decide +kernel), by decide +kernel⟩
theorem co_yX8_empty : (Cond.code yX8_empty cX8_empty 1 none) ∈ lw_gd := List.mem_filter.mpr ⟨List.mem_of_getElem? (i := 522) (by decide +kernel), by decide +kernel⟩
theorem ml_RX6_151 : (Cond.methodLink RX6 151 yX5_areJoinedAt) ∈ lw_gd := List.mem_filter.mpr ⟨List.mem_of_getElem? (i := 523) (by decide +kernel), by decide +kernel⟩
theorem im_yX5_areJoinedAt : (Cond.instanceMethod yX5_areJoinedAt) ∈ lw_gd := List.mem_filter.mpr ⟨List.mem_of_getElem? (i := 524) (by decide +kernel), by decide +kernel⟩
theorem se_yX5_areJoinedAt : (Cond.selects RX5 yX5_areJoinedAt yX5_areJoinedAt) ∈ lw_gd := List.mem_filter.mpr ⟨List.mem_of_getElem? (i := 525) (by decide +kernel), by decide +kernel⟩
theorem co_yX5_areJoinedAt : (Cond.code yX5_areJoinedAt cX5_areJoinedAt 5 (some .boolean)) ∈ lw_gd := List.mem_filter.mpr ⟨List.mem_of_getElem? (i := 526) (by decide +kernel), by decide +kernel⟩
theorem ml_RX6_190 : (Cond.methodLink RX6 190 yX8_add) ∈ lw_gd := List.mem_filter.mpr ⟨List.mem_of_getElem? (i := 527) (by decide +kernel), by decide +kernel⟩
theorem im_yX8_add : (Cond.instanceMethod yX8_add) ∈ lw_gd := List.mem_filter.mpr ⟨List.mem_of_getElem? (i := 528) (by decide +kernel), by decide +kernel⟩
theorem se_yX8_add : (Cond.selects RX8 yX8_add yX8_add) ∈ lw_gd := List.mem_filter.mpr ⟨List.mem_of_getElem? (i := 529) (by decide +kernel), by decide +kernel⟩
theorem co_yX8_add : (Cond.code yX8_add cX8_add 3 none) ∈ lw_gd := List.mem_filter.mpr ⟨List.mem_of_getElem? (i := 530) (by decide +kernel), by decide +kernel⟩
theorem ml_RX6_192 : (Cond.methodLink RX6 192 yX8_many) ∈ lw_gd := List.mem_filter.mpr ⟨List.mem_of_getElem? (i := 531) (by decide +kernel), by decide +kernel⟩
theorem im_yX8_many : (Cond.instanceMethod yX8_many) ∈ lw_gd := List.mem_filter.mpr ⟨List.mem_of_getElem? (i := 532) (by decide +kernel), by decide +kernel⟩
theorem se_yX8_many : (Cond.selects RX8 yX8_many yX8_many) ∈ lw_gd := List.mem_filter.mpr ⟨List.mem_of_getElem? (i := 533) (by decide +kernel), by decide +kernel⟩
theorem co_yX8_many : (Cond.code yX8_many cX8_many 1 (some .int)) ∈ lw_gd := List.mem_filter.mpr ⟨List.mem_of_getElem? (i := 534) (by decide +kernel), by decide +kernel⟩
theorem ml_RX6_195 : (Cond.methodLink RX6 195 yX8_first) ∈ lw_gd := List.mem_filter.mpr ⟨List.mem_of_getElem? (i := 535) (by decide +kernel), by decide +kernel⟩
theorem im_yX8_first : (Cond.instanceMethod yX8_first) ∈ lw_gd := List.mem_filter.mpr ⟨List.mem_of_getElem? (i := 536) (by decide +kernel), by decide +kernel⟩
theorem se_yX8_first : (Cond.selects RX8 yX8_first yX8_first) ∈ lw_gd := List.mem_filter.mpr ⟨List.mem_of_getElem? (i := 537) (by decide +kernel), by decide +kernel⟩
theorem co_yX8_first : (Cond.code yX8_first cX8_first 1 (some .int)) ∈ lw_gd := List.mem_filter.mpr ⟨List.mem_of_getElem? (i := 538) (by decide +kernel), by decide +kernel⟩
theorem ml_RX6_198 : (Cond.methodLink RX6 198 yX8_last) ∈ lw_gd := List.mem_filter.mpr ⟨List.mem_of_getElem? (i := 539) (by decide +kernel), by decide +kernel⟩
theorem im_yX8_last : (Cond.instanceMethod yX8_last) ∈ lw_gd := List.mem_filter.mpr ⟨List.mem_of_getElem? (i := 540) (by decide +kernel), by decide +kernel⟩
theorem se_yX8_last : (Cond.selects RX8 yX8_last yX8_last) ∈ lw_gd := List.mem_filter.mpr ⟨List.mem_of_getElem? (i := 541) (by decide +kernel), by decide +kernel⟩
theorem co_yX8_last : (Cond.code yX8_last cX8_last 1 (some .int)) ∈ lw_gd := List.mem_filter.mpr ⟨List.mem_of_getElem? (i := 542) (by decide +kernel), by decide +kernel⟩
theorem ml_RX6_201 : (Cond.methodLink RX6 201 yX8_longest) ∈ lw_gd := List.mem_filter.mpr ⟨List.mem_of_getElem? (i := 543) (by decide +kernel), by decide +kernel⟩
theorem im_yX8_longest : (Cond.instanceMethod yX8_longest) ∈ lw_gd := List.mem_filter.mpr ⟨List.mem_of_getElem? (i := 544) (by decide +kernel), by decide +kernel⟩
theorem se_yX8_longest : (Cond.selects RX8 yX8_longest yX8_longest) ∈ lw_gd := List.mem_filter.mpr ⟨List.mem_of_getElem? (i := 545) (by decide +kernel), by decide +kernel⟩
theorem co_yX8_longest : (Cond.code yX8_longest cX8_longest 1 (some .int)) ∈ lw_gd := List.mem_filter.mpr ⟨List.mem_of_getElem? (i := 546) (by decide +kernel), by decide +kernel⟩
theorem ml_RX6_204 : (Cond.methodLink RX6 204 yX8_longestBegin) ∈ lw_gd := List.mem_filter.mpr ⟨List.mem_of_getElem? (i := 547) (by decide +kernel), by decide +kernel⟩
theorem im_yX8_longestBegin : (Cond.instanceMethod yX8_longestBegin) ∈ lw_gd := List.mem_filter.mpr ⟨List.mem_of_getElem? (i := 548) (by decide +kernel), by decide +kernel⟩
theorem se_yX8_longestBegin : (Cond.selects RX8 yX8_longestBegin yX8_longestBegin) ∈ lw_gd := List.mem_filter.mpr ⟨List.mem_of_getElem? (i := 549) (by decide +kernel), by decide +kernel⟩
theorem co_yX8_longestBegin : (Cond.code yX8_longestBegin cX8_longestBegin 1 (some .int)) ∈ lw_gd := List.mem_filter.mpr ⟨List.mem_of_getElem? (i := 550) (by decide +kernel), by decide +kernel⟩
theorem ml_R_law_60 : (Cond.methodLink R_law 60 yX6_part) ∈ lw_gd := List.mem_filter.mpr ⟨List.mem_of_getElem? (i := 551) (by decide +kernel), by decide +kernel⟩
theorem im_yX6_part : (Cond.instanceMethod yX6_part) ∈ lw_gd := List.mem_filter.mpr ⟨List.mem_of_getElem? (i := 552) (by decide +kernel), by decide +kernel⟩
theorem se_yX6_part : (Cond.selects RX6 yX6_part yX6_part) ∈ lw_gd := List.mem_filter.mpr ⟨List.mem_of_getElem? (i := 553) (by decide +kernel), by decide +kernel⟩
theorem co_yX6_part : (Cond.code yX6_part cX6_part 4 (some .int)) ∈ lw_gd := List.mem_filter.mpr ⟨List.mem_of_getElem? (i := 554) (by decide +kernel), by decide +kernel⟩
theorem ml_RX6_175 : (Cond.methodLink RX6 175 yX5_lowestOfPartAt) ∈ lw_gd := List.mem_filter.mpr ⟨List.mem_of_getElem? (i := 555) (by decide +kernel), by decide +kernel⟩
theorem im_yX5_lowestOfPartAt : (Cond.instanceMethod yX5_lowestOfPartAt) ∈ lw_gd := List.mem_filter.mpr ⟨List.mem_of_getElem? (i := 556) (by decide +kernel), by decide +kernel⟩
theorem se_yX5_lowestOfPartAt : (Cond.selects RX5 yX5_lowestOfPartAt yX5_lowestOfPartAt) ∈ lw_gd := List.mem_filter.mpr ⟨List.mem_of_getElem? (i := 557) (by decide +kernel), by decide +kernel⟩
theorem co_yX5_lowestOfPartAt : (Cond.code yX5_lowestOfPartAt cX5_lowestOfPartAt 5 (some .int)) ∈ lw_gd := List.mem_filter.mpr ⟨List.mem_of_getElem? (i := 558) (by decide +kernel), by decide +kernel⟩
theorem ml_RX6_179 : (Cond.methodLink RX6 179 yX5_partSizeAt) ∈ lw_gd := List.mem_filter.mpr ⟨List.mem_of_getElem? (i := 559) (by decide +kernel), by decide +kernel⟩
theorem im_yX5_partSizeAt : (Cond.instanceMethod yX5_partSizeAt) ∈ lw_gd := List.mem_filter.mpr ⟨List.mem_of_getElem? (i := 560) (by decide +kernel), by decide +kernel⟩
theorem se_yX5_partSizeAt : (Cond.selects RX5 yX5_partSizeAt yX5_partSizeAt) ∈ lw_gd := List.mem_filter.mpr ⟨List.mem_of_getElem? (i := 561) (by decide +kernel), by decide +kernel⟩
theorem co_yX5_partSizeAt : (Cond.code yX5_partSizeAt cX5_partSizeAt 4 (some .int)) ∈ lw_gd := List.mem_filter.mpr ⟨List.mem_of_getElem? (i := 562) (by decide +kernel), by decide +kernel⟩
theorem ml_RX6_182 : (Cond.methodLink RX6 182 yX5_partBitsAt) ∈ lw_gd := List.mem_filter.mpr ⟨List.mem_of_getElem? (i := 563) (by decide +kernel), by decide +kernel⟩
theorem im_yX5_partBitsAt : (Cond.instanceMethod yX5_partBitsAt) ∈ lw_gd := List.mem_filter.mpr ⟨List.mem_of_getElem? (i := 564) (by decide +kernel), by decide +kernel⟩
theorem se_yX5_partBitsAt : (Cond.selects RX5 yX5_partBitsAt yX5_partBitsAt) ∈ lw_gd := List.mem_filter.mpr ⟨List.mem_of_getElem? (i := 565) (by decide +kernel), by decide +kernel⟩
theorem co_yX5_partBitsAt : (Cond.code yX5_partBitsAt cX5_partBitsAt 6 (some .int)) ∈ lw_gd := List.mem_filter.mpr ⟨List.mem_of_getElem? (i := 566) (by decide +kernel), by decide +kernel⟩
theorem ml_R_law_63 : (Cond.methodLink R_law 63 yL_there) ∈ lw_gd := List.mem_filter.mpr ⟨List.mem_of_getElem? (i := 567) (by decide +kernel), by decide +kernel⟩
theorem sm_yL_there : (Cond.static yL_there) ∈ lw_gd := List.mem_filter.mpr ⟨List.mem_of_getElem? (i := 568) (by decide +kernel), by decide +kernel⟩
theorem co_yL_there : (Cond.code yL_there cL_there 4 (some .int)) ∈ lw_gd := List.mem_filter.mpr ⟨List.mem_of_getElem? (i := 569) (by decide +kernel), by decide +kernel⟩
theorem ml_R_law_81 : (Cond.methodLink R_law 81 yL_isWell) ∈ lw_gd := List.mem_filter.mpr ⟨List.mem_of_getElem? (i := 570) (by decide +kernel), by decide +kernel⟩
theorem sm_yL_isWell : (Cond.static yL_isWell) ∈ lw_gd := List.mem_filter.mpr ⟨List.mem_of_getElem? (i := 571) (by decide +kernel), by decide +kernel⟩
theorem co_yL_isWell : (Cond.code yL_isWell cL_isWell 14 (some .boolean)) ∈ lw_gd := List.mem_filter.mpr ⟨List.mem_of_getElem? (i := 572) (by decide +kernel), by decide +kernel⟩
theorem ml_R_law_66 : (Cond.methodLink R_law 66 yX6_joined) ∈ lw_gd := List.mem_filter.mpr ⟨List.mem_of_getElem? (i := 573) (by decide +kernel), by decide +kernel⟩
theorem im_yX6_joined : (Cond.instanceMethod yX6_joined) ∈ lw_gd := List.mem_filter.mpr ⟨List.mem_of_getElem? (i := 574) (by decide +kernel), by decide +kernel⟩
theorem se_yX6_joined : (Cond.selects RX6 yX6_joined yX6_joined) ∈ lw_gd := List.mem_filter.mpr ⟨List.mem_of_getElem? (i := 575) (by decide +kernel), by decide +kernel⟩
theorem co_yX6_joined : (Cond.code yX6_joined cX6_joined 4 (some .int)) ∈ lw_gd := List.mem_filter.mpr ⟨List.mem_of_getElem? (i := 576) (by decide +kernel), by decide +kernel⟩
theorem ml_R_law_69 : (Cond.methodLink R_law 69 yX6_odd) ∈ lw_gd := List.mem_filter.mpr ⟨List.mem_of_getElem? (i := 577) (by decide +kernel), by decide +kernel⟩
theorem im_yX6_odd : (Cond.instanceMethod yX6_odd) ∈ lw_gd := List.mem_filter.mpr ⟨List.mem_of_getElem? (i := 578) (by decide +kernel), by decide +kernel⟩
theorem se_yX6_odd : (Cond.selects RX6 yX6_odd yX6_odd) ∈ lw_gd := List.mem_filter.mpr ⟨List.mem_of_getElem? (i := 579) (by decide +kernel), by decide +kernel⟩
theorem co_yX6_odd : (Cond.code yX6_odd cX6_odd 3 (some .int)) ∈ lw_gd := List.mem_filter.mpr ⟨List.mem_of_getElem? (i := 580) (by decide +kernel), by decide +kernel⟩
theorem se_yX6_countOnWay : (Cond.selects RX6 yX6_countOnWay yX6_countOnWay) ∈ lw_gd := List.mem_filter.mpr ⟨List.mem_of_getElem? (i := 0) (by decide +kernel), by decide +kernel⟩
theorem se_yX0_joinLaid : (Cond.selects RX0 yX0_joinLaid yX0_joinLaid) ∈ lw_gd := List.mem_filter.mpr ⟨List.mem_of_getElem? (i := 1) (by decide +kernel), by decide +kernel⟩
theorem se_yX2_takeOff : (Cond.selects RX2 yX2_takeOff yX2_takeOff) ∈ lw_gd := List.mem_filter.mpr ⟨List.mem_of_getElem? (i := 2) (by decide +kernel), by decide +kernel⟩
theorem se_yX2_has : (Cond.selects RX2 yX2_has yX2_has) ∈ lw_gd := List.mem_filter.mpr ⟨List.mem_of_getElem? (i := 3) (by decide +kernel), by decide +kernel⟩
theorem se_yX4_coversAll : (Cond.selects RX4 yX4_coversAll yX4_coversAll) ∈ lw_gd := List.mem_filter.mpr ⟨List.mem_of_getElem? (i := 4) (by decide +kernel), by decide +kernel⟩
theorem se_yX2_topOf : (Cond.selects RX2 yX2_topOf yX2_topOf) ∈ lw_gd := List.mem_filter.mpr ⟨List.mem_of_getElem? (i := 5) (by decide +kernel), by decide +kernel⟩
theorem se_yX5_joinWithout : (Cond.selects RX5 yX5_joinWithout yX5_joinWithout) ∈ lw_gd := List.mem_filter.mpr ⟨List.mem_of_getElem? (i := 6) (by decide +kernel), by decide +kernel⟩
theorem se_yX1_dropOldest : (Cond.selects RX1 yX1_dropOldest yX1_dropOldest) ∈ lw_gd := List.mem_filter.mpr ⟨List.mem_of_getElem? (i := 7) (by decide +kernel), by decide +kernel⟩
