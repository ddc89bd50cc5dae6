theorem ini_LivedLinksLaw : (Cond.initialized R_law) ∈ lw_gd := List.mem_filter.mpr ⟨List.mem_of_getElem? (i := 8) (by decide +kernel), by decide +kernel⟩
theorem ini_LivedLinks : (Cond.initialized RX6) ∈ lw_gd := List.mem_filter.mpr ⟨List.mem_of_getElem? (i := 9) (by decide +kernel), by decide +kernel⟩
theorem ini_LivedLinks_Links : (Cond.initialized RX4) ∈ lw_gd := List.mem_filter.mpr ⟨List.mem_of_getElem? (i := 10) (by decide +kernel), by decide +kernel⟩
theorem ini_LivedLinks_History : (Cond.initialized RX1) ∈ lw_gd := List.mem_filter.mpr ⟨List.mem_of_getElem? (i := 11) (by decide +kernel), by decide +kernel⟩
theorem ini_LivedLinks_LinkText : (Cond.initialized RX3) ∈ lw_gd := List.mem_filter.mpr ⟨List.mem_of_getElem? (i := 12) (by decide +kernel), by decide +kernel⟩
theorem ini_LivedLinks_Moments : (Cond.initialized RX5) ∈ lw_gd := List.mem_filter.mpr ⟨List.mem_of_getElem? (i := 13) (by decide +kernel), by decide +kernel⟩
theorem ini_LivedLinks_Joinings : (Cond.initialized RX2) ∈ lw_gd := List.mem_filter.mpr ⟨List.mem_of_getElem? (i := 14) (by decide +kernel), by decide +kernel⟩
theorem ini_java_lang_Math : (Cond.initialized "java/lang/Math") ∈ lw_gd := List.mem_filter.mpr ⟨List.mem_of_getElem? (i := 15) (by decide +kernel), by decide +kernel⟩
theorem ini_LivedLinks_MomentRows : (Cond.initialized RX8) ∈ lw_gd := List.mem_filter.mpr ⟨List.mem_of_getElem? (i := 16) (by decide +kernel), by decide +kernel⟩
theorem ini_LivedLinks_HalvesWay : (Cond.initialized RX0) ∈ lw_gd := List.mem_filter.mpr ⟨List.mem_of_getElem? (i := 17) (by decide +kernel), by decide +kernel⟩
theorem cl_R_law_10 : (Cond.classLink R_law 10 RX6) ∈ lw_gd := List.mem_filter.mpr ⟨List.mem_of_getElem? (i := 18) (by decide +kernel), by decide +kernel⟩
theorem ins_RX6 : (Cond.instantiable RX6 9) ∈ lw_gd := List.mem_filter.mpr ⟨List.mem_of_getElem? (i := 19) (by decide +kernel), by decide +kernel⟩
theorem ml_R_law_72 : (Cond.methodLink R_law 72 yX6_init) ∈ lw_gd := List.mem_filter.mpr ⟨List.mem_of_getElem? (i := 20) (by decide +kernel), by decide +kernel⟩
theorem im_yX6_init : (Cond.instanceMethod yX6_init) ∈ lw_gd := List.mem_filter.mpr ⟨List.mem_of_getElem? (i := 21) (by decide +kernel), by decide +kernel⟩
theorem co_yX6_init : (Cond.code yX6_init cX6_init 1 none) ∈ lw_gd := List.mem_filter.mpr ⟨List.mem_of_getElem? (i := 22) (by decide +kernel), by decide +kernel⟩
theorem ml_RX6_1 : (Cond.methodLink RX6 1 objectInit) ∈ lw_gd := List.mem_filter.mpr ⟨List.mem_of_getElem? (i := 23) (by decide +kernel), by decide +kernel⟩
theorem im_objectInit : (Cond.instanceMethod objectInit) ∈ lw_gd := List.mem_filter.mpr ⟨List.mem_of_getElem? (i := 24) (by decide +kernel), by decide +kernel⟩
theorem co_objectInit : (Cond.code objectInit ⟨#[0xb1]⟩ 1 none) ∈ lw_gd := List.mem_filter.mpr ⟨List.mem_of_getElem? (i := 25) (by decide +kernel), by decide +kernel⟩
theorem cl_RX6_7 : (Cond.classLink RX6 7 RX4) ∈ lw_gd := List.mem_filter.mpr ⟨List.mem_of_getElem? (i := 26) (by decide +kernel), by decide +kernel⟩
theorem ins_RX4 : (Cond.instantiable RX4 5) ∈ lw_gd := List.mem_filter.mpr ⟨List.mem_of_getElem? (i := 27) (by decide +kernel), by decide +kernel⟩
theorem ml_RX6_9 : (RX6, 9, yX4_init, RX6) ∈ lw_nest := by decide +kernel
theorem im_yX4_init : (Cond.instanceMethod yX4_init) ∈ lw_gd := List.mem_filter.mpr ⟨List.mem_of_getElem? (i := 29) (by decide +kernel), by decide +kernel⟩
theorem co_yX4_init : (Cond.code yX4_init cX4_init 1 none) ∈ lw_gd := List.mem_filter.mpr ⟨List.mem_of_getElem? (i := 30) (by decide +kernel), by decide +kernel⟩
theorem ml_RX4_3 : (Cond.methodLink RX4 3 objectInit) ∈ lw_gd := List.mem_filter.mpr ⟨List.mem_of_getElem? (i := 31) (by decide +kernel), by decide +kernel⟩
theorem fl_RX4_9 : (Cond.fieldLink RX4 9 "LivedLinks$Links" "one" "[I") ∈ lw_gd := List.mem_filter.mpr ⟨List.mem_of_getElem? (i := 32) (by decide +kernel), by decide +kernel⟩
theorem fl_RX4_15 : (Cond.fieldLink RX4 15 "LivedLinks$Links" "other" "[I") ∈ lw_gd := List.mem_filter.mpr ⟨List.mem_of_getElem? (i := 33) (by decide +kernel), by decide +kernel⟩
theorem fl_RX4_18 : (Cond.fieldLink RX4 18 "LivedLinks$Links" "from" "[I") ∈ lw_gd := List.mem_filter.mpr ⟨List.mem_of_getElem? (i := 34) (by decide +kernel), by decide +kernel⟩
theorem fl_RX4_21 : (Cond.fieldLink RX4 21 "LivedLinks$Links" "to" "[I") ∈ lw_gd := List.mem_filter.mpr ⟨List.mem_of_getElem? (i := 35) (by decide +kernel), by decide +kernel⟩
theorem fl_RX4_24 : (Cond.fieldLink RX4 24 "LivedLinks$Links" "size" "I") ∈ lw_gd := List.mem_filter.mpr ⟨List.mem_of_getElem? (i := 36) (by decide +kernel), by decide +kernel⟩
theorem ac_int : (Cond.arrayClass .int) ∈ lw_gd := List.mem_filter.mpr ⟨List.mem_of_getElem? (i := 48) (by decide +kernel), by decide +kernel⟩
theorem cl_RX6_23 : (Cond.classLink RX6 23 RX1) ∈ lw_gd := List.mem_filter.mpr ⟨List.mem_of_getElem? (i := 49) (by decide +kernel), by decide +kernel⟩
theorem ins_RX1 : (Cond.instantiable RX1 2) ∈ lw_gd := List.mem_filter.mpr ⟨List.mem_of_getElem? (i := 50) (by decide +kernel), by decide +kernel⟩
theorem ml_RX6_25 : (Cond.methodLink RX6 25 yX1_init) ∈ lw_gd := List.mem_filter.mpr ⟨List.mem_of_getElem? (i := 51) (by decide +kernel), by decide +kernel⟩
theorem im_yX1_init : (Cond.instanceMethod yX1_init) ∈ lw_gd := List.mem_filter.mpr ⟨List.mem_of_getElem? (i := 52) (by decide +kernel), by decide +kernel⟩
theorem co_yX1_init : (Cond.code yX1_init cX1_init 2 none) ∈ lw_gd := List.mem_filter.mpr ⟨List.mem_of_getElem? (i := 53) (by decide +kernel), by decide +kernel⟩
theorem ml_RX1_3 : (Cond.methodLink RX1 3 objectInit) ∈ lw_gd := List.mem_filter.mpr ⟨List.mem_of_getElem? (i := 54) (by decide +kernel), by decide +kernel⟩
theorem cl_RX1_9 : (Cond.classLink RX1 9 RX4) ∈ lw_gd := List.mem_filter.mpr ⟨List.mem_of_getElem? (i := 55) (by decide +kernel), by decide +kernel⟩
theorem ml_RX1_17 : (RX1, 17, yX4_init, RX6) ∈ lw_nest := by decide +kernel
theorem fl_RX1_11 : (Cond.fieldLink RX1 11 "LivedLinks$History" "states" "[LLivedLinks$Links;") ∈ lw_gd := List.mem_filter.mpr ⟨List.mem_of_getElem? (i := 58) (by decide +kernel), by decide +kernel⟩
theorem fl_RX1_18 : (Cond.fieldLink RX1 18 "LivedLinks$History" "size" "I") ∈ lw_gd := List.mem_filter.mpr ⟨List.mem_of_getElem? (i := 59) (by decide +kernel), by decide +kernel⟩
theorem cl_RX6_30 : (Cond.classLink RX6 30 RX3) ∈ lw_gd := List.mem_filter.mpr ⟨List.mem_of_getElem? (i := 65) (by decide +kernel), by decide +kernel⟩
theorem ins_RX3 : (Cond.instantiable RX3 3) ∈ lw_gd := List.mem_filter.mpr ⟨List.mem_of_getElem? (i := 66) (by decide +kernel), by decide +kernel⟩
theorem ml_RX6_32 : (RX6, 32, yX3_init, RX6) ∈ lw_nest := by decide +kernel
theorem im_yX3_init : (Cond.instanceMethod yX3_init) ∈ lw_gd := List.mem_filter.mpr ⟨List.mem_of_getElem? (i := 68) (by decide +kernel), by decide +kernel⟩
theorem co_yX3_init : (Cond.code yX3_init cX3_init 1 none) ∈ lw_gd := List.mem_filter.mpr ⟨List.mem_of_getElem? (i := 69) (by decide +kernel), by decide +kernel⟩
theorem ml_RX3_3 : (Cond.methodLink RX3 3 objectInit) ∈ lw_gd := List.mem_filter.mpr ⟨List.mem_of_getElem? (i := 70) (by decide +kernel), by decide +kernel⟩
theorem fl_RX3_9 : (Cond.fieldLink RX3 9 "LivedLinks$LinkText" "characters" "[C") ∈ lw_gd := List.mem_filter.mpr ⟨List.mem_of_getElem? (i := 71) (by decide +kernel), by decide +kernel⟩
theorem fl_RX3_15 : (Cond.fieldLink RX3 15 "LivedLinks$LinkText" "length" "I") ∈ lw_gd := List.mem_filter.mpr ⟨List.mem_of_getElem? (i := 72) (by decide +kernel), by decide +kernel⟩
theorem ac_char : (Cond.arrayClass .char) ∈ lw_gd := List.mem_filter.mpr ⟨List.mem_of_getElem? (i := 80) (by decide +kernel), by decide +kernel⟩
theorem cl_RX6_40 : (Cond.classLink RX6 40 RX5) ∈ lw_gd := List.mem_filter.mpr ⟨List.mem_of_getElem? (i := 81) (by decide +kernel), by decide +kernel⟩
theorem ins_RX5 : (Cond.instantiable RX5 2) ∈ lw_gd := List.mem_filter.mpr ⟨List.mem_of_getElem? (i := 82) (by decide +kernel), by decide +kernel⟩
theorem ml_RX6_42 : (RX6, 42, yX5_init, RX6) ∈ lw_nest := by decide +kernel
theorem im_yX5_init : (Cond.instanceMethod yX5_init) ∈ lw_gd := List.mem_filter.mpr ⟨List.mem_of_getElem? (i := 84) (by decide +kernel), by decide +kernel⟩
theorem co_yX5_init : (Cond.code yX5_init cX5_init 1 none) ∈ lw_gd := List.mem_filter.mpr ⟨List.mem_of_getElem? (i := 85) (by decide +kernel), by decide +kernel⟩
theorem ml_RX5_3 : (Cond.methodLink RX5 3 objectInit) ∈ lw_gd := List.mem_filter.mpr ⟨List.mem_of_getElem? (i := 86) (by decide +kernel), by decide +kernel⟩
theorem cl_RX5_9 : (Cond.classLink RX5 9 RX2) ∈ lw_gd := List.mem_filter.mpr ⟨List.mem_of_getElem? (i := 87) (by decide +kernel), by decide +kernel⟩
theorem ins_RX2 : (Cond.instantiable RX2 4) ∈ lw_gd := List.mem_filter.mpr ⟨List.mem_of_getElem? (i := 88) (by decide +kernel), by decide +kernel⟩
theorem ml_RX5_11 : (Cond.methodLink RX5 11 yX2_init) ∈ lw_gd := List.mem_filter.mpr ⟨List.mem_of_getElem? (i := 89) (by decide +kernel), by decide +kernel⟩
theorem im_yX2_init : (Cond.instanceMethod yX2_init) ∈ lw_gd := List.mem_filter.mpr ⟨List.mem_of_getElem? (i := 90) (by decide +kernel), by decide +kernel⟩
theorem co_yX2_init : (Cond.code yX2_init cX2_init 4 none) ∈ lw_gd := List.mem_filter.mpr ⟨List.mem_of_getElem? (i := 91) (by decide +kernel), by decide +kernel⟩
theorem ml_RX2_1 : (Cond.methodLink RX2 1 objectInit) ∈ lw_gd := List.mem_filter.mpr ⟨List.mem_of_getElem? (i := 92) (by decide +kernel), by decide +kernel⟩
theorem ml_RX2_7 : (Cond.methodLink RX2 7 Lib.Math.max.name) ∈ lw_gd := List.mem_filter.mpr ⟨List.mem_of_getElem? (i := 93) (by decide +kernel), by decide +kernel⟩
theorem sm_Lib_Math_max_name : (Cond.static Lib.Math.max.name) ∈ lw_gd := List.mem_filter.mpr ⟨List.mem_of_getElem? (i := 94) (by decide +kernel), by decide +kernel⟩
theorem co_Lib_Math_max_name : (Cond.code Lib.Math.max.name Lib.Math.max.code 2 (some .int)) ∈ lw_gd := List.mem_filter.mpr ⟨List.mem_of_getElem? (i := 95) (by decide +kernel), by decide +kernel⟩
theorem fl_RX2_13 : (Cond.fieldLink RX2 13 "LivedLinks$Joinings" "above" "[I") ∈ lw_gd := List.mem_filter.mpr ⟨List.mem_of_getElem? (i := 96) (by decide +kernel), by decide +kernel⟩
theorem fl_RX2_19 : (Cond.fieldLink RX2 19 "LivedLinks$Joinings" "below" "[I") ∈ lw_gd := List.mem_filter.mpr ⟨List.mem_of_getElem? (i := 97) (by decide +kernel), by decide +kernel⟩
theorem fl_RX2_22 : (Cond.fieldLink RX2 22 "LivedLinks$Joinings" "hung" "[I") ∈ lw_gd := List.mem_filter.mpr ⟨List.mem_of_getElem? (i := 98) (by decide +kernel), by decide +kernel⟩
theorem fl_RX2_25 : (Cond.fieldLink RX2 25 "LivedLinks$Joinings" "standing" "I") ∈ lw_gd := List.mem_filter.mpr ⟨List.mem_of_getElem? (i := 99) (by decide +kernel), by decide +kernel⟩
theorem fl_RX5_14 : (Cond.fieldLink RX5 14 "LivedLinks$Moments" "points" "LLivedLinks$Joinings;") ∈ lw_gd := List.mem_filter.mpr ⟨List.mem_of_getElem? (i := 109) (by decide +kernel), by decide +kernel⟩
theorem fl_RX5_20 : (Cond.fieldLink RX5 20 "LivedLinks$Moments" "sides" "LLivedLinks$Joinings;") ∈ lw_gd := List.mem_filter.mpr ⟨List.mem_of_getElem? (i := 110) (by decide +kernel), by decide +kernel⟩
theorem cl_RX6_47 : (Cond.classLink RX6 47 RX8) ∈ lw_gd := List.mem_filter.mpr ⟨List.mem_of_getElem? (i := 116) (by decide +kernel), by decide +kernel⟩
theorem ins_RX8 : (Cond.instantiable RX8 6) ∈ lw_gd := List.mem_filter.mpr ⟨List.mem_of_getElem? (i := 117) (by decide +kernel), by decide +kernel⟩
theorem ml_RX6_49 : (RX6, 49, yX8_init, RX6) ∈ lw_nest := by decide +kernel
theorem im_yX8_init : (Cond.instanceMethod yX8_init) ∈ lw_gd := List.mem_filter.mpr ⟨List.mem_of_getElem? (i := 119) (by decide +kernel), by decide +kernel⟩
theorem co_yX8_init : (Cond.code yX8_init cX8_init 1 none) ∈ lw_gd := List.mem_filter.mpr ⟨List.mem_of_getElem? (i := 120) (by decide +kernel), by decide +kernel⟩
theorem ml_RX8_3 : (Cond.methodLink RX8 3 objectInit) ∈ lw_gd := List.mem_filter.mpr ⟨List.mem_of_getElem? (i := 121) (by decide +kernel), by decide +kernel⟩
theorem fl_RX8_9 : (Cond.fieldLink RX8 9 "LivedLinks$MomentRows" "many" "I") ∈ lw_gd := List.mem_filter.mpr ⟨List.mem_of_getElem? (i := 122) (by decide +kernel), by decide +kernel⟩
theorem fl_RX8_15 : (Cond.fieldLink RX8 15 "LivedLinks$MomentRows" "first" "I") ∈ lw_gd := List.mem_filter.mpr ⟨List.mem_of_getElem? (i := 123) (by decide +kernel), by decide +kernel⟩
theorem fl_RX8_18 : (Cond.fieldLink RX8 18 "LivedLinks$MomentRows" "last" "I") ∈ lw_gd := List.mem_filter.mpr ⟨List.mem_of_getElem? (i := 124) (by decide +kernel), by decide +kernel⟩
theorem fl_RX8_27 : (Cond.fieldLink RX8 27 "LivedLinks$MomentRows" "row" "I") ∈ lw_gd := List.mem_filter.mpr ⟨List.mem_of_getElem? (i := 125) (by decide +kernel), by decide +kernel⟩
theorem fl_RX8_21 : (Cond.fieldLink RX8 21 "LivedLinks$MomentRows" "longest" "I") ∈ lw_gd := List.mem_filter.mpr ⟨List.mem_of_getElem? (i := 126) (by decide +kernel), by decide +kernel⟩
theorem fl_RX8_24 : (Cond.fieldLink RX8 24 "LivedLinks$MomentRows" "longestBegin" "I") ∈ lw_gd := List.mem_filter.mpr ⟨List.mem_of_getElem? (i := 127) (by decide +kernel), by decide +kernel⟩
theorem cl_RX6_54 : (Cond.classLink RX6 54 RX0) ∈ lw_gd := List.mem_filter.mpr ⟨List.mem_of_getElem? (i := 141) (by decide +kernel), by decide +kernel⟩
theorem ins_RX0 : (Cond.instantiable RX0 7) ∈ lw_gd := List.mem_filter.mpr ⟨List.mem_of_getElem? (i := 142) (by decide +kernel), by decide +kernel⟩
theorem ml_RX6_56 : (RX6, 56, yX0_init, RX6) ∈ lw_nest := by decide +kernel
theorem im_yX0_init : (Cond.instanceMethod yX0_init) ∈ lw_gd := List.mem_filter.mpr ⟨List.mem_of_getElem? (i := 144) (by decide +kernel), by decide +kernel⟩
theorem co_yX0_init : (Cond.code yX0_init cX0_init 1 none) ∈ lw_gd := List.mem_filter.mpr ⟨List.mem_of_getElem? (i := 145) (by decide +kernel), by decide +kernel⟩
theorem ml_RX0_3 : (Cond.methodLink RX0 3 objectInit) ∈ lw_gd := List.mem_filter.mpr ⟨List.mem_of_getElem? (i := 146) (by decide +kernel), by decide +kernel⟩
theorem cl_RX0_9 : (Cond.classLink RX0 9 RX2) ∈ lw_gd := List.mem_filter.mpr ⟨List.mem_of_getElem? (i := 147) (by decide +kernel), by decide +kernel⟩
theorem ml_RX0_11 : (Cond.methodLink RX0 11 yX2_init) ∈ lw_gd := List.mem_filter.mpr ⟨List.mem_of_getElem? (i := 148) (by decide +kernel), by decide +kernel⟩
theorem fl_RX0_14 : (Cond.fieldLink RX0 14 "LivedLinks$HalvesWay" "points" "LLivedLinks$Joinings;") ∈ lw_gd := List.mem_filter.mpr ⟨List.mem_of_getElem? (i := 149) (by decide +kernel), by decide +kernel⟩
theorem fl_RX0_20 : (Cond.fieldLink RX0 20 "LivedLinks$HalvesWay" "standingAt" "[I") ∈ lw_gd := List.mem_filter.mpr ⟨List.mem_of_getElem? (i := 150) (by decide +kernel), by decide +kernel⟩
theorem fl_RX0_24 : (Cond.fieldLink RX0 24 "LivedLinks$HalvesWay" "laidHere" "I") ∈ lw_gd := List.mem_filter.mpr ⟨List.mem_of_getElem? (i := 151) (by decide +kernel), by decide +kernel⟩
theorem fl_RX0_28 : (Cond.fieldLink RX0 28 "LivedLinks$HalvesWay" "madeHere" "I") ∈ lw_gd := List.mem_filter.mpr ⟨List.mem_of_getElem? (i := 152) (by decide +kernel), by decide +kernel⟩
theorem fl_RX0_34 : (Cond.fieldLink RX0 34 "LivedLinks$HalvesWay" "laidInAll" "I") ∈ lw_gd := List.mem_filter.mpr ⟨List.mem_of_getElem? (i := 153) (by decide +kernel), by decide +kernel⟩
theorem fl_RX0_31 : (Cond.fieldLink RX0 31 "LivedLinks$HalvesWay" "madeInAll" "I") ∈ lw_gd := List.mem_filter.mpr ⟨List.mem_of_getElem? (i := 154) (by decide +kernel), by decide +kernel⟩
theorem fl_RX0_37 : (Cond.fieldLink RX0 37 "LivedLinks$HalvesWay" "mostStanding" "I") ∈ lw_gd := List.mem_filter.mpr ⟨List.mem_of_getElem? (i := 155) (by decide +kernel), by decide +kernel⟩
theorem fl_RX6_10 : (Cond.fieldLink RX6 10 "LivedLinks" "links" "LLivedLinks$Links;") ∈ lw_gd := List.mem_filter.mpr ⟨List.mem_of_getElem? (i := 171) (by decide +kernel), by decide +kernel⟩
theorem fl_RX6_16 : (Cond.fieldLink RX6 16 "LivedLinks" "snapshot" "LLivedLinks$Links;") ∈ lw_gd := List.mem_filter.mpr ⟨List.mem_of_getElem? (i := 172) (by decide +kernel), by decide +kernel⟩
theorem fl_RX6_19 : (Cond.fieldLink RX6 19 "LivedLinks" "hasSnapshot" "Z") ∈ lw_gd := List.mem_filter.mpr ⟨List.mem_of_getElem? (i := 173) (by decide +kernel), by decide +kernel⟩
theorem fl_RX6_26 : (Cond.fieldLink RX6 26 "LivedLinks" "history" "LLivedLinks$History;") ∈ lw_gd := List.mem_filter.mpr ⟨List.mem_of_getElem? (i := 174) (by decide +kernel), by decide +kernel⟩
theorem fl_RX6_33 : (Cond.fieldLink RX6 33 "LivedLinks" "text" "LLivedLinks$LinkText;") ∈ lw_gd := List.mem_filter.mpr ⟨List.mem_of_getElem? (i := 175) (by decide +kernel), by decide +kernel⟩
theorem fl_RX6_37 : (Cond.fieldLink RX6 37 "LivedLinks" "found" "LLivedLinks$Links;") ∈ lw_gd := List.mem_filter.mpr ⟨List.mem_of_getElem? (i := 176) (by decide +kernel), by decide +kernel⟩
theorem fl_RX6_43 : (Cond.fieldLink RX6 43 "LivedLinks" "moments" "LLivedLinks$Moments;") ∈ lw_gd := List.mem_filter.mpr ⟨List.mem_of_getElem? (i := 177) (by decide +kernel), by decide +kernel⟩
theorem fl_RX6_50 : (Cond.fieldLink RX6 50 "LivedLinks" "joinedMoments" "LLivedLinks$MomentRows;") ∈ lw_gd := List.mem_filter.mpr ⟨List.mem_of_getElem? (i := 178) (by decide +kernel), by decide +kernel⟩
theorem fl_RX6_57 : (Cond.fieldLink RX6 57 "LivedLinks" "way" "LLivedLinks$HalvesWay;") ∈ lw_gd := List.mem_filter.mpr ⟨List.mem_of_getElem? (i := 179) (by decide +kernel), by decide +kernel⟩
theorem ml_R_law_73 : (Cond.methodLink R_law 73 yL_cell) ∈ lw_gd := List.mem_filter.mpr ⟨List.mem_of_getElem? (i := 199) (by decide +kernel), by decide +kernel⟩
theorem sm_yL_cell : (Cond.static yL_cell) ∈ lw_gd := List.mem_filter.mpr ⟨List.mem_of_getElem? (i := 200) (by decide +kernel), by decide +kernel⟩
theorem co_yL_cell : (Cond.code yL_cell cL_cell 2 (some .int)) ∈ lw_gd := List.mem_filter.mpr ⟨List.mem_of_getElem? (i := 201) (by decide +kernel), by decide +kernel⟩
theorem kc_R_law_7 : (Cond.constant R_law 7 (1892199733)) ∈ lw_gd := List.mem_filter.mpr ⟨List.mem_of_getElem? (i := 202) (by decide +kernel), by decide +kernel⟩
theorem ml_R_law_15 : (Cond.methodLink R_law 15 yL_up) ∈ lw_gd := List.mem_filter.mpr ⟨List.mem_of_getElem? (i := 203) (by decide +kernel), by decide +kernel⟩
theorem sm_yL_up : (Cond.static yL_up) ∈ lw_gd := List.mem_filter.mpr ⟨List.mem_of_getElem? (i := 204) (by decide +kernel), by decide +kernel⟩
theorem co_yL_up : (Cond.code yL_up cL_up 2 (some .int)) ∈ lw_gd := List.mem_filter.mpr ⟨List.mem_of_getElem? (i := 205) (by decide +kernel), by decide +kernel⟩
theorem kc_R_law_8 : (Cond.constant R_law 8 (2147483647)) ∈ lw_gd := List.mem_filter.mpr ⟨List.mem_of_getElem? (i := 206) (by decide +kernel), by decide +kernel⟩
theorem ml_R_law_77 : (Cond.methodLink R_law 77 yL_isStep) ∈ lw_gd := List.mem_filter.mpr ⟨List.mem_of_getElem? (i := 207) (by decide +kernel), by decide +kernel⟩
theorem sm_yL_isStep : (Cond.static yL_isStep) ∈ lw_gd := List.mem_filter.mpr ⟨List.mem_of_getElem? (i := 208) (by decide +kernel), by decide +kernel⟩
theorem co_yL_isStep : (Cond.code yL_isStep cL_isStep 13 (some .boolean)) ∈ lw_gd := List.mem_filter.mpr ⟨List.mem_of_getElem? (i := 209) (by decide +kernel), by decide +kernel⟩
theorem ml_R_law_9 : (Cond.methodLink R_law 9 yX6_count) ∈ lw_gd := List.mem_filter.mpr ⟨List.mem_of_getElem? (i := 210) (by decide +kernel), by decide +kernel⟩
theorem im_yX6_count : (Cond.instanceMethod yX6_count) ∈ lw_gd := List.mem_filter.mpr ⟨List.mem_of_getElem? (i := 211) (by decide +kernel), by decide +kernel⟩
theorem se_yX6_count : (Cond.selects RX6 yX6_count yX6_count) ∈ lw_gd := List.mem_filter.mpr ⟨List.mem_of_getElem? (i := 212) (by decide +kernel), by decide +kernel⟩
theorem co_yX6_count : (Cond.code yX6_count cX6_count 2 (some .int)) ∈ lw_gd := List.mem_filter.mpr ⟨List.mem_of_getElem? (i := 213) (by decide +kernel), by decide +kernel⟩
theorem ml_RX6_81 : (Cond.methodLink RX6 81 yX4_size) ∈ lw_gd := List.mem_filter.mpr ⟨List.mem_of_getElem? (i := 214) (by decide +kernel), by decide +kernel⟩
theorem im_yX4_size : (Cond.instanceMethod yX4_size) ∈ lw_gd := List.mem_filter.mpr ⟨List.mem_of_getElem? (i := 215) (by decide +kernel), by decide +kernel⟩
