theorem se_yX4_size : (Cond.selects RX4 yX4_size yX4_size) ∈ lw_gd := List.mem_filter.mpr ⟨List.mem_of_getElem? (i := 216) (by decide +kernel), by decide +kernel⟩
theorem co_yX4_size : (Cond.code yX4_size cX4_size 1 (some .int)) ∈ lw_gd := List.mem_filter.mpr ⟨List.mem_of_getElem? (i := 217) (by decide +kernel), by decide +kernel⟩
theorem ml_RX6_224 : (Cond.methodLink RX6 224 yX6_countOnWay) ∈ lw_gd := List.mem_filter.mpr ⟨List.mem_of_getElem? (i := 218) (by decide +kernel), by decide +kernel⟩
theorem im_yX6_countOnWay : (Cond.instanceMethod yX6_countOnWay) ∈ lw_gd := List.mem_filter.mpr ⟨List.mem_of_getElem? (i := 220) (by decide +kernel), by decide +kernel⟩
theorem co_yX6_countOnWay : (Cond.code yX6_countOnWay cX6_countOnWay 2 (some .int)) ∈ lw_gd := List.mem_filter.mpr ⟨List.mem_of_getElem? (i := 221) (by decide +kernel), by decide +kernel⟩
theorem ml_RX6_236 : (Cond.methodLink RX6 236 yX0_goAll) ∈ lw_gd := List.mem_filter.mpr ⟨List.mem_of_getElem? (i := 222) (by decide +kernel), by decide +kernel⟩
theorem im_yX0_goAll : (Cond.instanceMethod yX0_goAll) ∈ lw_gd := List.mem_filter.mpr ⟨List.mem_of_getElem? (i := 223) (by decide +kernel), by decide +kernel⟩
theorem se_yX0_goAll : (Cond.selects RX0 yX0_goAll yX0_goAll) ∈ lw_gd := List.mem_filter.mpr ⟨List.mem_of_getElem? (i := 224) (by decide +kernel), by decide +kernel⟩
theorem co_yX0_goAll : (Cond.code yX0_goAll cX0_goAll 4 none) ∈ lw_gd := List.mem_filter.mpr ⟨List.mem_of_getElem? (i := 225) (by decide +kernel), by decide +kernel⟩
theorem ml_RX0_40 : (RX0, 40, yX6_spanBegin, RX6) ∈ lw_nest := by decide +kernel
theorem sm_yX6_spanBegin : (Cond.static yX6_spanBegin) ∈ lw_gd := List.mem_filter.mpr ⟨List.mem_of_getElem? (i := 227) (by decide +kernel), by decide +kernel⟩
theorem co_yX6_spanBegin : (Cond.code yX6_spanBegin cX6_spanBegin 2 (some .int)) ∈ lw_gd := List.mem_filter.mpr ⟨List.mem_of_getElem? (i := 228) (by decide +kernel), by decide +kernel⟩
theorem ml_RX6_215 : (Cond.methodLink RX6 215 yX6_spanLength) ∈ lw_gd := List.mem_filter.mpr ⟨List.mem_of_getElem? (i := 229) (by decide +kernel), by decide +kernel⟩
theorem sm_yX6_spanLength : (Cond.static yX6_spanLength) ∈ lw_gd := List.mem_filter.mpr ⟨List.mem_of_getElem? (i := 230) (by decide +kernel), by decide +kernel⟩
theorem co_yX6_spanLength : (Cond.code yX6_spanLength cX6_spanLength 1 (some .int)) ∈ lw_gd := List.mem_filter.mpr ⟨List.mem_of_getElem? (i := 231) (by decide +kernel), by decide +kernel⟩
theorem ml_RX0_44 : (Cond.methodLink RX0 44 yX0_joinLaid) ∈ lw_gd := List.mem_filter.mpr ⟨List.mem_of_getElem? (i := 232) (by decide +kernel), by decide +kernel⟩
theorem im_yX0_joinLaid : (Cond.instanceMethod yX0_joinLaid) ∈ lw_gd := List.mem_filter.mpr ⟨List.mem_of_getElem? (i := 234) (by decide +kernel), by decide +kernel⟩
theorem co_yX0_joinLaid : (Cond.code yX0_joinLaid cX0_joinLaid 6 none) ∈ lw_gd := List.mem_filter.mpr ⟨List.mem_of_getElem? (i := 235) (by decide +kernel), by decide +kernel⟩
theorem ml_RX0_57 : (Cond.methodLink RX0 57 yX2_takeBackTo) ∈ lw_gd := List.mem_filter.mpr ⟨List.mem_of_getElem? (i := 236) (by decide +kernel), by decide +kernel⟩
theorem im_yX2_takeBackTo : (Cond.instanceMethod yX2_takeBackTo) ∈ lw_gd := List.mem_filter.mpr ⟨List.mem_of_getElem? (i := 237) (by decide +kernel), by decide +kernel⟩
theorem se_yX2_takeBackTo : (Cond.selects RX2 yX2_takeBackTo yX2_takeBackTo) ∈ lw_gd := List.mem_filter.mpr ⟨List.mem_of_getElem? (i := 238) (by decide +kernel), by decide +kernel⟩
theorem co_yX2_takeBackTo : (Cond.code yX2_takeBackTo cX2_takeBackTo 3 none) ∈ lw_gd := List.mem_filter.mpr ⟨List.mem_of_getElem? (i := 239) (by decide +kernel), by decide +kernel⟩
theorem ml_RX2_37 : (Cond.methodLink RX2 37 yX2_takeOff) ∈ lw_gd := List.mem_filter.mpr ⟨List.mem_of_getElem? (i := 240) (by decide +kernel), by decide +kernel⟩
theorem im_yX2_takeOff : (Cond.instanceMethod yX2_takeOff) ∈ lw_gd := List.mem_filter.mpr ⟨List.mem_of_getElem? (i := 242) (by decide +kernel), by decide +kernel⟩
theorem co_yX2_takeOff : (Cond.code yX2_takeOff cX2_takeOff 3 none) ∈ lw_gd := List.mem_filter.mpr ⟨List.mem_of_getElem? (i := 243) (by decide +kernel), by decide +kernel⟩
theorem ml_RX2_29 : (Cond.methodLink RX2 29 yX2_has) ∈ lw_gd := List.mem_filter.mpr ⟨List.mem_of_getElem? (i := 244) (by decide +kernel), by decide +kernel⟩
theorem im_yX2_has : (Cond.instanceMethod yX2_has) ∈ lw_gd := List.mem_filter.mpr ⟨List.mem_of_getElem? (i := 246) (by decide +kernel), by decide +kernel⟩
theorem co_yX2_has : (Cond.code yX2_has cX2_has 2 (some .boolean)) ∈ lw_gd := List.mem_filter.mpr ⟨List.mem_of_getElem? (i := 247) (by decide +kernel), by decide +kernel⟩
theorem ml_RX0_60 : (Cond.methodLink RX0 60 yX4_size) ∈ lw_gd := List.mem_filter.mpr ⟨List.mem_of_getElem? (i := 248) (by decide +kernel), by decide +kernel⟩
theorem ml_RX0_65 : (Cond.methodLink RX0 65 yX4_isLaidAt) ∈ lw_gd := List.mem_filter.mpr ⟨List.mem_of_getElem? (i := 249) (by decide +kernel), by decide +kernel⟩
theorem im_yX4_isLaidAt : (Cond.instanceMethod yX4_isLaidAt) ∈ lw_gd := List.mem_filter.mpr ⟨List.mem_of_getElem? (i := 250) (by decide +kernel), by decide +kernel⟩
theorem se_yX4_isLaidAt : (Cond.selects RX4 yX4_isLaidAt yX4_isLaidAt) ∈ lw_gd := List.mem_filter.mpr ⟨List.mem_of_getElem? (i := 251) (by decide +kernel), by decide +kernel⟩
theorem co_yX4_isLaidAt : (Cond.code yX4_isLaidAt cX4_isLaidAt 4 (some .boolean)) ∈ lw_gd := List.mem_filter.mpr ⟨List.mem_of_getElem? (i := 252) (by decide +kernel), by decide +kernel⟩
theorem ml_RX4_36 : (RX4, 36, yX6_spanLength, RX6) ∈ lw_nest := by decide +kernel
theorem ml_RX4_40 : (Cond.methodLink RX4 40 yX4_coversAll) ∈ lw_gd := List.mem_filter.mpr ⟨List.mem_of_getElem? (i := 254) (by decide +kernel), by decide +kernel⟩
theorem im_yX4_coversAll : (Cond.instanceMethod yX4_coversAll) ∈ lw_gd := List.mem_filter.mpr ⟨List.mem_of_getElem? (i := 256) (by decide +kernel), by decide +kernel⟩
theorem co_yX4_coversAll : (Cond.code yX4_coversAll cX4_coversAll 4 (some .boolean)) ∈ lw_gd := List.mem_filter.mpr ⟨List.mem_of_getElem? (i := 257) (by decide +kernel), by decide +kernel⟩
theorem ml_RX4_28 : (Cond.methodLink RX4 28 yX4_has) ∈ lw_gd := List.mem_filter.mpr ⟨List.mem_of_getElem? (i := 258) (by decide +kernel), by decide +kernel⟩
theorem im_yX4_has : (Cond.instanceMethod yX4_has) ∈ lw_gd := List.mem_filter.mpr ⟨List.mem_of_getElem? (i := 259) (by decide +kernel), by decide +kernel⟩
theorem se_yX4_has : (Cond.selects RX4 yX4_has yX4_has) ∈ lw_gd := List.mem_filter.mpr ⟨List.mem_of_getElem? (i := 260) (by decide +kernel), by decide +kernel⟩
theorem co_yX4_has : (Cond.code yX4_has cX4_has 2 (some .boolean)) ∈ lw_gd := List.mem_filter.mpr ⟨List.mem_of_getElem? (i := 261) (by decide +kernel), by decide +kernel⟩
theorem ml_RX4_44 : (RX4, 44, yX6_spanBegin, RX6) ∈ lw_nest := by decide +kernel
theorem ml_RX0_69 : (Cond.methodLink RX0 69 yX4_oneOf) ∈ lw_gd := List.mem_filter.mpr ⟨List.mem_of_getElem? (i := 263) (by decide +kernel), by decide +kernel⟩
theorem im_yX4_oneOf : (Cond.instanceMethod yX4_oneOf) ∈ lw_gd := List.mem_filter.mpr ⟨List.mem_of_getElem? (i := 264) (by decide +kernel), by decide +kernel⟩
theorem se_yX4_oneOf : (Cond.selects RX4 yX4_oneOf yX4_oneOf) ∈ lw_gd := List.mem_filter.mpr ⟨List.mem_of_getElem? (i := 265) (by decide +kernel), by decide +kernel⟩
theorem co_yX4_oneOf : (Cond.code yX4_oneOf cX4_oneOf 2 (some .int)) ∈ lw_gd := List.mem_filter.mpr ⟨List.mem_of_getElem? (i := 266) (by decide +kernel), by decide +kernel⟩
theorem ml_RX0_73 : (Cond.methodLink RX0 73 yX4_otherOf) ∈ lw_gd := List.mem_filter.mpr ⟨List.mem_of_getElem? (i := 267) (by decide +kernel), by decide +kernel⟩
theorem im_yX4_otherOf : (Cond.instanceMethod yX4_otherOf) ∈ lw_gd := List.mem_filter.mpr ⟨List.mem_of_getElem? (i := 268) (by decide +kernel), by decide +kernel⟩
theorem se_yX4_otherOf : (Cond.selects RX4 yX4_otherOf yX4_otherOf) ∈ lw_gd := List.mem_filter.mpr ⟨List.mem_of_getElem? (i := 269) (by decide +kernel), by decide +kernel⟩
theorem co_yX4_otherOf : (Cond.code yX4_otherOf cX4_otherOf 2 (some .int)) ∈ lw_gd := List.mem_filter.mpr ⟨List.mem_of_getElem? (i := 270) (by decide +kernel), by decide +kernel⟩
theorem ml_RX0_76 : (Cond.methodLink RX0 76 yX2_join) ∈ lw_gd := List.mem_filter.mpr ⟨List.mem_of_getElem? (i := 271) (by decide +kernel), by decide +kernel⟩
theorem im_yX2_join : (Cond.instanceMethod yX2_join) ∈ lw_gd := List.mem_filter.mpr ⟨List.mem_of_getElem? (i := 272) (by decide +kernel), by decide +kernel⟩
theorem se_yX2_join : (Cond.selects RX2 yX2_join yX2_join) ∈ lw_gd := List.mem_filter.mpr ⟨List.mem_of_getElem? (i := 273) (by decide +kernel), by decide +kernel⟩
theorem co_yX2_join : (Cond.code yX2_join cX2_join 6 none) ∈ lw_gd := List.mem_filter.mpr ⟨List.mem_of_getElem? (i := 274) (by decide +kernel), by decide +kernel⟩
theorem ml_RX2_33 : (Cond.methodLink RX2 33 yX2_topOf) ∈ lw_gd := List.mem_filter.mpr ⟨List.mem_of_getElem? (i := 275) (by decide +kernel), by decide +kernel⟩
theorem im_yX2_topOf : (Cond.instanceMethod yX2_topOf) ∈ lw_gd := List.mem_filter.mpr ⟨List.mem_of_getElem? (i := 277) (by decide +kernel), by decide +kernel⟩
theorem co_yX2_topOf : (Cond.code yX2_topOf cX2_topOf 4 (some .int)) ∈ lw_gd := List.mem_filter.mpr ⟨List.mem_of_getElem? (i := 278) (by decide +kernel), by decide +kernel⟩
theorem ml_RX0_48 : (Cond.methodLink RX0 48 yX2_standing) ∈ lw_gd := List.mem_filter.mpr ⟨List.mem_of_getElem? (i := 279) (by decide +kernel), by decide +kernel⟩
theorem im_yX2_standing : (Cond.instanceMethod yX2_standing) ∈ lw_gd := List.mem_filter.mpr ⟨List.mem_of_getElem? (i := 280) (by decide +kernel), by decide +kernel⟩
theorem se_yX2_standing : (Cond.selects RX2 yX2_standing yX2_standing) ∈ lw_gd := List.mem_filter.mpr ⟨List.mem_of_getElem? (i := 281) (by decide +kernel), by decide +kernel⟩
theorem co_yX2_standing : (Cond.code yX2_standing cX2_standing 1 (some .int)) ∈ lw_gd := List.mem_filter.mpr ⟨List.mem_of_getElem? (i := 282) (by decide +kernel), by decide +kernel⟩
theorem ml_RX0_52 : (Cond.methodLink RX0 52 Lib.Math.max.name) ∈ lw_gd := List.mem_filter.mpr ⟨List.mem_of_getElem? (i := 283) (by decide +kernel), by decide +kernel⟩
theorem ml_RX6_239 : (Cond.methodLink RX6 239 yX0_madeInAll) ∈ lw_gd := List.mem_filter.mpr ⟨List.mem_of_getElem? (i := 284) (by decide +kernel), by decide +kernel⟩
theorem im_yX0_madeInAll : (Cond.instanceMethod yX0_madeInAll) ∈ lw_gd := List.mem_filter.mpr ⟨List.mem_of_getElem? (i := 285) (by decide +kernel), by decide +kernel⟩
theorem se_yX0_madeInAll : (Cond.selects RX0 yX0_madeInAll yX0_madeInAll) ∈ lw_gd := List.mem_filter.mpr ⟨List.mem_of_getElem? (i := 286) (by decide +kernel), by decide +kernel⟩
theorem co_yX0_madeInAll : (Cond.code yX0_madeInAll cX0_madeInAll 1 (some .int)) ∈ lw_gd := List.mem_filter.mpr ⟨List.mem_of_getElem? (i := 287) (by decide +kernel), by decide +kernel⟩
theorem ml_RX6_242 : (Cond.methodLink RX6 242 yX0_idleInAll) ∈ lw_gd := List.mem_filter.mpr ⟨List.mem_of_getElem? (i := 288) (by decide +kernel), by decide +kernel⟩
theorem im_yX0_idleInAll : (Cond.instanceMethod yX0_idleInAll) ∈ lw_gd := List.mem_filter.mpr ⟨List.mem_of_getElem? (i := 289) (by decide +kernel), by decide +kernel⟩
theorem se_yX0_idleInAll : (Cond.selects RX0 yX0_idleInAll yX0_idleInAll) ∈ lw_gd := List.mem_filter.mpr ⟨List.mem_of_getElem? (i := 290) (by decide +kernel), by decide +kernel⟩
theorem co_yX0_idleInAll : (Cond.code yX0_idleInAll cX0_idleInAll 1 (some .int)) ∈ lw_gd := List.mem_filter.mpr ⟨List.mem_of_getElem? (i := 291) (by decide +kernel), by decide +kernel⟩
theorem ml_RX6_245 : (Cond.methodLink RX6 245 yX0_mostStanding) ∈ lw_gd := List.mem_filter.mpr ⟨List.mem_of_getElem? (i := 292) (by decide +kernel), by decide +kernel⟩
theorem im_yX0_mostStanding : (Cond.instanceMethod yX0_mostStanding) ∈ lw_gd := List.mem_filter.mpr ⟨List.mem_of_getElem? (i := 293) (by decide +kernel), by decide +kernel⟩
theorem se_yX0_mostStanding : (Cond.selects RX0 yX0_mostStanding yX0_mostStanding) ∈ lw_gd := List.mem_filter.mpr ⟨List.mem_of_getElem? (i := 294) (by decide +kernel), by decide +kernel⟩
theorem co_yX0_mostStanding : (Cond.code yX0_mostStanding cX0_mostStanding 1 (some .int)) ∈ lw_gd := List.mem_filter.mpr ⟨List.mem_of_getElem? (i := 295) (by decide +kernel), by decide +kernel⟩
theorem ml_RX6_227 : (Cond.methodLink RX6 227 yX5_oddMoments) ∈ lw_gd := List.mem_filter.mpr ⟨List.mem_of_getElem? (i := 296) (by decide +kernel), by decide +kernel⟩
theorem im_yX5_oddMoments : (Cond.instanceMethod yX5_oddMoments) ∈ lw_gd := List.mem_filter.mpr ⟨List.mem_of_getElem? (i := 297) (by decide +kernel), by decide +kernel⟩
theorem se_yX5_oddMoments : (Cond.selects RX5 yX5_oddMoments yX5_oddMoments) ∈ lw_gd := List.mem_filter.mpr ⟨List.mem_of_getElem? (i := 298) (by decide +kernel), by decide +kernel⟩
theorem co_yX5_oddMoments : (Cond.code yX5_oddMoments cX5_oddMoments 4 (some .int)) ∈ lw_gd := List.mem_filter.mpr ⟨List.mem_of_getElem? (i := 299) (by decide +kernel), by decide +kernel⟩
theorem ml_RX5_70 : (Cond.methodLink RX5 70 yX5_isOddAt) ∈ lw_gd := List.mem_filter.mpr ⟨List.mem_of_getElem? (i := 300) (by decide +kernel), by decide +kernel⟩
theorem im_yX5_isOddAt : (Cond.instanceMethod yX5_isOddAt) ∈ lw_gd := List.mem_filter.mpr ⟨List.mem_of_getElem? (i := 301) (by decide +kernel), by decide +kernel⟩
theorem se_yX5_isOddAt : (Cond.selects RX5 yX5_isOddAt yX5_isOddAt) ∈ lw_gd := List.mem_filter.mpr ⟨List.mem_of_getElem? (i := 302) (by decide +kernel), by decide +kernel⟩
theorem co_yX5_isOddAt : (Cond.code yX5_isOddAt cX5_isOddAt 4 (some .boolean)) ∈ lw_gd := List.mem_filter.mpr ⟨List.mem_of_getElem? (i := 303) (by decide +kernel), by decide +kernel⟩
theorem ml_RX5_23 : (Cond.methodLink RX5 23 yX2_takeBackTo) ∈ lw_gd := List.mem_filter.mpr ⟨List.mem_of_getElem? (i := 304) (by decide +kernel), by decide +kernel⟩
theorem ml_RX5_26 : (Cond.methodLink RX5 26 yX4_size) ∈ lw_gd := List.mem_filter.mpr ⟨List.mem_of_getElem? (i := 305) (by decide +kernel), by decide +kernel⟩
theorem ml_RX5_32 : (Cond.methodLink RX5 32 yX4_livesAt) ∈ lw_gd := List.mem_filter.mpr ⟨List.mem_of_getElem? (i := 306) (by decide +kernel), by decide +kernel⟩
theorem im_yX4_livesAt : (Cond.instanceMethod yX4_livesAt) ∈ lw_gd := List.mem_filter.mpr ⟨List.mem_of_getElem? (i := 307) (by decide +kernel), by decide +kernel⟩
theorem se_yX4_livesAt : (Cond.selects RX4 yX4_livesAt yX4_livesAt) ∈ lw_gd := List.mem_filter.mpr ⟨List.mem_of_getElem? (i := 308) (by decide +kernel), by decide +kernel⟩
theorem co_yX4_livesAt : (Cond.code yX4_livesAt cX4_livesAt 3 (some .boolean)) ∈ lw_gd := List.mem_filter.mpr ⟨List.mem_of_getElem? (i := 309) (by decide +kernel), by decide +kernel⟩
theorem ml_RX5_36 : (Cond.methodLink RX5 36 yX4_oneOf) ∈ lw_gd := List.mem_filter.mpr ⟨List.mem_of_getElem? (i := 310) (by decide +kernel), by decide +kernel⟩
theorem ml_RX5_40 : (Cond.methodLink RX5 40 yX4_otherOf) ∈ lw_gd := List.mem_filter.mpr ⟨List.mem_of_getElem? (i := 311) (by decide +kernel), by decide +kernel⟩
theorem ml_RX5_43 : (Cond.methodLink RX5 43 yX2_join) ∈ lw_gd := List.mem_filter.mpr ⟨List.mem_of_getElem? (i := 312) (by decide +kernel), by decide +kernel⟩
theorem ml_RX5_51 : (Cond.methodLink RX5 51 yX2_areJoined) ∈ lw_gd := List.mem_filter.mpr ⟨List.mem_of_getElem? (i := 313) (by decide +kernel), by decide +kernel⟩
theorem im_yX2_areJoined : (Cond.instanceMethod yX2_areJoined) ∈ lw_gd := List.mem_filter.mpr ⟨List.mem_of_getElem? (i := 314) (by decide +kernel), by decide +kernel⟩
theorem se_yX2_areJoined : (Cond.selects RX2 yX2_areJoined yX2_areJoined) ∈ lw_gd := List.mem_filter.mpr ⟨List.mem_of_getElem? (i := 315) (by decide +kernel), by decide +kernel⟩
theorem co_yX2_areJoined : (Cond.code yX2_areJoined cX2_areJoined 3 (some .boolean)) ∈ lw_gd := List.mem_filter.mpr ⟨List.mem_of_getElem? (i := 316) (by decide +kernel), by decide +kernel⟩
theorem ml_RX6_230 : (Cond.methodLink RX6 230 yX5_mostParts) ∈ lw_gd := List.mem_filter.mpr ⟨List.mem_of_getElem? (i := 317) (by decide +kernel), by decide +kernel⟩
theorem im_yX5_mostParts : (Cond.instanceMethod yX5_mostParts) ∈ lw_gd := List.mem_filter.mpr ⟨List.mem_of_getElem? (i := 318) (by decide +kernel), by decide +kernel⟩
theorem se_yX5_mostParts : (Cond.selects RX5 yX5_mostParts yX5_mostParts) ∈ lw_gd := List.mem_filter.mpr ⟨List.mem_of_getElem? (i := 319) (by decide +kernel), by decide +kernel⟩
theorem co_yX5_mostParts : (Cond.code yX5_mostParts cX5_mostParts 4 (some .int)) ∈ lw_gd := List.mem_filter.mpr ⟨List.mem_of_getElem? (i := 320) (by decide +kernel), by decide +kernel⟩
theorem ml_RX5_74 : (Cond.methodLink RX5 74 yX5_partsAt) ∈ lw_gd := List.mem_filter.mpr ⟨List.mem_of_getElem? (i := 321) (by decide +kernel), by decide +kernel⟩
theorem im_yX5_partsAt : (Cond.instanceMethod yX5_partsAt) ∈ lw_gd := List.mem_filter.mpr ⟨List.mem_of_getElem? (i := 322) (by decide +kernel), by decide +kernel⟩
theorem se_yX5_partsAt : (Cond.selects RX5 yX5_partsAt yX5_partsAt) ∈ lw_gd := List.mem_filter.mpr ⟨List.mem_of_getElem? (i := 323) (by decide +kernel), by decide +kernel⟩
theorem co_yX5_partsAt : (Cond.code yX5_partsAt cX5_partsAt 3 (some .int)) ∈ lw_gd := List.mem_filter.mpr ⟨List.mem_of_getElem? (i := 324) (by decide +kernel), by decide +kernel⟩
theorem ml_RX5_47 : (Cond.methodLink RX5 47 yX5_joinWithout) ∈ lw_gd := List.mem_filter.mpr ⟨List.mem_of_getElem? (i := 325) (by decide +kernel), by decide +kernel⟩
theorem im_yX5_joinWithout : (Cond.instanceMethod yX5_joinWithout) ∈ lw_gd := List.mem_filter.mpr ⟨List.mem_of_getElem? (i := 327) (by decide +kernel), by decide +kernel⟩
theorem co_yX5_joinWithout : (Cond.code yX5_joinWithout cX5_joinWithout 5 none) ∈ lw_gd := List.mem_filter.mpr ⟨List.mem_of_getElem? (i := 328) (by decide +kernel), by decide +kernel⟩
theorem ml_RX5_54 : (Cond.methodLink RX5 54 yX2_standing) ∈ lw_gd := List.mem_filter.mpr ⟨List.mem_of_getElem? (i := 329) (by decide +kernel), by decide +kernel⟩
theorem ml_RX5_60 : (Cond.methodLink RX5 60 Lib.Math.max.name) ∈ lw_gd := List.mem_filter.mpr ⟨List.mem_of_getElem? (i := 330) (by decide +kernel), by decide +kernel⟩
theorem ml_RX6_233 : (Cond.methodLink RX6 233 yX5_fewestParts) ∈ lw_gd := List.mem_filter.mpr ⟨List.mem_of_getElem? (i := 331) (by decide +kernel), by decide +kernel⟩
theorem im_yX5_fewestParts : (Cond.instanceMethod yX5_fewestParts) ∈ lw_gd := List.mem_filter.mpr ⟨List.mem_of_getElem? (i := 332) (by decide +kernel), by decide +kernel⟩
theorem se_yX5_fewestParts : (Cond.selects RX5 yX5_fewestParts yX5_fewestParts) ∈ lw_gd := List.mem_filter.mpr ⟨List.mem_of_getElem? (i := 333) (by decide +kernel), by decide +kernel⟩
theorem co_yX5_fewestParts : (Cond.code yX5_fewestParts cX5_fewestParts 4 (some .int)) ∈ lw_gd := List.mem_filter.mpr ⟨List.mem_of_getElem? (i := 334) (by decide +kernel), by decide +kernel⟩
theorem ml_RX5_78 : (Cond.methodLink RX5 78 Lib.Math.min.name) ∈ lw_gd := List.mem_filter.mpr ⟨List.mem_of_getElem? (i := 335) (by decide +kernel), by decide +kernel⟩
theorem sm_Lib_Math_min_name : (Cond.static Lib.Math.min.name) ∈ lw_gd := List.mem_filter.mpr ⟨List.mem_of_getElem? (i := 336) (by decide +kernel), by decide +kernel⟩
theorem co_Lib_Math_min_name : (Cond.code Lib.Math.min.name Lib.Math.min.code 2 (some .int)) ∈ lw_gd := List.mem_filter.mpr ⟨List.mem_of_getElem? (i := 337) (by decide +kernel), by decide +kernel⟩
theorem ml_RX6_137 : (Cond.methodLink RX6 137 yX1_size) ∈ lw_gd := List.mem_filter.mpr ⟨List.mem_of_getElem? (i := 338) (by decide +kernel), by decide +kernel⟩
theorem im_yX1_size : (Cond.instanceMethod yX1_size) ∈ lw_gd := List.mem_filter.mpr ⟨List.mem_of_getElem? (i := 339) (by decide +kernel), by decide +kernel⟩
theorem se_yX1_size : (Cond.selects RX1 yX1_size yX1_size) ∈ lw_gd := List.mem_filter.mpr ⟨List.mem_of_getElem? (i := 340) (by decide +kernel), by decide +kernel⟩
theorem co_yX1_size : (Cond.code yX1_size cX1_size 1 (some .int)) ∈ lw_gd := List.mem_filter.mpr ⟨List.mem_of_getElem? (i := 341) (by decide +kernel), by decide +kernel⟩
theorem ml_RX6_127 : (Cond.methodLink RX6 127 yX3_length) ∈ lw_gd := List.mem_filter.mpr ⟨List.mem_of_getElem? (i := 342) (by decide +kernel), by decide +kernel⟩
theorem im_yX3_length : (Cond.instanceMethod yX3_length) ∈ lw_gd := List.mem_filter.mpr ⟨List.mem_of_getElem? (i := 343) (by decide +kernel), by decide +kernel⟩
theorem se_yX3_length : (Cond.selects RX3 yX3_length yX3_length) ∈ lw_gd := List.mem_filter.mpr ⟨List.mem_of_getElem? (i := 344) (by decide +kernel), by decide +kernel⟩
theorem co_yX3_length : (Cond.code yX3_length cX3_length 1 (some .int)) ∈ lw_gd := List.mem_filter.mpr ⟨List.mem_of_getElem? (i := 345) (by decide +kernel), by decide +kernel⟩
