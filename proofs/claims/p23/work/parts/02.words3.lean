theorem ml_R_law_21 : (Cond.methodLink R_law 21 yX6_addLink) ∈ lw_gd := List.mem_filter.mpr ⟨List.mem_of_getElem? (i := 346) (by decide +kernel), by decide +kernel⟩
theorem im_yX6_addLink : (Cond.instanceMethod yX6_addLink) ∈ lw_gd := List.mem_filter.mpr ⟨List.mem_of_getElem? (i := 347) (by decide +kernel), by decide +kernel⟩
theorem se_yX6_addLink : (Cond.selects RX6 yX6_addLink yX6_addLink) ∈ lw_gd := List.mem_filter.mpr ⟨List.mem_of_getElem? (i := 348) (by decide +kernel), by decide +kernel⟩
theorem co_yX6_addLink : (Cond.code yX6_addLink cX6_addLink 5 (some .int)) ∈ lw_gd := List.mem_filter.mpr ⟨List.mem_of_getElem? (i := 349) (by decide +kernel), by decide +kernel⟩
theorem ml_RX6_61 : (Cond.methodLink RX6 61 yX6_isPoint) ∈ lw_gd := List.mem_filter.mpr ⟨List.mem_of_getElem? (i := 350) (by decide +kernel), by decide +kernel⟩
theorem sm_yX6_isPoint : (Cond.static yX6_isPoint) ∈ lw_gd := List.mem_filter.mpr ⟨List.mem_of_getElem? (i := 351) (by decide +kernel), by decide +kernel⟩
theorem co_yX6_isPoint : (Cond.code yX6_isPoint cX6_isPoint 1 (some .boolean)) ∈ lw_gd := List.mem_filter.mpr ⟨List.mem_of_getElem? (i := 352) (by decide +kernel), by decide +kernel⟩
theorem ml_RX6_65 : (Cond.methodLink RX6 65 yX6_isLife) ∈ lw_gd := List.mem_filter.mpr ⟨List.mem_of_getElem? (i := 353) (by decide +kernel), by decide +kernel⟩
theorem sm_yX6_isLife : (Cond.static yX6_isLife) ∈ lw_gd := List.mem_filter.mpr ⟨List.mem_of_getElem? (i := 354) (by decide +kernel), by decide +kernel⟩
theorem co_yX6_isLife : (Cond.code yX6_isLife cX6_isLife 2 (some .boolean)) ∈ lw_gd := List.mem_filter.mpr ⟨List.mem_of_getElem? (i := 355) (by decide +kernel), by decide +kernel⟩
theorem ml_RX6_102 : (Cond.methodLink RX6 102 yX6_isMoment) ∈ lw_gd := List.mem_filter.mpr ⟨List.mem_of_getElem? (i := 356) (by decide +kernel), by decide +kernel⟩
theorem sm_yX6_isMoment : (Cond.static yX6_isMoment) ∈ lw_gd := List.mem_filter.mpr ⟨List.mem_of_getElem? (i := 357) (by decide +kernel), by decide +kernel⟩
theorem co_yX6_isMoment : (Cond.code yX6_isMoment cX6_isMoment 1 (some .boolean)) ∈ lw_gd := List.mem_filter.mpr ⟨List.mem_of_getElem? (i := 358) (by decide +kernel), by decide +kernel⟩
theorem ml_RX6_69 : (Cond.methodLink RX6 69 yX4_room) ∈ lw_gd := List.mem_filter.mpr ⟨List.mem_of_getElem? (i := 359) (by decide +kernel), by decide +kernel⟩
theorem im_yX4_room : (Cond.instanceMethod yX4_room) ∈ lw_gd := List.mem_filter.mpr ⟨List.mem_of_getElem? (i := 360) (by decide +kernel), by decide +kernel⟩
theorem se_yX4_room : (Cond.selects RX4 yX4_room yX4_room) ∈ lw_gd := List.mem_filter.mpr ⟨List.mem_of_getElem? (i := 361) (by decide +kernel), by decide +kernel⟩
theorem co_yX4_room : (Cond.code yX4_room cX4_room 1 (some .int)) ∈ lw_gd := List.mem_filter.mpr ⟨List.mem_of_getElem? (i := 362) (by decide +kernel), by decide +kernel⟩
theorem ml_RX6_73 : (Cond.methodLink RX6 73 yX1_remember) ∈ lw_gd := List.mem_filter.mpr ⟨List.mem_of_getElem? (i := 363) (by decide +kernel), by decide +kernel⟩
theorem im_yX1_remember : (Cond.instanceMethod yX1_remember) ∈ lw_gd := List.mem_filter.mpr ⟨List.mem_of_getElem? (i := 364) (by decide +kernel), by decide +kernel⟩
theorem se_yX1_remember : (Cond.selects RX1 yX1_remember yX1_remember) ∈ lw_gd := List.mem_filter.mpr ⟨List.mem_of_getElem? (i := 365) (by decide +kernel), by decide +kernel⟩
theorem co_yX1_remember : (Cond.code yX1_remember cX1_remember 3 none) ∈ lw_gd := List.mem_filter.mpr ⟨List.mem_of_getElem? (i := 366) (by decide +kernel), by decide +kernel⟩
theorem ml_RX1_22 : (Cond.methodLink RX1 22 yX1_dropOldest) ∈ lw_gd := List.mem_filter.mpr ⟨List.mem_of_getElem? (i := 367) (by decide +kernel), by decide +kernel⟩
theorem im_yX1_dropOldest : (Cond.instanceMethod yX1_dropOldest) ∈ lw_gd := List.mem_filter.mpr ⟨List.mem_of_getElem? (i := 369) (by decide +kernel), by decide +kernel⟩
theorem co_yX1_dropOldest : (Cond.code yX1_dropOldest cX1_dropOldest 3 none) ∈ lw_gd := List.mem_filter.mpr ⟨List.mem_of_getElem? (i := 370) (by decide +kernel), by decide +kernel⟩
theorem ml_RX1_25 : (Cond.methodLink RX1 25 yX4_take) ∈ lw_gd := List.mem_filter.mpr ⟨List.mem_of_getElem? (i := 371) (by decide +kernel), by decide +kernel⟩
theorem im_yX4_take : (Cond.instanceMethod yX4_take) ∈ lw_gd := List.mem_filter.mpr ⟨List.mem_of_getElem? (i := 372) (by decide +kernel), by decide +kernel⟩
theorem se_yX4_take : (Cond.selects RX4 yX4_take yX4_take) ∈ lw_gd := List.mem_filter.mpr ⟨List.mem_of_getElem? (i := 373) (by decide +kernel), by decide +kernel⟩
theorem co_yX4_take : (Cond.code yX4_take cX4_take 2 none) ∈ lw_gd := List.mem_filter.mpr ⟨List.mem_of_getElem? (i := 374) (by decide +kernel), by decide +kernel⟩
theorem ml_RX4_59 : (Cond.methodLink RX4 59 yX4_empty) ∈ lw_gd := List.mem_filter.mpr ⟨List.mem_of_getElem? (i := 375) (by decide +kernel), by decide +kernel⟩
theorem im_yX4_empty : (Cond.instanceMethod yX4_empty) ∈ lw_gd := List.mem_filter.mpr ⟨List.mem_of_getElem? (i := 376) (by decide +kernel), by decide +kernel⟩
theorem se_yX4_empty : (Cond.selects RX4 yX4_empty yX4_empty) ∈ lw_gd := List.mem_filter.mpr ⟨List.mem_of_getElem? (i := 377) (by decide +kernel), by decide +kernel⟩
theorem co_yX4_empty : (Cond.code yX4_empty cX4_empty 1 none) ∈ lw_gd := List.mem_filter.mpr ⟨List.mem_of_getElem? (i := 378) (by decide +kernel), by decide +kernel⟩
theorem ml_RX4_62 : (Cond.methodLink RX4 62 yX4_addAll) ∈ lw_gd := List.mem_filter.mpr ⟨List.mem_of_getElem? (i := 379) (by decide +kernel), by decide +kernel⟩
theorem im_yX4_addAll : (Cond.instanceMethod yX4_addAll) ∈ lw_gd := List.mem_filter.mpr ⟨List.mem_of_getElem? (i := 380) (by decide +kernel), by decide +kernel⟩
theorem se_yX4_addAll : (Cond.selects RX4 yX4_addAll yX4_addAll) ∈ lw_gd := List.mem_filter.mpr ⟨List.mem_of_getElem? (i := 381) (by decide +kernel), by decide +kernel⟩
theorem co_yX4_addAll : (Cond.code yX4_addAll cX4_addAll 3 none) ∈ lw_gd := List.mem_filter.mpr ⟨List.mem_of_getElem? (i := 382) (by decide +kernel), by decide +kernel⟩
theorem ml_RX4_55 : (Cond.methodLink RX4 55 yX4_add) ∈ lw_gd := List.mem_filter.mpr ⟨List.mem_of_getElem? (i := 383) (by decide +kernel), by decide +kernel⟩
theorem im_yX4_add : (Cond.instanceMethod yX4_add) ∈ lw_gd := List.mem_filter.mpr ⟨List.mem_of_getElem? (i := 384) (by decide +kernel), by decide +kernel⟩
theorem se_yX4_add : (Cond.selects RX4 yX4_add yX4_add) ∈ lw_gd := List.mem_filter.mpr ⟨List.mem_of_getElem? (i := 385) (by decide +kernel), by decide +kernel⟩
theorem co_yX4_add : (Cond.code yX4_add cX4_add 5 none) ∈ lw_gd := List.mem_filter.mpr ⟨List.mem_of_getElem? (i := 386) (by decide +kernel), by decide +kernel⟩
theorem ml_RX4_51 : (Cond.methodLink RX4 51 yX4_room) ∈ lw_gd := List.mem_filter.mpr ⟨List.mem_of_getElem? (i := 387) (by decide +kernel), by decide +kernel⟩
theorem ml_RX6_77 : (Cond.methodLink RX6 77 yX4_add) ∈ lw_gd := List.mem_filter.mpr ⟨List.mem_of_getElem? (i := 388) (by decide +kernel), by decide +kernel⟩
theorem ml_R_law_25 : (Cond.methodLink R_law 25 yX6_removeLink) ∈ lw_gd := List.mem_filter.mpr ⟨List.mem_of_getElem? (i := 389) (by decide +kernel), by decide +kernel⟩
theorem im_yX6_removeLink : (Cond.instanceMethod yX6_removeLink) ∈ lw_gd := List.mem_filter.mpr ⟨List.mem_of_getElem? (i := 390) (by decide +kernel), by decide +kernel⟩
theorem se_yX6_removeLink : (Cond.selects RX6 yX6_removeLink yX6_removeLink) ∈ lw_gd := List.mem_filter.mpr ⟨List.mem_of_getElem? (i := 391) (by decide +kernel), by decide +kernel⟩
theorem co_yX6_removeLink : (Cond.code yX6_removeLink cX6_removeLink 2 (some .int)) ∈ lw_gd := List.mem_filter.mpr ⟨List.mem_of_getElem? (i := 392) (by decide +kernel), by decide +kernel⟩
theorem ml_RX6_84 : (Cond.methodLink RX6 84 yX4_has) ∈ lw_gd := List.mem_filter.mpr ⟨List.mem_of_getElem? (i := 393) (by decide +kernel), by decide +kernel⟩
theorem ml_RX6_87 : (Cond.methodLink RX6 87 yX4_removeAt) ∈ lw_gd := List.mem_filter.mpr ⟨List.mem_of_getElem? (i := 394) (by decide +kernel), by decide +kernel⟩
theorem im_yX4_removeAt : (Cond.instanceMethod yX4_removeAt) ∈ lw_gd := List.mem_filter.mpr ⟨List.mem_of_getElem? (i := 395) (by decide +kernel), by decide +kernel⟩
theorem se_yX4_removeAt : (Cond.selects RX4 yX4_removeAt yX4_removeAt) ∈ lw_gd := List.mem_filter.mpr ⟨List.mem_of_getElem? (i := 396) (by decide +kernel), by decide +kernel⟩
theorem co_yX4_removeAt : (Cond.code yX4_removeAt cX4_removeAt 3 none) ∈ lw_gd := List.mem_filter.mpr ⟨List.mem_of_getElem? (i := 397) (by decide +kernel), by decide +kernel⟩
theorem ml_R_law_28 : (Cond.methodLink R_law 28 yX6_setLife) ∈ lw_gd := List.mem_filter.mpr ⟨List.mem_of_getElem? (i := 398) (by decide +kernel), by decide +kernel⟩
theorem im_yX6_setLife : (Cond.instanceMethod yX6_setLife) ∈ lw_gd := List.mem_filter.mpr ⟨List.mem_of_getElem? (i := 399) (by decide +kernel), by decide +kernel⟩
theorem se_yX6_setLife : (Cond.selects RX6 yX6_setLife yX6_setLife) ∈ lw_gd := List.mem_filter.mpr ⟨List.mem_of_getElem? (i := 400) (by decide +kernel), by decide +kernel⟩
theorem co_yX6_setLife : (Cond.code yX6_setLife cX6_setLife 4 (some .int)) ∈ lw_gd := List.mem_filter.mpr ⟨List.mem_of_getElem? (i := 401) (by decide +kernel), by decide +kernel⟩
theorem ml_RX6_91 : (Cond.methodLink RX6 91 yX4_fromOf) ∈ lw_gd := List.mem_filter.mpr ⟨List.mem_of_getElem? (i := 402) (by decide +kernel), by decide +kernel⟩
theorem im_yX4_fromOf : (Cond.instanceMethod yX4_fromOf) ∈ lw_gd := List.mem_filter.mpr ⟨List.mem_of_getElem? (i := 403) (by decide +kernel), by decide +kernel⟩
theorem se_yX4_fromOf : (Cond.selects RX4 yX4_fromOf yX4_fromOf) ∈ lw_gd := List.mem_filter.mpr ⟨List.mem_of_getElem? (i := 404) (by decide +kernel), by decide +kernel⟩
theorem co_yX4_fromOf : (Cond.code yX4_fromOf cX4_fromOf 2 (some .int)) ∈ lw_gd := List.mem_filter.mpr ⟨List.mem_of_getElem? (i := 405) (by decide +kernel), by decide +kernel⟩
theorem ml_RX6_95 : (Cond.methodLink RX6 95 yX4_toOf) ∈ lw_gd := List.mem_filter.mpr ⟨List.mem_of_getElem? (i := 406) (by decide +kernel), by decide +kernel⟩
theorem im_yX4_toOf : (Cond.instanceMethod yX4_toOf) ∈ lw_gd := List.mem_filter.mpr ⟨List.mem_of_getElem? (i := 407) (by decide +kernel), by decide +kernel⟩
theorem se_yX4_toOf : (Cond.selects RX4 yX4_toOf yX4_toOf) ∈ lw_gd := List.mem_filter.mpr ⟨List.mem_of_getElem? (i := 408) (by decide +kernel), by decide +kernel⟩
theorem co_yX4_toOf : (Cond.code yX4_toOf cX4_toOf 2 (some .int)) ∈ lw_gd := List.mem_filter.mpr ⟨List.mem_of_getElem? (i := 409) (by decide +kernel), by decide +kernel⟩
theorem ml_RX6_98 : (Cond.methodLink RX6 98 yX4_live) ∈ lw_gd := List.mem_filter.mpr ⟨List.mem_of_getElem? (i := 410) (by decide +kernel), by decide +kernel⟩
theorem im_yX4_live : (Cond.instanceMethod yX4_live) ∈ lw_gd := List.mem_filter.mpr ⟨List.mem_of_getElem? (i := 411) (by decide +kernel), by decide +kernel⟩
theorem se_yX4_live : (Cond.selects RX4 yX4_live yX4_live) ∈ lw_gd := List.mem_filter.mpr ⟨List.mem_of_getElem? (i := 412) (by decide +kernel), by decide +kernel⟩
theorem co_yX4_live : (Cond.code yX4_live cX4_live 4 none) ∈ lw_gd := List.mem_filter.mpr ⟨List.mem_of_getElem? (i := 413) (by decide +kernel), by decide +kernel⟩
theorem ml_R_law_32 : (Cond.methodLink R_law 32 yX6_moment) ∈ lw_gd := List.mem_filter.mpr ⟨List.mem_of_getElem? (i := 414) (by decide +kernel), by decide +kernel⟩
theorem im_yX6_moment : (Cond.instanceMethod yX6_moment) ∈ lw_gd := List.mem_filter.mpr ⟨List.mem_of_getElem? (i := 415) (by decide +kernel), by decide +kernel⟩
theorem se_yX6_moment : (Cond.selects RX6 yX6_moment yX6_moment) ∈ lw_gd := List.mem_filter.mpr ⟨List.mem_of_getElem? (i := 416) (by decide +kernel), by decide +kernel⟩
theorem co_yX6_moment : (Cond.code yX6_moment cX6_moment 3 (some .int)) ∈ lw_gd := List.mem_filter.mpr ⟨List.mem_of_getElem? (i := 417) (by decide +kernel), by decide +kernel⟩
theorem ml_RX6_121 : (Cond.methodLink RX6 121 yX4_livingAt) ∈ lw_gd := List.mem_filter.mpr ⟨List.mem_of_getElem? (i := 418) (by decide +kernel), by decide +kernel⟩
theorem im_yX4_livingAt : (Cond.instanceMethod yX4_livingAt) ∈ lw_gd := List.mem_filter.mpr ⟨List.mem_of_getElem? (i := 419) (by decide +kernel), by decide +kernel⟩
theorem se_yX4_livingAt : (Cond.selects RX4 yX4_livingAt yX4_livingAt) ∈ lw_gd := List.mem_filter.mpr ⟨List.mem_of_getElem? (i := 420) (by decide +kernel), by decide +kernel⟩
theorem co_yX4_livingAt : (Cond.code yX4_livingAt cX4_livingAt 4 (some .int)) ∈ lw_gd := List.mem_filter.mpr ⟨List.mem_of_getElem? (i := 421) (by decide +kernel), by decide +kernel⟩
theorem ml_RX4_32 : (Cond.methodLink RX4 32 yX4_livesAt) ∈ lw_gd := List.mem_filter.mpr ⟨List.mem_of_getElem? (i := 422) (by decide +kernel), by decide +kernel⟩
theorem ml_RX6_159 : (Cond.methodLink RX6 159 yX5_partsAt) ∈ lw_gd := List.mem_filter.mpr ⟨List.mem_of_getElem? (i := 423) (by decide +kernel), by decide +kernel⟩
theorem ml_RX6_162 : (Cond.methodLink RX6 162 yX5_isOddAt) ∈ lw_gd := List.mem_filter.mpr ⟨List.mem_of_getElem? (i := 424) (by decide +kernel), by decide +kernel⟩
theorem ml_RX6_155 : (Cond.methodLink RX6 155 yX6_asNumber) ∈ lw_gd := List.mem_filter.mpr ⟨List.mem_of_getElem? (i := 425) (by decide +kernel), by decide +kernel⟩
theorem sm_yX6_asNumber : (Cond.static yX6_asNumber) ∈ lw_gd := List.mem_filter.mpr ⟨List.mem_of_getElem? (i := 426) (by decide +kernel), by decide +kernel⟩
theorem co_yX6_asNumber : (Cond.code yX6_asNumber cX6_asNumber 1 (some .int)) ∈ lw_gd := List.mem_filter.mpr ⟨List.mem_of_getElem? (i := 427) (by decide +kernel), by decide +kernel⟩
theorem ml_RX6_166 : (Cond.methodLink RX6 166 yX5_greatestPartAt) ∈ lw_gd := List.mem_filter.mpr ⟨List.mem_of_getElem? (i := 428) (by decide +kernel), by decide +kernel⟩
theorem im_yX5_greatestPartAt : (Cond.instanceMethod yX5_greatestPartAt) ∈ lw_gd := List.mem_filter.mpr ⟨List.mem_of_getElem? (i := 429) (by decide +kernel), by decide +kernel⟩
theorem se_yX5_greatestPartAt : (Cond.selects RX5 yX5_greatestPartAt yX5_greatestPartAt) ∈ lw_gd := List.mem_filter.mpr ⟨List.mem_of_getElem? (i := 430) (by decide +kernel), by decide +kernel⟩
theorem co_yX5_greatestPartAt : (Cond.code yX5_greatestPartAt cX5_greatestPartAt 5 (some .int)) ∈ lw_gd := List.mem_filter.mpr ⟨List.mem_of_getElem? (i := 431) (by decide +kernel), by decide +kernel⟩
theorem ml_RX5_57 : (Cond.methodLink RX5 57 yX2_partSize) ∈ lw_gd := List.mem_filter.mpr ⟨List.mem_of_getElem? (i := 432) (by decide +kernel), by decide +kernel⟩
theorem im_yX2_partSize : (Cond.instanceMethod yX2_partSize) ∈ lw_gd := List.mem_filter.mpr ⟨List.mem_of_getElem? (i := 433) (by decide +kernel), by decide +kernel⟩
theorem se_yX2_partSize : (Cond.selects RX2 yX2_partSize yX2_partSize) ∈ lw_gd := List.mem_filter.mpr ⟨List.mem_of_getElem? (i := 434) (by decide +kernel), by decide +kernel⟩
theorem co_yX2_partSize : (Cond.code yX2_partSize cX2_partSize 3 (some .int)) ∈ lw_gd := List.mem_filter.mpr ⟨List.mem_of_getElem? (i := 435) (by decide +kernel), by decide +kernel⟩
theorem ml_RX6_169 : (Cond.methodLink RX6 169 yX5_neededLinksAt) ∈ lw_gd := List.mem_filter.mpr ⟨List.mem_of_getElem? (i := 436) (by decide +kernel), by decide +kernel⟩
theorem im_yX5_neededLinksAt : (Cond.instanceMethod yX5_neededLinksAt) ∈ lw_gd := List.mem_filter.mpr ⟨List.mem_of_getElem? (i := 437) (by decide +kernel), by decide +kernel⟩
theorem se_yX5_neededLinksAt : (Cond.selects RX5 yX5_neededLinksAt yX5_neededLinksAt) ∈ lw_gd := List.mem_filter.mpr ⟨List.mem_of_getElem? (i := 438) (by decide +kernel), by decide +kernel⟩
theorem co_yX5_neededLinksAt : (Cond.code yX5_neededLinksAt cX5_neededLinksAt 5 (some .int)) ∈ lw_gd := List.mem_filter.mpr ⟨List.mem_of_getElem? (i := 439) (by decide +kernel), by decide +kernel⟩
theorem ml_RX5_66 : (Cond.methodLink RX5 66 yX5_isNeededAt) ∈ lw_gd := List.mem_filter.mpr ⟨List.mem_of_getElem? (i := 440) (by decide +kernel), by decide +kernel⟩
theorem im_yX5_isNeededAt : (Cond.instanceMethod yX5_isNeededAt) ∈ lw_gd := List.mem_filter.mpr ⟨List.mem_of_getElem? (i := 441) (by decide +kernel), by decide +kernel⟩
theorem se_yX5_isNeededAt : (Cond.selects RX5 yX5_isNeededAt yX5_isNeededAt) ∈ lw_gd := List.mem_filter.mpr ⟨List.mem_of_getElem? (i := 442) (by decide +kernel), by decide +kernel⟩
theorem co_yX5_isNeededAt : (Cond.code yX5_isNeededAt cX5_isNeededAt 4 (some .boolean)) ∈ lw_gd := List.mem_filter.mpr ⟨List.mem_of_getElem? (i := 443) (by decide +kernel), by decide +kernel⟩
theorem ml_RX6_172 : (Cond.methodLink RX6 172 yX5_linklessPointsAt) ∈ lw_gd := List.mem_filter.mpr ⟨List.mem_of_getElem? (i := 444) (by decide +kernel), by decide +kernel⟩
theorem im_yX5_linklessPointsAt : (Cond.instanceMethod yX5_linklessPointsAt) ∈ lw_gd := List.mem_filter.mpr ⟨List.mem_of_getElem? (i := 445) (by decide +kernel), by decide +kernel⟩
theorem se_yX5_linklessPointsAt : (Cond.selects RX5 yX5_linklessPointsAt yX5_linklessPointsAt) ∈ lw_gd := List.mem_filter.mpr ⟨List.mem_of_getElem? (i := 446) (by decide +kernel), by decide +kernel⟩
theorem co_yX5_linklessPointsAt : (Cond.code yX5_linklessPointsAt cX5_linklessPointsAt 5 (some .int)) ∈ lw_gd := List.mem_filter.mpr ⟨List.mem_of_getElem? (i := 447) (by decide +kernel), by decide +kernel⟩
theorem ml_R_law_35 : (Cond.methodLink R_law 35 yX6_clear) ∈ lw_gd := List.mem_filter.mpr ⟨List.mem_of_getElem? (i := 448) (by decide +kernel), by decide +kernel⟩
theorem im_yX6_clear : (Cond.instanceMethod yX6_clear) ∈ lw_gd := List.mem_filter.mpr ⟨List.mem_of_getElem? (i := 449) (by decide +kernel), by decide +kernel⟩
theorem se_yX6_clear : (Cond.selects RX6 yX6_clear yX6_clear) ∈ lw_gd := List.mem_filter.mpr ⟨List.mem_of_getElem? (i := 450) (by decide +kernel), by decide +kernel⟩
theorem co_yX6_clear : (Cond.code yX6_clear cX6_clear 3 (some .int)) ∈ lw_gd := List.mem_filter.mpr ⟨List.mem_of_getElem? (i := 451) (by decide +kernel), by decide +kernel⟩
theorem ml_RX6_124 : (Cond.methodLink RX6 124 yX4_removeLivingAt) ∈ lw_gd := List.mem_filter.mpr ⟨List.mem_of_getElem? (i := 452) (by decide +kernel), by decide +kernel⟩
theorem im_yX4_removeLivingAt : (Cond.instanceMethod yX4_removeLivingAt) ∈ lw_gd := List.mem_filter.mpr ⟨List.mem_of_getElem? (i := 453) (by decide +kernel), by decide +kernel⟩
theorem se_yX4_removeLivingAt : (Cond.selects RX4 yX4_removeLivingAt yX4_removeLivingAt) ∈ lw_gd := List.mem_filter.mpr ⟨List.mem_of_getElem? (i := 454) (by decide +kernel), by decide +kernel⟩
theorem co_yX4_removeLivingAt : (Cond.code yX4_removeLivingAt cX4_removeLivingAt 3 none) ∈ lw_gd := List.mem_filter.mpr ⟨List.mem_of_getElem? (i := 455) (by decide +kernel), by decide +kernel⟩
theorem ml_RX4_66 : (Cond.methodLink RX4 66 yX4_removeAt) ∈ lw_gd := List.mem_filter.mpr ⟨List.mem_of_getElem? (i := 456) (by decide +kernel), by decide +kernel⟩
theorem ml_R_law_38 : (Cond.methodLink R_law 38 yX6_undo) ∈ lw_gd := List.mem_filter.mpr ⟨List.mem_of_getElem? (i := 457) (by decide +kernel), by decide +kernel⟩
theorem im_yX6_undo : (Cond.instanceMethod yX6_undo) ∈ lw_gd := List.mem_filter.mpr ⟨List.mem_of_getElem? (i := 458) (by decide +kernel), by decide +kernel⟩
theorem se_yX6_undo : (Cond.selects RX6 yX6_undo yX6_undo) ∈ lw_gd := List.mem_filter.mpr ⟨List.mem_of_getElem? (i := 459) (by decide +kernel), by decide +kernel⟩
theorem co_yX6_undo : (Cond.code yX6_undo cX6_undo 1 (some .int)) ∈ lw_gd := List.mem_filter.mpr ⟨List.mem_of_getElem? (i := 460) (by decide +kernel), by decide +kernel⟩
theorem ml_RX6_138 : (Cond.methodLink RX6 138 yX1_goBack) ∈ lw_gd := List.mem_filter.mpr ⟨List.mem_of_getElem? (i := 461) (by decide +kernel), by decide +kernel⟩
theorem im_yX1_goBack : (Cond.instanceMethod yX1_goBack) ∈ lw_gd := List.mem_filter.mpr ⟨List.mem_of_getElem? (i := 462) (by decide +kernel), by decide +kernel⟩
theorem se_yX1_goBack : (Cond.selects RX1 yX1_goBack yX1_goBack) ∈ lw_gd := List.mem_filter.mpr ⟨List.mem_of_getElem? (i := 463) (by decide +kernel), by decide +kernel⟩
theorem co_yX1_goBack : (Cond.code yX1_goBack cX1_goBack 3 none) ∈ lw_gd := List.mem_filter.mpr ⟨List.mem_of_getElem? (i := 464) (by decide +kernel), by decide +kernel⟩
theorem ml_R_law_42 : (Cond.methodLink R_law 42 yX6_keep) ∈ lw_gd := List.mem_filter.mpr ⟨List.mem_of_getElem? (i := 465) (by decide +kernel), by decide +kernel⟩
theorem im_yX6_keep : (Cond.instanceMethod yX6_keep) ∈ lw_gd := List.mem_filter.mpr ⟨List.mem_of_getElem? (i := 466) (by decide +kernel), by decide +kernel⟩
theorem se_yX6_keep : (Cond.selects RX6 yX6_keep yX6_keep) ∈ lw_gd := List.mem_filter.mpr ⟨List.mem_of_getElem? (i := 467) (by decide +kernel), by decide +kernel⟩
theorem co_yX6_keep : (Cond.code yX6_keep cX6_keep 1 (some .int)) ∈ lw_gd := List.mem_filter.mpr ⟨List.mem_of_getElem? (i := 468) (by decide +kernel), by decide +kernel⟩
theorem ml_RX6_141 : (Cond.methodLink RX6 141 yX4_take) ∈ lw_gd := List.mem_filter.mpr ⟨List.mem_of_getElem? (i := 469) (by decide +kernel), by decide +kernel⟩
