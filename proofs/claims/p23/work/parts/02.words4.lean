theorem ml_R_law_45 : (Cond.methodLink R_law 45 yX6_restore) ∈ lw_gd := List.mem_filter.mpr ⟨List.mem_of_getElem? (i := 470) (by decide +kernel), by decide +kernel⟩
theorem im_yX6_restore : (Cond.instanceMethod yX6_restore) ∈ lw_gd := List.mem_filter.mpr ⟨List.mem_of_getElem? (i := 471) (by decide +kernel), by decide +kernel⟩
theorem se_yX6_restore : (Cond.selects RX6 yX6_restore yX6_restore) ∈ lw_gd := List.mem_filter.mpr ⟨List.mem_of_getElem? (i := 472) (by decide +kernel), by decide +kernel⟩
theorem co_yX6_restore : (Cond.code yX6_restore cX6_restore 1 (some .int)) ∈ lw_gd := List.mem_filter.mpr ⟨List.mem_of_getElem? (i := 473) (by decide +kernel), by decide +kernel⟩
theorem ml_R_law_85 : (Cond.methodLink R_law 85 yL_areAlike) ∈ lw_gd := List.mem_filter.mpr ⟨List.mem_of_getElem? (i := 474) (by decide +kernel), by decide +kernel⟩
theorem sm_yL_areAlike : (Cond.static yL_areAlike) ∈ lw_gd := List.mem_filter.mpr ⟨List.mem_of_getElem? (i := 475) (by decide +kernel), by decide +kernel⟩
set_option maxRecDepth 100000 in
theorem co_yL_areAlike : (Cond.code yL_areAlike cL_areAlike 10 (some .boolean)) ∈ lw_gd := List.mem_filter.mpr ⟨List.mem_of_getElem? (i := 476) (rfl), by decide +kernel⟩
theorem ml_R_law_48 : (Cond.methodLink R_law 48 yX6_link) ∈ lw_gd := List.mem_filter.mpr ⟨List.mem_of_getElem? (i := 477) (by decide +kernel), by decide +kernel⟩
theorem im_yX6_link : (Cond.instanceMethod yX6_link) ∈ lw_gd := List.mem_filter.mpr ⟨List.mem_of_getElem? (i := 478) (by decide +kernel), by decide +kernel⟩
theorem se_yX6_link : (Cond.selects RX6 yX6_link yX6_link) ∈ lw_gd := List.mem_filter.mpr ⟨List.mem_of_getElem? (i := 479) (by decide +kernel), by decide +kernel⟩
theorem co_yX6_link : (Cond.code yX6_link cX6_link 3 (some .int)) ∈ lw_gd := List.mem_filter.mpr ⟨List.mem_of_getElem? (i := 480) (by decide +kernel), by decide +kernel⟩
theorem ml_RX6_108 : (Cond.methodLink RX6 108 yX4_oneOf) ∈ lw_gd := List.mem_filter.mpr ⟨List.mem_of_getElem? (i := 481) (by decide +kernel), by decide +kernel⟩
theorem ml_RX6_111 : (Cond.methodLink RX6 111 yX4_otherOf) ∈ lw_gd := List.mem_filter.mpr ⟨List.mem_of_getElem? (i := 482) (by decide +kernel), by decide +kernel⟩
theorem ml_RX6_144 : (Cond.methodLink RX6 144 yX4_spansOf) ∈ lw_gd := List.mem_filter.mpr ⟨List.mem_of_getElem? (i := 483) (by decide +kernel), by decide +kernel⟩
theorem im_yX4_spansOf : (Cond.instanceMethod yX4_spansOf) ∈ lw_gd := List.mem_filter.mpr ⟨List.mem_of_getElem? (i := 484) (by decide +kernel), by decide +kernel⟩
theorem se_yX4_spansOf : (Cond.selects RX4 yX4_spansOf yX4_spansOf) ∈ lw_gd := List.mem_filter.mpr ⟨List.mem_of_getElem? (i := 485) (by decide +kernel), by decide +kernel⟩
theorem co_yX4_spansOf : (Cond.code yX4_spansOf cX4_spansOf 5 (some .int)) ∈ lw_gd := List.mem_filter.mpr ⟨List.mem_of_getElem? (i := 486) (by decide +kernel), by decide +kernel⟩
theorem ml_RX4_48 : (Cond.methodLink RX4 48 yX4_isLaidAt) ∈ lw_gd := List.mem_filter.mpr ⟨List.mem_of_getElem? (i := 487) (by decide +kernel), by decide +kernel⟩
theorem ml_RX6_147 : (Cond.methodLink RX6 147 yX5_neededMomentsOf) ∈ lw_gd := List.mem_filter.mpr ⟨List.mem_of_getElem? (i := 488) (by decide +kernel), by decide +kernel⟩
theorem im_yX5_neededMomentsOf : (Cond.instanceMethod yX5_neededMomentsOf) ∈ lw_gd := List.mem_filter.mpr ⟨List.mem_of_getElem? (i := 489) (by decide +kernel), by decide +kernel⟩
theorem se_yX5_neededMomentsOf : (Cond.selects RX5 yX5_neededMomentsOf yX5_neededMomentsOf) ∈ lw_gd := List.mem_filter.mpr ⟨List.mem_of_getElem? (i := 490) (by decide +kernel), by decide +kernel⟩
theorem co_yX5_neededMomentsOf : (Cond.code yX5_neededMomentsOf cX5_neededMomentsOf 5 (some .int)) ∈ lw_gd := List.mem_filter.mpr ⟨List.mem_of_getElem? (i := 491) (by decide +kernel), by decide +kernel⟩
theorem ml_R_law_51 : (Cond.methodLink R_law 51 yX6_needed) ∈ lw_gd := List.mem_filter.mpr ⟨List.mem_of_getElem? (i := 492) (by decide +kernel), by decide +kernel⟩
theorem im_yX6_needed : (Cond.instanceMethod yX6_needed) ∈ lw_gd := List.mem_filter.mpr ⟨List.mem_of_getElem? (i := 493) (by decide +kernel), by decide +kernel⟩
theorem se_yX6_needed : (Cond.selects RX6 yX6_needed yX6_needed) ∈ lw_gd := List.mem_filter.mpr ⟨List.mem_of_getElem? (i := 494) (by decide +kernel), by decide +kernel⟩
theorem co_yX6_needed : (Cond.code yX6_needed cX6_needed 3 (some .int)) ∈ lw_gd := List.mem_filter.mpr ⟨List.mem_of_getElem? (i := 495) (by decide +kernel), by decide +kernel⟩
theorem ml_RX6_105 : (Cond.methodLink RX6 105 yX4_livesAt) ∈ lw_gd := List.mem_filter.mpr ⟨List.mem_of_getElem? (i := 496) (by decide +kernel), by decide +kernel⟩
theorem ml_RX6_185 : (Cond.methodLink RX6 185 yX5_isNeededAt) ∈ lw_gd := List.mem_filter.mpr ⟨List.mem_of_getElem? (i := 497) (by decide +kernel), by decide +kernel⟩
theorem ml_R_law_54 : (Cond.methodLink R_law 54 yX6_span) ∈ lw_gd := List.mem_filter.mpr ⟨List.mem_of_getElem? (i := 498) (by decide +kernel), by decide +kernel⟩
theorem im_yX6_span : (Cond.instanceMethod yX6_span) ∈ lw_gd := List.mem_filter.mpr ⟨List.mem_of_getElem? (i := 499) (by decide +kernel), by decide +kernel⟩
theorem se_yX6_span : (Cond.selects RX6 yX6_span yX6_span) ∈ lw_gd := List.mem_filter.mpr ⟨List.mem_of_getElem? (i := 500) (by decide +kernel), by decide +kernel⟩
theorem co_yX6_span : (Cond.code yX6_span cX6_span 4 (some .int)) ∈ lw_gd := List.mem_filter.mpr ⟨List.mem_of_getElem? (i := 501) (by decide +kernel), by decide +kernel⟩
theorem ml_RX6_207 : (Cond.methodLink RX6 207 yX0_goTo) ∈ lw_gd := List.mem_filter.mpr ⟨List.mem_of_getElem? (i := 502) (by decide +kernel), by decide +kernel⟩
theorem im_yX0_goTo : (Cond.instanceMethod yX0_goTo) ∈ lw_gd := List.mem_filter.mpr ⟨List.mem_of_getElem? (i := 503) (by decide +kernel), by decide +kernel⟩
theorem se_yX0_goTo : (Cond.selects RX0 yX0_goTo yX0_goTo) ∈ lw_gd := List.mem_filter.mpr ⟨List.mem_of_getElem? (i := 504) (by decide +kernel), by decide +kernel⟩
theorem co_yX0_goTo : (Cond.code yX0_goTo cX0_goTo 5 none) ∈ lw_gd := List.mem_filter.mpr ⟨List.mem_of_getElem? (i := 505) (by decide +kernel), by decide +kernel⟩
theorem ml_RX6_211 : (Cond.methodLink RX6 211 yX6_spanBegin) ∈ lw_gd := List.mem_filter.mpr ⟨List.mem_of_getElem? (i := 506) (by decide +kernel), by decide +kernel⟩
theorem ml_RX6_218 : (Cond.methodLink RX6 218 yX0_laidHere) ∈ lw_gd := List.mem_filter.mpr ⟨List.mem_of_getElem? (i := 507) (by decide +kernel), by decide +kernel⟩
theorem im_yX0_laidHere : (Cond.instanceMethod yX0_laidHere) ∈ lw_gd := List.mem_filter.mpr ⟨List.mem_of_getElem? (i := 508) (by decide +kernel), by decide +kernel⟩
theorem se_yX0_laidHere : (Cond.selects RX0 yX0_laidHere yX0_laidHere) ∈ lw_gd := List.mem_filter.mpr ⟨List.mem_of_getElem? (i := 509) (by decide +kernel), by decide +kernel⟩
theorem co_yX0_laidHere : (Cond.code yX0_laidHere cX0_laidHere 1 (some .int)) ∈ lw_gd := List.mem_filter.mpr ⟨List.mem_of_getElem? (i := 510) (by decide +kernel), by decide +kernel⟩
theorem ml_RX6_221 : (Cond.methodLink RX6 221 yX0_madeHere) ∈ lw_gd := List.mem_filter.mpr ⟨List.mem_of_getElem? (i := 511) (by decide +kernel), by decide +kernel⟩
theorem im_yX0_madeHere : (Cond.instanceMethod yX0_madeHere) ∈ lw_gd := List.mem_filter.mpr ⟨List.mem_of_getElem? (i := 512) (by decide +kernel), by decide +kernel⟩
theorem se_yX0_madeHere : (Cond.selects RX0 yX0_madeHere yX0_madeHere) ∈ lw_gd := List.mem_filter.mpr ⟨List.mem_of_getElem? (i := 513) (by decide +kernel), by decide +kernel⟩
theorem co_yX0_madeHere : (Cond.code yX0_madeHere cX0_madeHere 1 (some .int)) ∈ lw_gd := List.mem_filter.mpr ⟨List.mem_of_getElem? (i := 514) (by decide +kernel), by decide +kernel⟩
theorem ml_R_law_57 : (Cond.methodLink R_law 57 yX6_together) ∈ lw_gd := List.mem_filter.mpr ⟨List.mem_of_getElem? (i := 515) (by decide +kernel), by decide +kernel⟩
theorem im_yX6_together : (Cond.instanceMethod yX6_together) ∈ lw_gd := List.mem_filter.mpr ⟨List.mem_of_getElem? (i := 516) (by decide +kernel), by decide +kernel⟩
theorem se_yX6_together : (Cond.selects RX6 yX6_together yX6_together) ∈ lw_gd := List.mem_filter.mpr ⟨List.mem_of_getElem? (i := 517) (by decide +kernel), by decide +kernel⟩
theorem co_yX6_together : (Cond.code yX6_together cX6_together 5 (some .int)) ∈ lw_gd := List.mem_filter.mpr ⟨List.mem_of_getElem? (i := 518) (by decide +kernel), by decide +kernel⟩
theorem ml_RX6_189 : (Cond.methodLink RX6 189 yX8_empty) ∈ lw_gd := List.mem_filter.mpr ⟨List.mem_of_getElem? (i := 519) (by decide +kernel), by decide +kernel⟩
theorem im_yX8_empty : (Cond.instanceMethod yX8_empty) ∈ lw_gd := List.mem_filter.mpr ⟨List.mem_of_getElem? (i := 520) (by decide +kernel), by decide +kernel⟩
theorem se_yX8_empty : (Cond.selects RX8 yX8_empty yX8_empty) ∈ lw_gd := List.mem_filter.mpr ⟨List.mem_of_getElem? (i := 521) (by decide +kernel), by decide +kernel⟩
theorem co_yX8_empty : (Cond.code yX8_empty cX8_empty 1 none) ∈ lw_gd := List.mem_filter.mpr ⟨List.mem_of_getElem? (i := 522) (by decide +kernel), by decide +kernel⟩
theorem ml_RX6_151 : (Cond.methodLink RX6 151 yX5_areJoinedAt) ∈ lw_gd := List.mem_filter.mpr ⟨List.mem_of_getElem? (i := 523) (by decide +kernel), by decide +kernel⟩
theorem im_yX5_areJoinedAt : (Cond.instanceMethod yX5_areJoinedAt) ∈ lw_gd := List.mem_filter.mpr ⟨List.mem_of_getElem? (i := 524) (by decide +kernel), by decide +kernel⟩
theorem se_yX5_areJoinedAt : (Cond.selects RX5 yX5_areJoinedAt yX5_areJoinedAt) ∈ lw_gd := List.mem_filter.mpr ⟨List.mem_of_getElem? (i := 525) (by decide +kernel), by decide +kernel⟩
theorem co_yX5_areJoinedAt : (Cond.code yX5_areJoinedAt cX5_areJoinedAt 5 (some .boolean)) ∈ lw_gd := List.mem_filter.mpr ⟨List.mem_of_getElem? (i := 526) (by decide +kernel), by decide +kernel⟩
theorem ml_RX6_190 : (Cond.methodLink RX6 190 yX8_add) ∈ lw_gd := List.mem_filter.mpr ⟨List.mem_of_getElem? (i := 527) (by decide +kernel), by decide +kernel⟩
theorem im_yX8_add : (Cond.instanceMethod yX8_add) ∈ lw_gd := List.mem_filter.mpr ⟨List.mem_of_getElem? (i := 528) (by decide +kernel), by decide +kernel⟩
theorem se_yX8_add : (Cond.selects RX8 yX8_add yX8_add) ∈ lw_gd := List.mem_filter.mpr ⟨List.mem_of_getElem? (i := 529) (by decide +kernel), by decide +kernel⟩
theorem co_yX8_add : (Cond.code yX8_add cX8_add 3 none) ∈ lw_gd := List.mem_filter.mpr ⟨List.mem_of_getElem? (i := 530) (by decide +kernel), by decide +kernel⟩
theorem ml_RX6_192 : (Cond.methodLink RX6 192 yX8_many) ∈ lw_gd := List.mem_filter.mpr ⟨List.mem_of_getElem? (i := 531) (by decide +kernel), by decide +kernel⟩
theorem im_yX8_many : (Cond.instanceMethod yX8_many) ∈ lw_gd := List.mem_filter.mpr ⟨List.mem_of_getElem? (i := 532) (by decide +kernel), by decide +kernel⟩
theorem se_yX8_many : (Cond.selects RX8 yX8_many yX8_many) ∈ lw_gd := List.mem_filter.mpr ⟨List.mem_of_getElem? (i := 533) (by decide +kernel), by decide +kernel⟩
theorem co_yX8_many : (Cond.code yX8_many cX8_many 1 (some .int)) ∈ lw_gd := List.mem_filter.mpr ⟨List.mem_of_getElem? (i := 534) (by decide +kernel), by decide +kernel⟩
theorem ml_RX6_195 : (Cond.methodLink RX6 195 yX8_first) ∈ lw_gd := List.mem_filter.mpr ⟨List.mem_of_getElem? (i := 535) (by decide +kernel), by decide +kernel⟩
theorem im_yX8_first : (Cond.instanceMethod yX8_first) ∈ lw_gd := List.mem_filter.mpr ⟨List.mem_of_getElem? (i := 536) (by decide +kernel), by decide +kernel⟩
theorem se_yX8_first : (Cond.selects RX8 yX8_first yX8_first) ∈ lw_gd := List.mem_filter.mpr ⟨List.mem_of_getElem? (i := 537) (by decide +kernel), by decide +kernel⟩
theorem co_yX8_first : (Cond.code yX8_first cX8_first 1 (some .int)) ∈ lw_gd := List.mem_filter.mpr ⟨List.mem_of_getElem? (i := 538) (by decide +kernel), by decide +kernel⟩
theorem ml_RX6_198 : (Cond.methodLink RX6 198 yX8_last) ∈ lw_gd := List.mem_filter.mpr ⟨List.mem_of_getElem? (i := 539) (by decide +kernel), by decide +kernel⟩
theorem im_yX8_last : (Cond.instanceMethod yX8_last) ∈ lw_gd := List.mem_filter.mpr ⟨List.mem_of_getElem? (i := 540) (by decide +kernel), by decide +kernel⟩
theorem se_yX8_last : (Cond.selects RX8 yX8_last yX8_last) ∈ lw_gd := List.mem_filter.mpr ⟨List.mem_of_getElem? (i := 541) (by decide +kernel), by decide +kernel⟩
theorem co_yX8_last : (Cond.code yX8_last cX8_last 1 (some .int)) ∈ lw_gd := List.mem_filter.mpr ⟨List.mem_of_getElem? (i := 542) (by decide +kernel), by decide +kernel⟩
theorem ml_RX6_201 : (Cond.methodLink RX6 201 yX8_longest) ∈ lw_gd := List.mem_filter.mpr ⟨List.mem_of_getElem? (i := 543) (by decide +kernel), by decide +kernel⟩
theorem im_yX8_longest : (Cond.instanceMethod yX8_longest) ∈ lw_gd := List.mem_filter.mpr ⟨List.mem_of_getElem? (i := 544) (by decide +kernel), by decide +kernel⟩
theorem se_yX8_longest : (Cond.selects RX8 yX8_longest yX8_longest) ∈ lw_gd := List.mem_filter.mpr ⟨List.mem_of_getElem? (i := 545) (by decide +kernel), by decide +kernel⟩
theorem co_yX8_longest : (Cond.code yX8_longest cX8_longest 1 (some .int)) ∈ lw_gd := List.mem_filter.mpr ⟨List.mem_of_getElem? (i := 546) (by decide +kernel), by decide +kernel⟩
theorem ml_RX6_204 : (Cond.methodLink RX6 204 yX8_longestBegin) ∈ lw_gd := List.mem_filter.mpr ⟨List.mem_of_getElem? (i := 547) (by decide +kernel), by decide +kernel⟩
theorem im_yX8_longestBegin : (Cond.instanceMethod yX8_longestBegin) ∈ lw_gd := List.mem_filter.mpr ⟨List.mem_of_getElem? (i := 548) (by decide +kernel), by decide +kernel⟩
theorem se_yX8_longestBegin : (Cond.selects RX8 yX8_longestBegin yX8_longestBegin) ∈ lw_gd := List.mem_filter.mpr ⟨List.mem_of_getElem? (i := 549) (by decide +kernel), by decide +kernel⟩
theorem co_yX8_longestBegin : (Cond.code yX8_longestBegin cX8_longestBegin 1 (some .int)) ∈ lw_gd := List.mem_filter.mpr ⟨List.mem_of_getElem? (i := 550) (by decide +kernel), by decide +kernel⟩
theorem ml_R_law_60 : (Cond.methodLink R_law 60 yX6_part) ∈ lw_gd := List.mem_filter.mpr ⟨List.mem_of_getElem? (i := 551) (by decide +kernel), by decide +kernel⟩
theorem im_yX6_part : (Cond.instanceMethod yX6_part) ∈ lw_gd := List.mem_filter.mpr ⟨List.mem_of_getElem? (i := 552) (by decide +kernel), by decide +kernel⟩
theorem se_yX6_part : (Cond.selects RX6 yX6_part yX6_part) ∈ lw_gd := List.mem_filter.mpr ⟨List.mem_of_getElem? (i := 553) (by decide +kernel), by decide +kernel⟩
theorem co_yX6_part : (Cond.code yX6_part cX6_part 4 (some .int)) ∈ lw_gd := List.mem_filter.mpr ⟨List.mem_of_getElem? (i := 554) (by decide +kernel), by decide +kernel⟩
theorem ml_RX6_175 : (Cond.methodLink RX6 175 yX5_lowestOfPartAt) ∈ lw_gd := List.mem_filter.mpr ⟨List.mem_of_getElem? (i := 555) (by decide +kernel), by decide +kernel⟩
theorem im_yX5_lowestOfPartAt : (Cond.instanceMethod yX5_lowestOfPartAt) ∈ lw_gd := List.mem_filter.mpr ⟨List.mem_of_getElem? (i := 556) (by decide +kernel), by decide +kernel⟩
theorem se_yX5_lowestOfPartAt : (Cond.selects RX5 yX5_lowestOfPartAt yX5_lowestOfPartAt) ∈ lw_gd := List.mem_filter.mpr ⟨List.mem_of_getElem? (i := 557) (by decide +kernel), by decide +kernel⟩
theorem co_yX5_lowestOfPartAt : (Cond.code yX5_lowestOfPartAt cX5_lowestOfPartAt 5 (some .int)) ∈ lw_gd := List.mem_filter.mpr ⟨List.mem_of_getElem? (i := 558) (by decide +kernel), by decide +kernel⟩
theorem ml_RX6_179 : (Cond.methodLink RX6 179 yX5_partSizeAt) ∈ lw_gd := List.mem_filter.mpr ⟨List.mem_of_getElem? (i := 559) (by decide +kernel), by decide +kernel⟩
theorem im_yX5_partSizeAt : (Cond.instanceMethod yX5_partSizeAt) ∈ lw_gd := List.mem_filter.mpr ⟨List.mem_of_getElem? (i := 560) (by decide +kernel), by decide +kernel⟩
theorem se_yX5_partSizeAt : (Cond.selects RX5 yX5_partSizeAt yX5_partSizeAt) ∈ lw_gd := List.mem_filter.mpr ⟨List.mem_of_getElem? (i := 561) (by decide +kernel), by decide +kernel⟩
theorem co_yX5_partSizeAt : (Cond.code yX5_partSizeAt cX5_partSizeAt 4 (some .int)) ∈ lw_gd := List.mem_filter.mpr ⟨List.mem_of_getElem? (i := 562) (by decide +kernel), by decide +kernel⟩
theorem ml_RX6_182 : (Cond.methodLink RX6 182 yX5_partBitsAt) ∈ lw_gd := List.mem_filter.mpr ⟨List.mem_of_getElem? (i := 563) (by decide +kernel), by decide +kernel⟩
theorem im_yX5_partBitsAt : (Cond.instanceMethod yX5_partBitsAt) ∈ lw_gd := List.mem_filter.mpr ⟨List.mem_of_getElem? (i := 564) (by decide +kernel), by decide +kernel⟩
theorem se_yX5_partBitsAt : (Cond.selects RX5 yX5_partBitsAt yX5_partBitsAt) ∈ lw_gd := List.mem_filter.mpr ⟨List.mem_of_getElem? (i := 565) (by decide +kernel), by decide +kernel⟩
theorem co_yX5_partBitsAt : (Cond.code yX5_partBitsAt cX5_partBitsAt 6 (some .int)) ∈ lw_gd := List.mem_filter.mpr ⟨List.mem_of_getElem? (i := 566) (by decide +kernel), by decide +kernel⟩
theorem ml_R_law_63 : (Cond.methodLink R_law 63 yL_there) ∈ lw_gd := List.mem_filter.mpr ⟨List.mem_of_getElem? (i := 567) (by decide +kernel), by decide +kernel⟩
theorem sm_yL_there : (Cond.static yL_there) ∈ lw_gd := List.mem_filter.mpr ⟨List.mem_of_getElem? (i := 568) (by decide +kernel), by decide +kernel⟩
theorem co_yL_there : (Cond.code yL_there cL_there 4 (some .int)) ∈ lw_gd := List.mem_filter.mpr ⟨List.mem_of_getElem? (i := 569) (by decide +kernel), by decide +kernel⟩
theorem ml_R_law_81 : (Cond.methodLink R_law 81 yL_isWell) ∈ lw_gd := List.mem_filter.mpr ⟨List.mem_of_getElem? (i := 570) (by decide +kernel), by decide +kernel⟩
theorem sm_yL_isWell : (Cond.static yL_isWell) ∈ lw_gd := List.mem_filter.mpr ⟨List.mem_of_getElem? (i := 571) (by decide +kernel), by decide +kernel⟩
set_option maxRecDepth 100000 in
theorem co_yL_isWell : (Cond.code yL_isWell cL_isWell 14 (some .boolean)) ∈ lw_gd := List.mem_filter.mpr ⟨List.mem_of_getElem? (i := 572) (rfl), by decide +kernel⟩
theorem ml_R_law_66 : (Cond.methodLink R_law 66 yX6_joined) ∈ lw_gd := List.mem_filter.mpr ⟨List.mem_of_getElem? (i := 573) (by decide +kernel), by decide +kernel⟩
theorem im_yX6_joined : (Cond.instanceMethod yX6_joined) ∈ lw_gd := List.mem_filter.mpr ⟨List.mem_of_getElem? (i := 574) (by decide +kernel), by decide +kernel⟩
theorem se_yX6_joined : (Cond.selects RX6 yX6_joined yX6_joined) ∈ lw_gd := List.mem_filter.mpr ⟨List.mem_of_getElem? (i := 575) (by decide +kernel), by decide +kernel⟩
theorem co_yX6_joined : (Cond.code yX6_joined cX6_joined 4 (some .int)) ∈ lw_gd := List.mem_filter.mpr ⟨List.mem_of_getElem? (i := 576) (by decide +kernel), by decide +kernel⟩
theorem ml_R_law_69 : (Cond.methodLink R_law 69 yX6_odd) ∈ lw_gd := List.mem_filter.mpr ⟨List.mem_of_getElem? (i := 577) (by decide +kernel), by decide +kernel⟩
theorem im_yX6_odd : (Cond.instanceMethod yX6_odd) ∈ lw_gd := List.mem_filter.mpr ⟨List.mem_of_getElem? (i := 578) (by decide +kernel), by decide +kernel⟩
theorem se_yX6_odd : (Cond.selects RX6 yX6_odd yX6_odd) ∈ lw_gd := List.mem_filter.mpr ⟨List.mem_of_getElem? (i := 579) (by decide +kernel), by decide +kernel⟩
theorem co_yX6_odd : (Cond.code yX6_odd cX6_odd 3 (some .int)) ∈ lw_gd := List.mem_filter.mpr ⟨List.mem_of_getElem? (i := 580) (by decide +kernel), by decide +kernel⟩
theorem se_yX6_countOnWay : (Cond.selects RX6 yX6_countOnWay yX6_countOnWay) ∈ lw_gd := List.mem_filter.mpr ⟨List.mem_of_getElem? (i := 0) (by decide +kernel), by decide +kernel⟩
theorem se_yX0_joinLaid : (Cond.selects RX0 yX0_joinLaid yX0_joinLaid) ∈ lw_gd := List.mem_filter.mpr ⟨List.mem_of_getElem? (i := 1) (by decide +kernel), by decide +kernel⟩
theorem se_yX2_takeOff : (Cond.selects RX2 yX2_takeOff yX2_takeOff) ∈ lw_gd := List.mem_filter.mpr ⟨List.mem_of_getElem? (i := 2) (by decide +kernel), by decide +kernel⟩
theorem se_yX2_has : (Cond.selects RX2 yX2_has yX2_has) ∈ lw_gd := List.mem_filter.mpr ⟨List.mem_of_getElem? (i := 3) (by decide +kernel), by decide +kernel⟩
theorem se_yX4_coversAll : (Cond.selects RX4 yX4_coversAll yX4_coversAll) ∈ lw_gd := List.mem_filter.mpr ⟨List.mem_of_getElem? (i := 4) (by decide +kernel), by decide +kernel⟩
theorem se_yX2_topOf : (Cond.selects RX2 yX2_topOf yX2_topOf) ∈ lw_gd := List.mem_filter.mpr ⟨List.mem_of_getElem? (i := 5) (by decide +kernel), by decide +kernel⟩
theorem se_yX5_joinWithout : (Cond.selects RX5 yX5_joinWithout yX5_joinWithout) ∈ lw_gd := List.mem_filter.mpr ⟨List.mem_of_getElem? (i := 6) (by decide +kernel), by decide +kernel⟩
theorem se_yX1_dropOldest : (Cond.selects RX1 yX1_dropOldest yX1_dropOldest) ∈ lw_gd := List.mem_filter.mpr ⟨List.mem_of_getElem? (i := 7) (by decide +kernel), by decide +kernel⟩
