-- ===== PART A: goes FIRST, ahead of the names: the tables' words, and 'selects' of the private methods out of them =====
/-- a private method of a class that the tables say can be made, by its rows of tables_1 -/
def lw_okq (q : MethodName × Nat) : Prop := (q.1.cls ≠ "java/lang/invoke/MethodHandle" ∧ q.1.cls ≠ "java/lang/invoke/VarHandle") ∧ Cond.instantiable q.1.cls q.2 ∈ tables_1 ∧ Cond.privateMethod q.1 ∈ tables_1 ∧ Cond.instanceMethod q.1 ∈ tables_1
theorem lw_p0 : lw_okq (⟨"LivedLinks$History", "dropOldest", "()V"⟩, 2) := ⟨⟨by decide +kernel, by decide +kernel⟩, List.mem_of_getElem? (i := 43) (by decide +kernel), List.mem_of_getElem? (i := 215) (by decide +kernel), List.mem_of_getElem? (i := 216) (by decide +kernel)⟩
theorem lw_p1 : lw_okq (⟨"LivedLinks$LinkText", "readLink", "(LLivedLinks$Links;)Z"⟩, 3) := ⟨⟨by decide +kernel, by decide +kernel⟩, List.mem_of_getElem? (i := 59) (by decide +kernel), List.mem_of_getElem? (i := 295) (by decide +kernel), List.mem_of_getElem? (i := 296) (by decide +kernel)⟩
theorem lw_p2 : lw_okq (⟨"LivedLinks$LinkText", "readNumber", "(I)I"⟩, 3) := ⟨⟨by decide +kernel, by decide +kernel⟩, List.mem_of_getElem? (i := 59) (by decide +kernel), List.mem_of_getElem? (i := 299) (by decide +kernel), List.mem_of_getElem? (i := 300) (by decide +kernel)⟩
theorem lw_p3 : lw_okq (⟨"LivedLinks$LinkText", "digitAt", "(I)I"⟩, 3) := ⟨⟨by decide +kernel, by decide +kernel⟩, List.mem_of_getElem? (i := 59) (by decide +kernel), List.mem_of_getElem? (i := 303) (by decide +kernel), List.mem_of_getElem? (i := 304) (by decide +kernel)⟩
theorem lw_p4 : lw_okq (⟨"LivedLinks$LinkText", "readSign", "(C)Z"⟩, 3) := ⟨⟨by decide +kernel, by decide +kernel⟩, List.mem_of_getElem? (i := 59) (by decide +kernel), List.mem_of_getElem? (i := 307) (by decide +kernel), List.mem_of_getElem? (i := 308) (by decide +kernel)⟩
theorem lw_p5 : lw_okq (⟨"LivedLinks$LinkText", "refuseLastDigit", "()Z"⟩, 3) := ⟨⟨by decide +kernel, by decide +kernel⟩, List.mem_of_getElem? (i := 59) (by decide +kernel), List.mem_of_getElem? (i := 311) (by decide +kernel), List.mem_of_getElem? (i := 312) (by decide +kernel)⟩
theorem lw_p6 : lw_okq (⟨"LivedLinks$Links", "coversAll", "(III)Z"⟩, 5) := ⟨⟨by decide +kernel, by decide +kernel⟩, List.mem_of_getElem? (i := 20) (by decide +kernel), List.mem_of_getElem? (i := 391) (by decide +kernel), List.mem_of_getElem? (i := 392) (by decide +kernel)⟩
theorem lw_p7 : lw_okq (⟨"LivedLinks$Moments", "joinWithout", "(LLivedLinks$Links;II)V"⟩, 2) := ⟨⟨by decide +kernel, by decide +kernel⟩, List.mem_of_getElem? (i := 76) (by decide +kernel), List.mem_of_getElem? (i := 404) (by decide +kernel), List.mem_of_getElem? (i := 405) (by decide +kernel)⟩
theorem lw_p8 : lw_okq (⟨"LivedLinks$Joinings", "takeOff", "(I)V"⟩, 4) := ⟨⟨by decide +kernel, by decide +kernel⟩, List.mem_of_getElem? (i := 82) (by decide +kernel), List.mem_of_getElem? (i := 412) (by decide +kernel), List.mem_of_getElem? (i := 413) (by decide +kernel)⟩
theorem lw_p9 : lw_okq (⟨"LivedLinks$Joinings", "has", "(I)Z"⟩, 4) := ⟨⟨by decide +kernel, by decide +kernel⟩, List.mem_of_getElem? (i := 82) (by decide +kernel), List.mem_of_getElem? (i := 416) (by decide +kernel), List.mem_of_getElem? (i := 417) (by decide +kernel)⟩
theorem lw_p10 : lw_okq (⟨"LivedLinks$Joinings", "topOf", "(I)I"⟩, 4) := ⟨⟨by decide +kernel, by decide +kernel⟩, List.mem_of_getElem? (i := 82) (by decide +kernel), List.mem_of_getElem? (i := 427) (by decide +kernel), List.mem_of_getElem? (i := 428) (by decide +kernel)⟩
theorem lw_p11 : lw_okq (⟨"LivedLinks$HalvesWay", "joinLaid", "(LLivedLinks$Links;II)V"⟩, 7) := ⟨⟨by decide +kernel, by decide +kernel⟩, List.mem_of_getElem? (i := 136) (by decide +kernel), List.mem_of_getElem? (i := 545) (by decide +kernel), List.mem_of_getElem? (i := 546) (by decide +kernel)⟩
theorem lw_p12 : lw_okq (⟨"LivedLinks", "countOnWay", "(I)I"⟩, 9) := ⟨⟨by decide +kernel, by decide +kernel⟩, List.mem_of_getElem? (i := 12) (by decide +kernel), List.mem_of_getElem? (i := 569) (by decide +kernel), List.mem_of_getElem? (i := 570) (by decide +kernel)⟩
theorem lw_p13 : lw_okq (⟨"LivedLinksModel", "remember", "()V"⟩, 12) := ⟨⟨by decide +kernel, by decide +kernel⟩, List.mem_of_getElem? (i := 607) (by decide +kernel), List.mem_of_getElem? (i := 669) (by decide +kernel), List.mem_of_getElem? (i := 670) (by decide +kernel)⟩
theorem lw_p14 : lw_okq (⟨"LivedLinksModel", "adds", "(IIII)V"⟩, 12) := ⟨⟨by decide +kernel, by decide +kernel⟩, List.mem_of_getElem? (i := 607) (by decide +kernel), List.mem_of_getElem? (i := 673) (by decide +kernel), List.mem_of_getElem? (i := 674) (by decide +kernel)⟩
theorem lw_p15 : lw_okq (⟨"LivedLinksModel", "acted", "(I)I"⟩, 12) := ⟨⟨by decide +kernel, by decide +kernel⟩, List.mem_of_getElem? (i := 607) (by decide +kernel), List.mem_of_getElem? (i := 677) (by decide +kernel), List.mem_of_getElem? (i := 678) (by decide +kernel)⟩
def lw_privs_1 : List (MethodName × Nat) := [(⟨"LivedLinks$History", "dropOldest", "()V"⟩, 2), (⟨"LivedLinks$LinkText", "readLink", "(LLivedLinks$Links;)Z"⟩, 3), (⟨"LivedLinks$LinkText", "readNumber", "(I)I"⟩, 3), (⟨"LivedLinks$LinkText", "digitAt", "(I)I"⟩, 3), (⟨"LivedLinks$LinkText", "readSign", "(C)Z"⟩, 3), (⟨"LivedLinks$LinkText", "refuseLastDigit", "()Z"⟩, 3), (⟨"LivedLinks$Links", "coversAll", "(III)Z"⟩, 5), (⟨"LivedLinks$Moments", "joinWithout", "(LLivedLinks$Links;II)V"⟩, 2), (⟨"LivedLinks$Joinings", "takeOff", "(I)V"⟩, 4), (⟨"LivedLinks$Joinings", "has", "(I)Z"⟩, 4), (⟨"LivedLinks$Joinings", "topOf", "(I)I"⟩, 4), (⟨"LivedLinks$HalvesWay", "joinLaid", "(LLivedLinks$Links;II)V"⟩, 7), (⟨"LivedLinks", "countOnWay", "(I)I"⟩, 9), (⟨"LivedLinksModel", "remember", "()V"⟩, 12), (⟨"LivedLinksModel", "adds", "(IIII)V"⟩, 12), (⟨"LivedLinksModel", "acted", "(I)I"⟩, 12)]
theorem lw_r1 : ∀ q ∈ lw_privs_1, lw_okq q := List.forall_mem_cons.mpr ⟨lw_p0, List.forall_mem_cons.mpr ⟨lw_p1, List.forall_mem_cons.mpr ⟨lw_p2, List.forall_mem_cons.mpr ⟨lw_p3, List.forall_mem_cons.mpr ⟨lw_p4, List.forall_mem_cons.mpr ⟨lw_p5, List.forall_mem_cons.mpr ⟨lw_p6, List.forall_mem_cons.mpr ⟨lw_p7, List.forall_mem_cons.mpr ⟨lw_p8, List.forall_mem_cons.mpr ⟨lw_p9, List.forall_mem_cons.mpr ⟨lw_p10, List.forall_mem_cons.mpr ⟨lw_p11, List.forall_mem_cons.mpr ⟨lw_p12, List.forall_mem_cons.mpr ⟨lw_p13, List.forall_mem_cons.mpr ⟨lw_p14, List.forall_mem_cons.mpr ⟨lw_p15, fun _ h => absurd h List.not_mem_nil⟩⟩⟩⟩⟩⟩⟩⟩⟩⟩⟩⟩⟩⟩⟩⟩
theorem lw_p16 : lw_okq (⟨"LivedLinksModel", "isLink", "(I)Z"⟩, 12) := ⟨⟨by decide +kernel, by decide +kernel⟩, List.mem_of_getElem? (i := 607) (by decide +kernel), List.mem_of_getElem? (i := 685) (by decide +kernel), List.mem_of_getElem? (i := 686) (by decide +kernel)⟩
theorem lw_p17 : lw_okq (⟨"LivedLinksModel", "takesOut", "(I)V"⟩, 12) := ⟨⟨by decide +kernel, by decide +kernel⟩, List.mem_of_getElem? (i := 607) (by decide +kernel), List.mem_of_getElem? (i := 689) (by decide +kernel), List.mem_of_getElem? (i := 690) (by decide +kernel)⟩
theorem lw_p18 : lw_okq (⟨"LivedLinksModel", "livesAt", "(II)Z"⟩, 12) := ⟨⟨by decide +kernel, by decide +kernel⟩, List.mem_of_getElem? (i := 607) (by decide +kernel), List.mem_of_getElem? (i := 701) (by decide +kernel), List.mem_of_getElem? (i := 702) (by decide +kernel)⟩
theorem lw_p19 : lw_okq (⟨"LivedLinksModel", "lives", "(III)Z"⟩, 12) := ⟨⟨by decide +kernel, by decide +kernel⟩, List.mem_of_getElem? (i := 607) (by decide +kernel), List.mem_of_getElem? (i := 705) (by decide +kernel), List.mem_of_getElem? (i := 706) (by decide +kernel)⟩
theorem lw_p20 : lw_okq (⟨"LivedLinksModel", "livingAt", "(I)J"⟩, 12) := ⟨⟨by decide +kernel, by decide +kernel⟩, List.mem_of_getElem? (i := 607) (by decide +kernel), List.mem_of_getElem? (i := 713) (by decide +kernel), List.mem_of_getElem? (i := 714) (by decide +kernel)⟩
theorem lw_p21 : lw_okq (⟨"LivedLinksModel", "fault", "()I"⟩, 12) := ⟨⟨by decide +kernel, by decide +kernel⟩, List.mem_of_getElem? (i := 607) (by decide +kernel), List.mem_of_getElem? (i := 732) (by decide +kernel), List.mem_of_getElem? (i := 733) (by decide +kernel)⟩
theorem lw_p22 : lw_okq (⟨"LivedLinksModel", "readsLink", "()Z"⟩, 12) := ⟨⟨by decide +kernel, by decide +kernel⟩, List.mem_of_getElem? (i := 607) (by decide +kernel), List.mem_of_getElem? (i := 736) (by decide +kernel), List.mem_of_getElem? (i := 737) (by decide +kernel)⟩
theorem lw_p23 : lw_okq (⟨"LivedLinksModel", "readsNumber", "(I)Z"⟩, 12) := ⟨⟨by decide +kernel, by decide +kernel⟩, List.mem_of_getElem? (i := 607) (by decide +kernel), List.mem_of_getElem? (i := 740) (by decide +kernel), List.mem_of_getElem? (i := 741) (by decide +kernel)⟩
theorem lw_p24 : lw_okq (⟨"LivedLinksModel", "isHere", "(II)Z"⟩, 12) := ⟨⟨by decide +kernel, by decide +kernel⟩, List.mem_of_getElem? (i := 607) (by decide +kernel), List.mem_of_getElem? (i := 744) (by decide +kernel), List.mem_of_getElem? (i := 745) (by decide +kernel)⟩
theorem lw_p25 : lw_okq (⟨"LivedLinksModel", "takes", "(I)Z"⟩, 12) := ⟨⟨by decide +kernel, by decide +kernel⟩, List.mem_of_getElem? (i := 607) (by decide +kernel), List.mem_of_getElem? (i := 748) (by decide +kernel), List.mem_of_getElem? (i := 749) (by decide +kernel)⟩
theorem lw_p26 : lw_okq (⟨"LivedLinksModel", "isTold", "(Z)Z"⟩, 12) := ⟨⟨by decide +kernel, by decide +kernel⟩, List.mem_of_getElem? (i := 607) (by decide +kernel), List.mem_of_getElem? (i := 752) (by decide +kernel), List.mem_of_getElem? (i := 753) (by decide +kernel)⟩
theorem lw_p27 : lw_okq (⟨"LivedLinksModel", "spansOf", "(I)I"⟩, 12) := ⟨⟨by decide +kernel, by decide +kernel⟩, List.mem_of_getElem? (i := 607) (by decide +kernel), List.mem_of_getElem? (i := 772) (by decide +kernel), List.mem_of_getElem? (i := 773) (by decide +kernel)⟩
theorem lw_p28 : lw_okq (⟨"LivedLinksModel", "covers", "(III)Z"⟩, 12) := ⟨⟨by decide +kernel, by decide +kernel⟩, List.mem_of_getElem? (i := 607) (by decide +kernel), List.mem_of_getElem? (i := 776) (by decide +kernel), List.mem_of_getElem? (i := 777) (by decide +kernel)⟩
theorem lw_p29 : lw_okq (⟨"LivedLinksModel", "momentsNeeded", "(I)I"⟩, 12) := ⟨⟨by decide +kernel, by decide +kernel⟩, List.mem_of_getElem? (i := 607) (by decide +kernel), List.mem_of_getElem? (i := 786) (by decide +kernel), List.mem_of_getElem? (i := 787) (by decide +kernel)⟩
theorem lw_p30 : lw_okq (⟨"LivedLinksModel", "isNeeded", "(JI)Z"⟩, 12) := ⟨⟨by decide +kernel, by decide +kernel⟩, List.mem_of_getElem? (i := 607) (by decide +kernel), List.mem_of_getElem? (i := 790) (by decide +kernel), List.mem_of_getElem? (i := 791) (by decide +kernel)⟩
theorem lw_p31 : lw_okq (⟨"LivedLinksModel", "join", "(JII)Z"⟩, 12) := ⟨⟨by decide +kernel, by decide +kernel⟩, List.mem_of_getElem? (i := 607) (by decide +kernel), List.mem_of_getElem? (i := 795) (by decide +kernel), List.mem_of_getElem? (i := 796) (by decide +kernel)⟩
def lw_privs_2 : List (MethodName × Nat) := [(⟨"LivedLinksModel", "isLink", "(I)Z"⟩, 12), (⟨"LivedLinksModel", "takesOut", "(I)V"⟩, 12), (⟨"LivedLinksModel", "livesAt", "(II)Z"⟩, 12), (⟨"LivedLinksModel", "lives", "(III)Z"⟩, 12), (⟨"LivedLinksModel", "livingAt", "(I)J"⟩, 12), (⟨"LivedLinksModel", "fault", "()I"⟩, 12), (⟨"LivedLinksModel", "readsLink", "()Z"⟩, 12), (⟨"LivedLinksModel", "readsNumber", "(I)Z"⟩, 12), (⟨"LivedLinksModel", "isHere", "(II)Z"⟩, 12), (⟨"LivedLinksModel", "takes", "(I)Z"⟩, 12), (⟨"LivedLinksModel", "isTold", "(Z)Z"⟩, 12), (⟨"LivedLinksModel", "spansOf", "(I)I"⟩, 12), (⟨"LivedLinksModel", "covers", "(III)Z"⟩, 12), (⟨"LivedLinksModel", "momentsNeeded", "(I)I"⟩, 12), (⟨"LivedLinksModel", "isNeeded", "(JI)Z"⟩, 12), (⟨"LivedLinksModel", "join", "(JII)Z"⟩, 12)]
theorem lw_r2 : ∀ q ∈ lw_privs_2, lw_okq q := List.forall_mem_cons.mpr ⟨lw_p16, List.forall_mem_cons.mpr ⟨lw_p17, List.forall_mem_cons.mpr ⟨lw_p18, List.forall_mem_cons.mpr ⟨lw_p19, List.forall_mem_cons.mpr ⟨lw_p20, List.forall_mem_cons.mpr ⟨lw_p21, List.forall_mem_cons.mpr ⟨lw_p22, List.forall_mem_cons.mpr ⟨lw_p23, List.forall_mem_cons.mpr ⟨lw_p24, List.forall_mem_cons.mpr ⟨lw_p25, List.forall_mem_cons.mpr ⟨lw_p26, List.forall_mem_cons.mpr ⟨lw_p27, List.forall_mem_cons.mpr ⟨lw_p28, List.forall_mem_cons.mpr ⟨lw_p29, List.forall_mem_cons.mpr ⟨lw_p30, List.forall_mem_cons.mpr ⟨lw_p31, fun _ h => absurd h List.not_mem_nil⟩⟩⟩⟩⟩⟩⟩⟩⟩⟩⟩⟩⟩⟩⟩⟩
theorem lw_p32 : lw_okq (⟨"LivedLinksModel", "reach", "(JI)I"⟩, 12) := ⟨⟨by decide +kernel, by decide +kernel⟩, List.mem_of_getElem? (i := 607) (by decide +kernel), List.mem_of_getElem? (i := 799) (by decide +kernel), List.mem_of_getElem? (i := 800) (by decide +kernel)⟩
theorem lw_p33 : lw_okq (⟨"LivedLinksModel", "parts", "(J)I"⟩, 12) := ⟨⟨by decide +kernel, by decide +kernel⟩, List.mem_of_getElem? (i := 607) (by decide +kernel), List.mem_of_getElem? (i := 811) (by decide +kernel), List.mem_of_getElem? (i := 812) (by decide +kernel)⟩
theorem lw_p34 : lw_okq (⟨"LivedLinksModel", "isOdd", "(J)Z"⟩, 12) := ⟨⟨by decide +kernel, by decide +kernel⟩, List.mem_of_getElem? (i := 607) (by decide +kernel), List.mem_of_getElem? (i := 815) (by decide +kernel), List.mem_of_getElem? (i := 816) (by decide +kernel)⟩
theorem lw_p35 : lw_okq (⟨"LivedLinksModel", "greatestPart", "(J)I"⟩, 12) := ⟨⟨by decide +kernel, by decide +kernel⟩, List.mem_of_getElem? (i := 607) (by decide +kernel), List.mem_of_getElem? (i := 819) (by decide +kernel), List.mem_of_getElem? (i := 820) (by decide +kernel)⟩
theorem lw_p36 : lw_okq (⟨"LivedLinksModel", "neededAt", "(J)I"⟩, 12) := ⟨⟨by decide +kernel, by decide +kernel⟩, List.mem_of_getElem? (i := 607) (by decide +kernel), List.mem_of_getElem? (i := 823) (by decide +kernel), List.mem_of_getElem? (i := 824) (by decide +kernel)⟩
theorem lw_p37 : lw_okq (⟨"LivedLinksModel", "alone", "(J)I"⟩, 12) := ⟨⟨by decide +kernel, by decide +kernel⟩, List.mem_of_getElem? (i := 607) (by decide +kernel), List.mem_of_getElem? (i := 827) (by decide +kernel), List.mem_of_getElem? (i := 828) (by decide +kernel)⟩
theorem lw_p38 : lw_okq (⟨"LivedLinksModel", "laidAt", "(II)J"⟩, 12) := ⟨⟨by decide +kernel, by decide +kernel⟩, List.mem_of_getElem? (i := 607) (by decide +kernel), List.mem_of_getElem? (i := 853) (by decide +kernel), List.mem_of_getElem? (i := 854) (by decide +kernel)⟩
theorem lw_p39 : lw_okq (⟨"LivedLinksModel", "madeAt", "(II)I"⟩, 12) := ⟨⟨by decide +kernel, by decide +kernel⟩, List.mem_of_getElem? (i := 607) (by decide +kernel), List.mem_of_getElem? (i := 857) (by decide +kernel), List.mem_of_getElem? (i := 858) (by decide +kernel)⟩
theorem lw_p40 : lw_okq (⟨"LivedLinksModel", "livingAll", "(II)J"⟩, 12) := ⟨⟨by decide +kernel, by decide +kernel⟩, List.mem_of_getElem? (i := 607) (by decide +kernel), List.mem_of_getElem? (i := 861) (by decide +kernel), List.mem_of_getElem? (i := 862) (by decide +kernel)⟩
theorem lw_p41 : lw_okq (⟨"LivedLinksModel", "ofSpans", "(I)I"⟩, 12) := ⟨⟨by decide +kernel, by decide +kernel⟩, List.mem_of_getElem? (i := 607) (by decide +kernel), List.mem_of_getElem? (i := 869) (by decide +kernel), List.mem_of_getElem? (i := 870) (by decide +kernel)⟩
theorem lw_p42 : lw_okq (⟨"LivedLinksModel", "ofMoments", "(I)I"⟩, 12) := ⟨⟨by decide +kernel, by decide +kernel⟩, List.mem_of_getElem? (i := 607) (by decide +kernel), List.mem_of_getElem? (i := 873) (by decide +kernel), List.mem_of_getElem? (i := 874) (by decide +kernel)⟩
def lw_privs_3 : List (MethodName × Nat) := [(⟨"LivedLinksModel", "reach", "(JI)I"⟩, 12), (⟨"LivedLinksModel", "parts", "(J)I"⟩, 12), (⟨"LivedLinksModel", "isOdd", "(J)Z"⟩, 12), (⟨"LivedLinksModel", "greatestPart", "(J)I"⟩, 12), (⟨"LivedLinksModel", "neededAt", "(J)I"⟩, 12), (⟨"LivedLinksModel", "alone", "(J)I"⟩, 12), (⟨"LivedLinksModel", "laidAt", "(II)J"⟩, 12), (⟨"LivedLinksModel", "madeAt", "(II)I"⟩, 12), (⟨"LivedLinksModel", "livingAll", "(II)J"⟩, 12), (⟨"LivedLinksModel", "ofSpans", "(I)I"⟩, 12), (⟨"LivedLinksModel", "ofMoments", "(I)I"⟩, 12)]
theorem lw_r3 : ∀ q ∈ lw_privs_3, lw_okq q := List.forall_mem_cons.mpr ⟨lw_p32, List.forall_mem_cons.mpr ⟨lw_p33, List.forall_mem_cons.mpr ⟨lw_p34, List.forall_mem_cons.mpr ⟨lw_p35, List.forall_mem_cons.mpr ⟨lw_p36, List.forall_mem_cons.mpr ⟨lw_p37, List.forall_mem_cons.mpr ⟨lw_p38, List.forall_mem_cons.mpr ⟨lw_p39, List.forall_mem_cons.mpr ⟨lw_p40, List.forall_mem_cons.mpr ⟨lw_p41, List.forall_mem_cons.mpr ⟨lw_p42, fun _ h => absurd h List.not_mem_nil⟩⟩⟩⟩⟩⟩⟩⟩⟩⟩⟩
def lw_privs : List (MethodName × Nat) := lw_privs_1 ++ (lw_privs_2 ++ (lw_privs_3))
def lw_tbl : List Cond := k2_sels lw_privs ++ tables_1
theorem lw_privs_ok : ∀ q ∈ lw_privs, lw_okq q := by
  show ∀ q ∈ lw_privs_1 ++ (lw_privs_2 ++ (lw_privs_3)), lw_okq q
  exact List.forall_mem_append.mpr ⟨lw_r1, List.forall_mem_append.mpr ⟨lw_r2, lw_r3⟩⟩
-- the names, as printed
def RX0 : String := "LivedLinks$HalvesWay"
def TX0 : u_T := fun k => match k with
  | 0 => ("LivedLinks$HalvesWay", "points", "LLivedLinks$Joinings;", true)
  | 1 => ("LivedLinks$HalvesWay", "standingAt", "[I", true)
  | 2 => ("LivedLinks$HalvesWay", "laidHere", "I", false)
  | 3 => ("LivedLinks$HalvesWay", "madeHere", "I", false)
  | 4 => ("LivedLinks$HalvesWay", "laidInAll", "I", false)
  | 5 => ("LivedLinks$HalvesWay", "madeInAll", "I", false)
  | _ => ("LivedLinks$HalvesWay", "mostStanding", "I", false)
def tyX0 : Nat → FieldType := fun k => match k with
  | 0 => .object "LivedLinks$Joinings"
  | 1 => .array .int
  | 2 => .int
  | 3 => .int
  | 4 => .int
  | 5 => .int
  | _ => .int
theorem nmX0 : ∀ a, a < 7 → ∀ b, b < 7 → a ≠ b → (TX0 a).2.1 ≠ (TX0 b).2.1 := by decide +kernel
theorem tyX0_ok : ∀ k, k < 7 → parseFieldDescriptor (TX0 k).2.2.1 = some (tyX0 k) := by decide +kernel
abbrev cX0_init : ByteArray := prog_2_method_1_code
def yX0_init : MethodName := ⟨RX0, "<init>", "()V"⟩
abbrev cX0_laidHere : ByteArray := prog_2_method_2_code
def yX0_laidHere : MethodName := ⟨RX0, "laidHere", "()I"⟩
abbrev cX0_madeHere : ByteArray := prog_2_method_3_code
def yX0_madeHere : MethodName := ⟨RX0, "madeHere", "()I"⟩
abbrev cX0_madeInAll : ByteArray := prog_2_method_4_code
def yX0_madeInAll : MethodName := ⟨RX0, "madeInAll", "()I"⟩
abbrev cX0_idleInAll : ByteArray := prog_2_method_5_code
def yX0_idleInAll : MethodName := ⟨RX0, "idleInAll", "()I"⟩
abbrev cX0_mostStanding : ByteArray := prog_2_method_6_code
def yX0_mostStanding : MethodName := ⟨RX0, "mostStanding", "()I"⟩
abbrev cX0_goAll : ByteArray := prog_2_method_7_code
def yX0_goAll : MethodName := ⟨RX0, "goAll", "(LLivedLinks$Links;)V"⟩
abbrev cX0_goTo : ByteArray := prog_2_method_8_code
def yX0_goTo : MethodName := ⟨RX0, "goTo", "(LLivedLinks$Links;II)V"⟩
abbrev cX0_joinLaid : ByteArray := prog_2_method_9_code
def yX0_joinLaid : MethodName := ⟨RX0, "joinLaid", "(LLivedLinks$Links;II)V"⟩
def RX1 : String := "LivedLinks$History"
def TX1 : u_T := fun k => match k with
  | 0 => ("LivedLinks$History", "states", "[LLivedLinks$Links;", true)
  | _ => ("LivedLinks$History", "size", "I", false)
def tyX1 : Nat → FieldType := fun k => match k with
  | 0 => .array (.object "LivedLinks$Links")
  | _ => .int
theorem nmX1 : ∀ a, a < 2 → ∀ b, b < 2 → a ≠ b → (TX1 a).2.1 ≠ (TX1 b).2.1 := by decide +kernel
theorem tyX1_ok : ∀ k, k < 2 → parseFieldDescriptor (TX1 k).2.2.1 = some (tyX1 k) := by decide +kernel
abbrev cX1_init : ByteArray := prog_3_method_1_code
def yX1_init : MethodName := ⟨RX1, "<init>", "()V"⟩
abbrev cX1_size : ByteArray := prog_3_method_2_code
def yX1_size : MethodName := ⟨RX1, "size", "()I"⟩
abbrev cX1_remember : ByteArray := prog_3_method_3_code
def yX1_remember : MethodName := ⟨RX1, "remember", "(LLivedLinks$Links;)V"⟩
abbrev cX1_dropOldest : ByteArray := prog_3_method_4_code
def yX1_dropOldest : MethodName := ⟨RX1, "dropOldest", "()V"⟩
abbrev cX1_goBack : ByteArray := prog_3_method_5_code
def yX1_goBack : MethodName := ⟨RX1, "goBack", "(LLivedLinks$Links;)V"⟩
def RX2 : String := "LivedLinks$Joinings"
def TX2 : u_T := fun k => match k with
  | 0 => ("LivedLinks$Joinings", "above", "[I", true)
  | 1 => ("LivedLinks$Joinings", "below", "[I", true)
  | 2 => ("LivedLinks$Joinings", "hung", "[I", true)
  | _ => ("LivedLinks$Joinings", "standing", "I", false)
def tyX2 : Nat → FieldType := fun k => match k with
  | 0 => .array .int
  | 1 => .array .int
  | 2 => .array .int
  | _ => .int
theorem nmX2 : ∀ a, a < 4 → ∀ b, b < 4 → a ≠ b → (TX2 a).2.1 ≠ (TX2 b).2.1 := by decide +kernel
theorem tyX2_ok : ∀ k, k < 4 → parseFieldDescriptor (TX2 k).2.2.1 = some (tyX2 k) := by decide +kernel
abbrev cX2_init : ByteArray := prog_4_method_1_code
def yX2_init : MethodName := ⟨RX2, "<init>", "(I)V"⟩
abbrev cX2_standing : ByteArray := prog_4_method_2_code
def yX2_standing : MethodName := ⟨RX2, "standing", "()I"⟩
abbrev cX2_has : ByteArray := prog_4_method_3_code
def yX2_has : MethodName := ⟨RX2, "has", "(I)Z"⟩
abbrev cX2_topOf : ByteArray := prog_4_method_4_code
def yX2_topOf : MethodName := ⟨RX2, "topOf", "(I)I"⟩
abbrev cX2_areJoined : ByteArray := prog_4_method_5_code
def yX2_areJoined : MethodName := ⟨RX2, "areJoined", "(II)Z"⟩
abbrev cX2_partSize : ByteArray := prog_4_method_6_code
def yX2_partSize : MethodName := ⟨RX2, "partSize", "(I)I"⟩
abbrev cX2_join : ByteArray := prog_4_method_7_code
def yX2_join : MethodName := ⟨RX2, "join", "(II)V"⟩
abbrev cX2_takeBackTo : ByteArray := prog_4_method_8_code
def yX2_takeBackTo : MethodName := ⟨RX2, "takeBackTo", "(I)V"⟩
abbrev cX2_takeOff : ByteArray := prog_4_method_9_code
def yX2_takeOff : MethodName := ⟨RX2, "takeOff", "(I)V"⟩
def RX3 : String := "LivedLinks$LinkText"
def TX3 : u_T := fun k => match k with
  | 0 => ("LivedLinks$LinkText", "characters", "[C", true)
  | 1 => ("LivedLinks$LinkText", "length", "I", false)
  | _ => ("LivedLinks$LinkText", "place", "I", false)
def tyX3 : Nat → FieldType := fun k => match k with
  | 0 => .array .char
  | 1 => .int
  | _ => .int
theorem nmX3 : ∀ a, a < 3 → ∀ b, b < 3 → a ≠ b → (TX3 a).2.1 ≠ (TX3 b).2.1 := by decide +kernel
theorem tyX3_ok : ∀ k, k < 3 → parseFieldDescriptor (TX3 k).2.2.1 = some (tyX3 k) := by decide +kernel
abbrev cX3_init : ByteArray := prog_5_method_1_code
def yX3_init : MethodName := ⟨RX3, "<init>", "()V"⟩
abbrev cX3_length : ByteArray := prog_5_method_2_code
def yX3_length : MethodName := ⟨RX3, "length", "()I"⟩
abbrev cX3_empty : ByteArray := prog_5_method_3_code
def yX3_empty : MethodName := ⟨RX3, "empty", "()V"⟩
abbrev cX3_append : ByteArray := prog_5_method_4_code
def yX3_append : MethodName := ⟨RX3, "append", "(C)V"⟩
abbrev cX3_readInto : ByteArray := prog_5_method_5_code
def yX3_readInto : MethodName := ⟨RX3, "readInto", "(LLivedLinks$Links;)I"⟩
abbrev cX3_readLink : ByteArray := prog_5_method_6_code
def yX3_readLink : MethodName := ⟨RX3, "readLink", "(LLivedLinks$Links;)Z"⟩
abbrev cX3_refuseLastDigit : ByteArray := prog_5_method_7_code
def yX3_refuseLastDigit : MethodName := ⟨RX3, "refuseLastDigit", "()Z"⟩
abbrev cX3_readSign : ByteArray := prog_5_method_8_code
def yX3_readSign : MethodName := ⟨RX3, "readSign", "(C)Z"⟩
abbrev cX3_readNumber : ByteArray := prog_5_method_9_code
def yX3_readNumber : MethodName := ⟨RX3, "readNumber", "(I)I"⟩
abbrev cX3_digitAt : ByteArray := prog_5_method_10_code
def yX3_digitAt : MethodName := ⟨RX3, "digitAt", "(I)I"⟩
def RX4 : String := "LivedLinks$Links"
def TX4 : u_T := fun k => match k with
  | 0 => ("LivedLinks$Links", "one", "[I", true)
  | 1 => ("LivedLinks$Links", "other", "[I", true)
  | 2 => ("LivedLinks$Links", "from", "[I", true)
  | 3 => ("LivedLinks$Links", "to", "[I", true)
  | _ => ("LivedLinks$Links", "size", "I", false)
def tyX4 : Nat → FieldType := fun k => match k with
  | 0 => .array .int
  | 1 => .array .int
  | 2 => .array .int
  | 3 => .array .int
  | _ => .int
theorem nmX4 : ∀ a, a < 5 → ∀ b, b < 5 → a ≠ b → (TX4 a).2.1 ≠ (TX4 b).2.1 := by decide +kernel
theorem tyX4_ok : ∀ k, k < 5 → parseFieldDescriptor (TX4 k).2.2.1 = some (tyX4 k) := by decide +kernel
abbrev cX4_init : ByteArray := prog_6_method_1_code
def yX4_init : MethodName := ⟨RX4, "<init>", "()V"⟩
abbrev cX4_size : ByteArray := prog_6_method_2_code
def yX4_size : MethodName := ⟨RX4, "size", "()I"⟩
abbrev cX4_room : ByteArray := prog_6_method_3_code
def yX4_room : MethodName := ⟨RX4, "room", "()I"⟩
abbrev cX4_has : ByteArray := prog_6_method_4_code
def yX4_has : MethodName := ⟨RX4, "has", "(I)Z"⟩
abbrev cX4_oneOf : ByteArray := prog_6_method_5_code
def yX4_oneOf : MethodName := ⟨RX4, "oneOf", "(I)I"⟩
abbrev cX4_otherOf : ByteArray := prog_6_method_6_code
def yX4_otherOf : MethodName := ⟨RX4, "otherOf", "(I)I"⟩
abbrev cX4_fromOf : ByteArray := prog_6_method_7_code
def yX4_fromOf : MethodName := ⟨RX4, "fromOf", "(I)I"⟩
abbrev cX4_toOf : ByteArray := prog_6_method_8_code
def yX4_toOf : MethodName := ⟨RX4, "toOf", "(I)I"⟩
abbrev cX4_livesAt : ByteArray := prog_6_method_9_code
def yX4_livesAt : MethodName := ⟨RX4, "livesAt", "(II)Z"⟩
abbrev cX4_livingAt : ByteArray := prog_6_method_10_code
def yX4_livingAt : MethodName := ⟨RX4, "livingAt", "(I)I"⟩
abbrev cX4_coversAll : ByteArray := prog_6_method_11_code
def yX4_coversAll : MethodName := ⟨RX4, "coversAll", "(III)Z"⟩
abbrev cX4_isLaidAt : ByteArray := prog_6_method_12_code
def yX4_isLaidAt : MethodName := ⟨RX4, "isLaidAt", "(III)Z"⟩
abbrev cX4_spansOf : ByteArray := prog_6_method_13_code
def yX4_spansOf : MethodName := ⟨RX4, "spansOf", "(I)I"⟩
abbrev cX4_empty : ByteArray := prog_6_method_14_code
def yX4_empty : MethodName := ⟨RX4, "empty", "()V"⟩
abbrev cX4_add : ByteArray := prog_6_method_15_code
def yX4_add : MethodName := ⟨RX4, "add", "(IIII)V"⟩
abbrev cX4_addAll : ByteArray := prog_6_method_16_code
def yX4_addAll : MethodName := ⟨RX4, "addAll", "(LLivedLinks$Links;)V"⟩
abbrev cX4_take : ByteArray := prog_6_method_17_code
def yX4_take : MethodName := ⟨RX4, "take", "(LLivedLinks$Links;)V"⟩
abbrev cX4_live : ByteArray := prog_6_method_18_code
def yX4_live : MethodName := ⟨RX4, "live", "(III)V"⟩
abbrev cX4_removeAt : ByteArray := prog_6_method_19_code
def yX4_removeAt : MethodName := ⟨RX4, "removeAt", "(I)V"⟩
abbrev cX4_removeLivingAt : ByteArray := prog_6_method_20_code
def yX4_removeLivingAt : MethodName := ⟨RX4, "removeLivingAt", "(I)V"⟩
def RX8 : String := "LivedLinks$MomentRows"
def TX8 : u_T := fun k => match k with
  | 0 => ("LivedLinks$MomentRows", "many", "I", false)
  | 1 => ("LivedLinks$MomentRows", "first", "I", false)
  | 2 => ("LivedLinks$MomentRows", "last", "I", false)
  | 3 => ("LivedLinks$MomentRows", "row", "I", false)
  | 4 => ("LivedLinks$MomentRows", "longest", "I", false)
  | _ => ("LivedLinks$MomentRows", "longestBegin", "I", false)
def tyX8 : Nat → FieldType := fun k => match k with
  | 0 => .int
  | 1 => .int
  | 2 => .int
  | 3 => .int
  | 4 => .int
  | _ => .int
theorem nmX8 : ∀ a, a < 6 → ∀ b, b < 6 → a ≠ b → (TX8 a).2.1 ≠ (TX8 b).2.1 := by decide +kernel
theorem tyX8_ok : ∀ k, k < 6 → parseFieldDescriptor (TX8 k).2.2.1 = some (tyX8 k) := by decide +kernel
abbrev cX8_init : ByteArray := prog_7_method_1_code
def yX8_init : MethodName := ⟨RX8, "<init>", "()V"⟩
abbrev cX8_many : ByteArray := prog_7_method_2_code
def yX8_many : MethodName := ⟨RX8, "many", "()I"⟩
abbrev cX8_first : ByteArray := prog_7_method_3_code
def yX8_first : MethodName := ⟨RX8, "first", "()I"⟩
abbrev cX8_last : ByteArray := prog_7_method_4_code
def yX8_last : MethodName := ⟨RX8, "last", "()I"⟩
abbrev cX8_longest : ByteArray := prog_7_method_5_code
def yX8_longest : MethodName := ⟨RX8, "longest", "()I"⟩
abbrev cX8_longestBegin : ByteArray := prog_7_method_6_code
def yX8_longestBegin : MethodName := ⟨RX8, "longestBegin", "()I"⟩
abbrev cX8_empty : ByteArray := prog_7_method_7_code
def yX8_empty : MethodName := ⟨RX8, "empty", "()V"⟩
abbrev cX8_add : ByteArray := prog_7_method_8_code
def yX8_add : MethodName := ⟨RX8, "add", "(I)V"⟩
def RX5 : String := "LivedLinks$Moments"
def TX5 : u_T := fun k => match k with
  | 0 => ("LivedLinks$Moments", "points", "LLivedLinks$Joinings;", true)
  | _ => ("LivedLinks$Moments", "sides", "LLivedLinks$Joinings;", true)
def tyX5 : Nat → FieldType := fun k => match k with
  | 0 => .object "LivedLinks$Joinings"
  | _ => .object "LivedLinks$Joinings"
theorem nmX5 : ∀ a, a < 2 → ∀ b, b < 2 → a ≠ b → (TX5 a).2.1 ≠ (TX5 b).2.1 := by decide +kernel
theorem tyX5_ok : ∀ k, k < 2 → parseFieldDescriptor (TX5 k).2.2.1 = some (tyX5 k) := by decide +kernel
abbrev cX5_init : ByteArray := prog_8_method_1_code
def yX5_init : MethodName := ⟨RX5, "<init>", "()V"⟩
abbrev cX5_joinWithout : ByteArray := prog_8_method_2_code
def yX5_joinWithout : MethodName := ⟨RX5, "joinWithout", "(LLivedLinks$Links;II)V"⟩
abbrev cX5_areJoinedAt : ByteArray := prog_8_method_3_code
def yX5_areJoinedAt : MethodName := ⟨RX5, "areJoinedAt", "(LLivedLinks$Links;III)Z"⟩
abbrev cX5_partsAt : ByteArray := prog_8_method_4_code
def yX5_partsAt : MethodName := ⟨RX5, "partsAt", "(LLivedLinks$Links;I)I"⟩
abbrev cX5_lowestOfPartAt : ByteArray := prog_8_method_5_code
def yX5_lowestOfPartAt : MethodName := ⟨RX5, "lowestOfPartAt", "(LLivedLinks$Links;II)I"⟩
abbrev cX5_partSizeAt : ByteArray := prog_8_method_6_code
def yX5_partSizeAt : MethodName := ⟨RX5, "partSizeAt", "(LLivedLinks$Links;II)I"⟩
abbrev cX5_partBitsAt : ByteArray := prog_8_method_7_code
def yX5_partBitsAt : MethodName := ⟨RX5, "partBitsAt", "(LLivedLinks$Links;II)I"⟩
abbrev cX5_greatestPartAt : ByteArray := prog_8_method_8_code
def yX5_greatestPartAt : MethodName := ⟨RX5, "greatestPartAt", "(LLivedLinks$Links;I)I"⟩
abbrev cX5_linklessPointsAt : ByteArray := prog_8_method_9_code
def yX5_linklessPointsAt : MethodName := ⟨RX5, "linklessPointsAt", "(LLivedLinks$Links;I)I"⟩
abbrev cX5_isNeededAt : ByteArray := prog_8_method_10_code
def yX5_isNeededAt : MethodName := ⟨RX5, "isNeededAt", "(LLivedLinks$Links;II)Z"⟩
abbrev cX5_neededLinksAt : ByteArray := prog_8_method_11_code
def yX5_neededLinksAt : MethodName := ⟨RX5, "neededLinksAt", "(LLivedLinks$Links;I)I"⟩
abbrev cX5_neededMomentsOf : ByteArray := prog_8_method_12_code
def yX5_neededMomentsOf : MethodName := ⟨RX5, "neededMomentsOf", "(LLivedLinks$Links;I)I"⟩
abbrev cX5_isOddAt : ByteArray := prog_8_method_13_code
def yX5_isOddAt : MethodName := ⟨RX5, "isOddAt", "(LLivedLinks$Links;I)Z"⟩
abbrev cX5_oddMoments : ByteArray := prog_8_method_14_code
def yX5_oddMoments : MethodName := ⟨RX5, "oddMoments", "(LLivedLinks$Links;)I"⟩
abbrev cX5_mostParts : ByteArray := prog_8_method_15_code
def yX5_mostParts : MethodName := ⟨RX5, "mostParts", "(LLivedLinks$Links;)I"⟩
abbrev cX5_fewestParts : ByteArray := prog_8_method_16_code
def yX5_fewestParts : MethodName := ⟨RX5, "fewestParts", "(LLivedLinks$Links;)I"⟩
def RX6 : String := "LivedLinks"
def TX6 : u_T := fun k => match k with
  | 0 => ("LivedLinks", "links", "LLivedLinks$Links;", true)
  | 1 => ("LivedLinks", "snapshot", "LLivedLinks$Links;", true)
  | 2 => ("LivedLinks", "hasSnapshot", "Z", false)
  | 3 => ("LivedLinks", "history", "LLivedLinks$History;", true)
  | 4 => ("LivedLinks", "text", "LLivedLinks$LinkText;", true)
  | 5 => ("LivedLinks", "found", "LLivedLinks$Links;", true)
  | 6 => ("LivedLinks", "moments", "LLivedLinks$Moments;", true)
  | 7 => ("LivedLinks", "joinedMoments", "LLivedLinks$MomentRows;", true)
  | _ => ("LivedLinks", "way", "LLivedLinks$HalvesWay;", true)
def tyX6 : Nat → FieldType := fun k => match k with
  | 0 => .object "LivedLinks$Links"
  | 1 => .object "LivedLinks$Links"
  | 2 => .boolean
  | 3 => .object "LivedLinks$History"
  | 4 => .object "LivedLinks$LinkText"
  | 5 => .object "LivedLinks$Links"
  | 6 => .object "LivedLinks$Moments"
  | 7 => .object "LivedLinks$MomentRows"
  | _ => .object "LivedLinks$HalvesWay"
theorem nmX6 : ∀ a, a < 9 → ∀ b, b < 9 → a ≠ b → (TX6 a).2.1 ≠ (TX6 b).2.1 := by decide +kernel
theorem tyX6_ok : ∀ k, k < 9 → parseFieldDescriptor (TX6 k).2.2.1 = some (tyX6 k) := by decide +kernel
abbrev cX6_init : ByteArray := prog_1_method_1_code
def yX6_init : MethodName := ⟨RX6, "<init>", "()V"⟩
abbrev cX6_addLink : ByteArray := prog_1_method_2_code
def yX6_addLink : MethodName := ⟨RX6, "addLink", "(IIII)I"⟩
abbrev cX6_removeLink : ByteArray := prog_1_method_3_code
def yX6_removeLink : MethodName := ⟨RX6, "removeLink", "(I)I"⟩
abbrev cX6_setLife : ByteArray := prog_1_method_4_code
def yX6_setLife : MethodName := ⟨RX6, "setLife", "(III)I"⟩
abbrev cX6_cut : ByteArray := prog_1_method_5_code
def yX6_cut : MethodName := ⟨RX6, "cut", "(II)I"⟩
abbrev cX6_readLinks : ByteArray := prog_1_method_6_code
def yX6_readLinks : MethodName := ⟨RX6, "readLinks", "()I"⟩
abbrev cX6_clear : ByteArray := prog_1_method_7_code
def yX6_clear : MethodName := ⟨RX6, "clear", "(I)I"⟩
abbrev cX6_type : ByteArray := prog_1_method_8_code
def yX6_type : MethodName := ⟨RX6, "type", "(C)I"⟩
abbrev cX6_clearText : ByteArray := prog_1_method_9_code
def yX6_clearText : MethodName := ⟨RX6, "clearText", "()I"⟩
abbrev cX6_undo : ByteArray := prog_1_method_10_code
def yX6_undo : MethodName := ⟨RX6, "undo", "()I"⟩
abbrev cX6_keep : ByteArray := prog_1_method_11_code
def yX6_keep : MethodName := ⟨RX6, "keep", "()I"⟩
abbrev cX6_restore : ByteArray := prog_1_method_12_code
def yX6_restore : MethodName := ⟨RX6, "restore", "()I"⟩
abbrev cX6_link : ByteArray := prog_1_method_13_code
def yX6_link : MethodName := ⟨RX6, "link", "(II)I"⟩
abbrev cX6_joined : ByteArray := prog_1_method_14_code
def yX6_joined : MethodName := ⟨RX6, "joined", "(III)I"⟩
abbrev cX6_moment : ByteArray := prog_1_method_15_code
def yX6_moment : MethodName := ⟨RX6, "moment", "(II)I"⟩
abbrev cX6_part : ByteArray := prog_1_method_16_code
def yX6_part : MethodName := ⟨RX6, "part", "(III)I"⟩
abbrev cX6_needed : ByteArray := prog_1_method_17_code
def yX6_needed : MethodName := ⟨RX6, "needed", "(II)I"⟩
abbrev cX6_together : ByteArray := prog_1_method_18_code
def yX6_together : MethodName := ⟨RX6, "together", "(III)I"⟩
abbrev cX6_odd : ByteArray := prog_1_method_19_code
def yX6_odd : MethodName := ⟨RX6, "odd", "(I)I"⟩
abbrev cX6_span : ByteArray := prog_1_method_20_code
def yX6_span : MethodName := ⟨RX6, "span", "(III)I"⟩
abbrev cX6_count : ByteArray := prog_1_method_21_code
def yX6_count : MethodName := ⟨RX6, "count", "(I)I"⟩
abbrev cX6_countOnWay : ByteArray := prog_1_method_22_code
def yX6_countOnWay : MethodName := ⟨RX6, "countOnWay", "(I)I"⟩
abbrev cX6_asNumber : ByteArray := prog_1_method_23_code
def yX6_asNumber : MethodName := ⟨RX6, "asNumber", "(Z)I"⟩
abbrev cX6_isPoint : ByteArray := prog_1_method_24_code
def yX6_isPoint : MethodName := ⟨RX6, "isPoint", "(I)Z"⟩
abbrev cX6_isMoment : ByteArray := prog_1_method_25_code
def yX6_isMoment : MethodName := ⟨RX6, "isMoment", "(I)Z"⟩
abbrev cX6_isLife : ByteArray := prog_1_method_26_code
def yX6_isLife : MethodName := ⟨RX6, "isLife", "(II)Z"⟩
abbrev cX6_spanLength : ByteArray := prog_1_method_27_code
def yX6_spanLength : MethodName := ⟨RX6, "spanLength", "(I)I"⟩
abbrev cX6_spanBegin : ByteArray := prog_1_method_28_code
def yX6_spanBegin : MethodName := ⟨RX6, "spanBegin", "(II)I"⟩
def RX7 : String := "LivedLinksModel"
def TX7 : u_T := fun k => match k with
  | 0 => ("LivedLinksModel", "all", "[I", true)
  | 1 => ("LivedLinksModel", "kept", "[I", true)
  | 2 => ("LivedLinksModel", "history", "[I", true)
  | 3 => ("LivedLinksModel", "historyLong", "I", false)
  | 4 => ("LivedLinksModel", "snapshot", "[I", true)
  | 5 => ("LivedLinksModel", "isTaken", "I", false)
  | 6 => ("LivedLinksModel", "text", "[I", true)
  | 7 => ("LivedLinksModel", "textLong", "I", false)
  | 8 => ("LivedLinksModel", "spot", "I", false)
  | 9 => ("LivedLinksModel", "number", "I", false)
  | 10 => ("LivedLinksModel", "read", "[I", true)
  | _ => ("LivedLinksModel", "readMany", "I", false)
def tyX7 : Nat → FieldType := fun k => match k with
  | 0 => .array .int
  | 1 => .array .int
  | 2 => .array .int
  | 3 => .int
  | 4 => .array .int
  | 5 => .int
  | 6 => .array .int
  | 7 => .int
  | 8 => .int
  | 9 => .int
  | 10 => .array .int
  | _ => .int
theorem nmX7 : ∀ a, a < 12 → ∀ b, b < 12 → a ≠ b → (TX7 a).2.1 ≠ (TX7 b).2.1 := by decide +kernel
theorem tyX7_ok : ∀ k, k < 12 → parseFieldDescriptor (TX7 k).2.2.1 = some (tyX7 k) := by decide +kernel
abbrev cX7_init : ByteArray := prog_10_method_1_code
def yX7_init : MethodName := ⟨RX7, "<init>", "()V"⟩
abbrev cX7_in : ByteArray := prog_10_method_3_code
def yX7_in : MethodName := ⟨RX7, "in", "(JJJ)Z"⟩
abbrev cX7_remember : ByteArray := prog_10_method_4_code
def yX7_remember : MethodName := ⟨RX7, "remember", "()V"⟩
abbrev cX7_acted : ByteArray := prog_10_method_5_code
def yX7_acted : MethodName := ⟨RX7, "acted", "(I)I"⟩
abbrev cX7_isPoint : ByteArray := prog_10_method_6_code
def yX7_isPoint : MethodName := ⟨RX7, "isPoint", "(I)Z"⟩
abbrev cX7_isMoment : ByteArray := prog_10_method_7_code
def yX7_isMoment : MethodName := ⟨RX7, "isMoment", "(I)Z"⟩
abbrev cX7_isLife : ByteArray := prog_10_method_8_code
def yX7_isLife : MethodName := ⟨RX7, "isLife", "(II)Z"⟩
abbrev cX7_isLink : ByteArray := prog_10_method_9_code
def yX7_isLink : MethodName := ⟨RX7, "isLink", "(I)Z"⟩
abbrev cX7_lives : ByteArray := prog_10_method_10_code
def yX7_lives : MethodName := ⟨RX7, "lives", "(III)Z"⟩
abbrev cX7_livesAt : ByteArray := prog_10_method_11_code
def yX7_livesAt : MethodName := ⟨RX7, "livesAt", "(II)Z"⟩
abbrev cX7_bits : ByteArray := prog_10_method_12_code
def yX7_bits : MethodName := ⟨RX7, "bits", "(J)I"⟩
abbrev cX7_livingAt : ByteArray := prog_10_method_13_code
def yX7_livingAt : MethodName := ⟨RX7, "livingAt", "(I)J"⟩
abbrev cX7_reach : ByteArray := prog_10_method_14_code
def yX7_reach : MethodName := ⟨RX7, "reach", "(JI)I"⟩
abbrev cX7_join : ByteArray := prog_10_method_15_code
def yX7_join : MethodName := ⟨RX7, "join", "(JII)Z"⟩
abbrev cX7_parts : ByteArray := prog_10_method_16_code
def yX7_parts : MethodName := ⟨RX7, "parts", "(J)I"⟩
abbrev cX7_isNeeded : ByteArray := prog_10_method_17_code
def yX7_isNeeded : MethodName := ⟨RX7, "isNeeded", "(JI)Z"⟩
abbrev cX7_isOdd : ByteArray := prog_10_method_18_code
def yX7_isOdd : MethodName := ⟨RX7, "isOdd", "(J)Z"⟩
abbrev cX7_spanLong : ByteArray := prog_10_method_19_code
def yX7_spanLong : MethodName := ⟨RX7, "spanLong", "(I)I"⟩
abbrev cX7_begin : ByteArray := prog_10_method_20_code
def yX7_begin : MethodName := ⟨RX7, "begin", "(II)I"⟩
abbrev cX7_covers : ByteArray := prog_10_method_21_code
def yX7_covers : MethodName := ⟨RX7, "covers", "(III)Z"⟩
abbrev cX7_laidAt : ByteArray := prog_10_method_22_code
def yX7_laidAt : MethodName := ⟨RX7, "laidAt", "(II)J"⟩
abbrev cX7_livingAll : ByteArray := prog_10_method_23_code
def yX7_livingAll : MethodName := ⟨RX7, "livingAll", "(II)J"⟩
abbrev cX7_madeAt : ByteArray := prog_10_method_24_code
def yX7_madeAt : MethodName := ⟨RX7, "madeAt", "(II)I"⟩
abbrev cX7_spansOf : ByteArray := prog_10_method_25_code
def yX7_spansOf : MethodName := ⟨RX7, "spansOf", "(I)I"⟩
abbrev cX7_adds : ByteArray := prog_10_method_26_code
def yX7_adds : MethodName := ⟨RX7, "adds", "(IIII)V"⟩
abbrev cX7_addLink : ByteArray := prog_10_method_27_code
def yX7_addLink : MethodName := ⟨RX7, "addLink", "(IIII)I"⟩
abbrev cX7_takesOut : ByteArray := prog_10_method_28_code
def yX7_takesOut : MethodName := ⟨RX7, "takesOut", "(I)V"⟩
abbrev cX7_removeLink : ByteArray := prog_10_method_29_code
def yX7_removeLink : MethodName := ⟨RX7, "removeLink", "(I)I"⟩
abbrev cX7_setLife : ByteArray := prog_10_method_30_code
def yX7_setLife : MethodName := ⟨RX7, "setLife", "(III)I"⟩
abbrev cX7_cut : ByteArray := prog_10_method_31_code
def yX7_cut : MethodName := ⟨RX7, "cut", "(II)I"⟩
abbrev cX7_clear : ByteArray := prog_10_method_32_code
def yX7_clear : MethodName := ⟨RX7, "clear", "(I)I"⟩
abbrev cX7_type : ByteArray := prog_10_method_33_code
def yX7_type : MethodName := ⟨RX7, "type", "(C)I"⟩
abbrev cX7_clearText : ByteArray := prog_10_method_34_code
def yX7_clearText : MethodName := ⟨RX7, "clearText", "()I"⟩
abbrev cX7_isHere : ByteArray := prog_10_method_35_code
def yX7_isHere : MethodName := ⟨RX7, "isHere", "(II)Z"⟩
abbrev cX7_takes : ByteArray := prog_10_method_36_code
def yX7_takes : MethodName := ⟨RX7, "takes", "(I)Z"⟩
abbrev cX7_readsNumber : ByteArray := prog_10_method_37_code
def yX7_readsNumber : MethodName := ⟨RX7, "readsNumber", "(I)Z"⟩
abbrev cX7_isTold : ByteArray := prog_10_method_38_code
def yX7_isTold : MethodName := ⟨RX7, "isTold", "(Z)Z"⟩
abbrev cX7_readsLink : ByteArray := prog_10_method_39_code
def yX7_readsLink : MethodName := ⟨RX7, "readsLink", "()Z"⟩
abbrev cX7_fault : ByteArray := prog_10_method_40_code
def yX7_fault : MethodName := ⟨RX7, "fault", "()I"⟩
abbrev cX7_readLinks : ByteArray := prog_10_method_41_code
def yX7_readLinks : MethodName := ⟨RX7, "readLinks", "()I"⟩
abbrev cX7_undo : ByteArray := prog_10_method_42_code
def yX7_undo : MethodName := ⟨RX7, "undo", "()I"⟩
abbrev cX7_keep : ByteArray := prog_10_method_43_code
def yX7_keep : MethodName := ⟨RX7, "keep", "()I"⟩
abbrev cX7_restore : ByteArray := prog_10_method_44_code
def yX7_restore : MethodName := ⟨RX7, "restore", "()I"⟩
abbrev cX7_momentsNeeded : ByteArray := prog_10_method_45_code
def yX7_momentsNeeded : MethodName := ⟨RX7, "momentsNeeded", "(I)I"⟩
abbrev cX7_link : ByteArray := prog_10_method_46_code
def yX7_link : MethodName := ⟨RX7, "link", "(II)I"⟩
abbrev cX7_joined : ByteArray := prog_10_method_47_code
def yX7_joined : MethodName := ⟨RX7, "joined", "(III)I"⟩
abbrev cX7_greatestPart : ByteArray := prog_10_method_48_code
def yX7_greatestPart : MethodName := ⟨RX7, "greatestPart", "(J)I"⟩
abbrev cX7_neededAt : ByteArray := prog_10_method_49_code
def yX7_neededAt : MethodName := ⟨RX7, "neededAt", "(J)I"⟩
abbrev cX7_alone : ByteArray := prog_10_method_50_code
def yX7_alone : MethodName := ⟨RX7, "alone", "(J)I"⟩
abbrev cX7_moment : ByteArray := prog_10_method_51_code
def yX7_moment : MethodName := ⟨RX7, "moment", "(II)I"⟩
abbrev cX7_part : ByteArray := prog_10_method_52_code
def yX7_part : MethodName := ⟨RX7, "part", "(III)I"⟩
abbrev cX7_needed : ByteArray := prog_10_method_53_code
def yX7_needed : MethodName := ⟨RX7, "needed", "(II)I"⟩
abbrev cX7_together : ByteArray := prog_10_method_54_code
def yX7_together : MethodName := ⟨RX7, "together", "(III)I"⟩
abbrev cX7_odd : ByteArray := prog_10_method_55_code
def yX7_odd : MethodName := ⟨RX7, "odd", "(I)I"⟩
abbrev cX7_span : ByteArray := prog_10_method_56_code
def yX7_span : MethodName := ⟨RX7, "span", "(III)I"⟩
abbrev cX7_ofSpans : ByteArray := prog_10_method_57_code
def yX7_ofSpans : MethodName := ⟨RX7, "ofSpans", "(I)I"⟩
abbrev cX7_ofMoments : ByteArray := prog_10_method_58_code
def yX7_ofMoments : MethodName := ⟨RX7, "ofMoments", "(I)I"⟩
abbrev cX7_count : ByteArray := prog_10_method_59_code
def yX7_count : MethodName := ⟨RX7, "count", "(I)I"⟩
def RJ9 : String := "java/lang/Math"
def TJ9 : u_T := fun k => match k with
  | _ => ("", "", "", false)
def tyJ9 : Nat → FieldType := fun k => match k with
  | _ => .int
theorem nmJ9 : ∀ a, a < 0 → ∀ b, b < 0 → a ≠ b → (TJ9 a).2.1 ≠ (TJ9 b).2.1 := by decide +kernel
theorem tyJ9_ok : ∀ k, k < 0 → parseFieldDescriptor (TJ9 k).2.2.1 = some (tyJ9 k) := by decide +kernel
abbrev cJ9_max_7cf53 : ByteArray := prog_11_method_65_code
def yJ9_max_7cf53 : MethodName := ⟨RJ9, "max", "(II)I"⟩
abbrev cJ9_min_7cf53 : ByteArray := prog_11_method_69_code
def yJ9_min_7cf53 : MethodName := ⟨RJ9, "min", "(II)I"⟩
def RL : String := "LivedLinksLaw"
abbrev cL_law : ByteArray := code
def yL_law : MethodName := ⟨RL, "law", "([I)Z"⟩
def R_law : String := "LivedLinksLaw"
def lw_gd : List Cond := lw_tbl.filter goodWord
abbrev classes : List vw_C := [(RX0, TX0, 7), (RX1, TX1, 2), (RX2, TX2, 4), (RX3, TX3, 3), (RX4, TX4, 5), (RX5, TX5, 2), (RX6, TX6, 9), (RX7, TX7, 12), (RX8, TX8, 6)]
def lw_nest : List (String × Nat × MethodName × String) := [(RX6, 9, yX4_init, RX6), (RX1, 17, yX4_init, RX6), (RX6, 32, yX3_init, RX6), (RX6, 42, yX5_init, RX6), (RX6, 49, yX8_init, RX6), (RX6, 56, yX0_init, RX6), (RX4, 44, yX6_spanBegin, RX6), (RX4, 36, yX6_spanLength, RX6), (RX0, 40, yX6_spanBegin, RX6)]
