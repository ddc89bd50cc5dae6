section
-- ===== PART A: goes FIRST, ahead of the names: the tables' words, and 'selects' of the private methods out of them =====
/-- a private method of a class that the tables say can be made, by its rows of tables_1 -/
def lw_okq (q : MethodName × Nat) : Prop := (q.1.cls ≠ "java/lang/invoke/MethodHandle" ∧ q.1.cls ≠ "java/lang/invoke/VarHandle") ∧ Cond.instantiable q.1.cls q.2 ∈ tables_1 ∧ Cond.privateMethod q.1 ∈ tables_1 ∧ Cond.instanceMethod q.1 ∈ tables_1
theorem lw_p0 : lw_okq (⟨"LivedLinks$History", "dropOldest", "()V"⟩, 2) := ⟨⟨by decide +kernel, by decide +kernel⟩, List.mem_of_getElem? (i := 42) (by decide +kernel), List.mem_of_getElem? (i := 186) (by decide +kernel), List.mem_of_getElem? (i := 187) (by decide +kernel)⟩
theorem lw_p1 : lw_okq (⟨"LivedLinks$LinkText", "readLink", "(LLivedLinks$Links;)Z"⟩, 3) := ⟨⟨by decide +kernel, by decide +kernel⟩, List.mem_of_getElem? (i := 58) (by decide +kernel), List.mem_of_getElem? (i := 266) (by decide +kernel), List.mem_of_getElem? (i := 267) (by decide +kernel)⟩
theorem lw_p2 : lw_okq (⟨"LivedLinks$LinkText", "readNumber", "(I)I"⟩, 3) := ⟨⟨by decide +kernel, by decide +kernel⟩, List.mem_of_getElem? (i := 58) (by decide +kernel), List.mem_of_getElem? (i := 270) (by decide +kernel), List.mem_of_getElem? (i := 271) (by decide +kernel)⟩
theorem lw_p3 : lw_okq (⟨"LivedLinks$LinkText", "digitAt", "(I)I"⟩, 3) := ⟨⟨by decide +kernel, by decide +kernel⟩, List.mem_of_getElem? (i := 58) (by decide +kernel), List.mem_of_getElem? (i := 274) (by decide +kernel), List.mem_of_getElem? (i := 275) (by decide +kernel)⟩
theorem lw_p4 : lw_okq (⟨"LivedLinks$LinkText", "readSign", "(C)Z"⟩, 3) := ⟨⟨by decide +kernel, by decide +kernel⟩, List.mem_of_getElem? (i := 58) (by decide +kernel), List.mem_of_getElem? (i := 278) (by decide +kernel), List.mem_of_getElem? (i := 279) (by decide +kernel)⟩
theorem lw_p5 : lw_okq (⟨"LivedLinks$LinkText", "refuseLastDigit", "()Z"⟩, 3) := ⟨⟨by decide +kernel, by decide +kernel⟩, List.mem_of_getElem? (i := 58) (by decide +kernel), List.mem_of_getElem? (i := 282) (by decide +kernel), List.mem_of_getElem? (i := 283) (by decide +kernel)⟩
theorem lw_p6 : lw_okq (⟨"LivedLinks$Links", "coversAll", "(III)Z"⟩, 5) := ⟨⟨by decide +kernel, by decide +kernel⟩, List.mem_of_getElem? (i := 19) (by decide +kernel), List.mem_of_getElem? (i := 362) (by decide +kernel), List.mem_of_getElem? (i := 363) (by decide +kernel)⟩
theorem lw_p7 : lw_okq (⟨"LivedLinks$Moments", "joinWithout", "(LLivedLinks$Links;II)V"⟩, 2) := ⟨⟨by decide +kernel, by decide +kernel⟩, List.mem_of_getElem? (i := 75) (by decide +kernel), List.mem_of_getElem? (i := 375) (by decide +kernel), List.mem_of_getElem? (i := 376) (by decide +kernel)⟩
theorem lw_p8 : lw_okq (⟨"LivedLinks$Joinings", "takeOff", "(I)V"⟩, 4) := ⟨⟨by decide +kernel, by decide +kernel⟩, List.mem_of_getElem? (i := 81) (by decide +kernel), List.mem_of_getElem? (i := 383) (by decide +kernel), List.mem_of_getElem? (i := 384) (by decide +kernel)⟩
theorem lw_p9 : lw_okq (⟨"LivedLinks$Joinings", "has", "(I)Z"⟩, 4) := ⟨⟨by decide +kernel, by decide +kernel⟩, List.mem_of_getElem? (i := 81) (by decide +kernel), List.mem_of_getElem? (i := 387) (by decide +kernel), List.mem_of_getElem? (i := 388) (by decide +kernel)⟩
theorem lw_p10 : lw_okq (⟨"LivedLinks$Joinings", "topOf", "(I)I"⟩, 4) := ⟨⟨by decide +kernel, by decide +kernel⟩, List.mem_of_getElem? (i := 81) (by decide +kernel), List.mem_of_getElem? (i := 398) (by decide +kernel), List.mem_of_getElem? (i := 399) (by decide +kernel)⟩
theorem lw_p11 : lw_okq (⟨"LivedLinks$HalvesWay", "joinLaid", "(LLivedLinks$Links;II)V"⟩, 7) := ⟨⟨by decide +kernel, by decide +kernel⟩, List.mem_of_getElem? (i := 110) (by decide +kernel), List.mem_of_getElem? (i := 488) (by decide +kernel), List.mem_of_getElem? (i := 489) (by decide +kernel)⟩
theorem lw_p12 : lw_okq (⟨"LivedLinks", "countOnWay", "(I)I"⟩, 8) := ⟨⟨by decide +kernel, by decide +kernel⟩, List.mem_of_getElem? (i := 11) (by decide +kernel), List.mem_of_getElem? (i := 512) (by decide +kernel), List.mem_of_getElem? (i := 513) (by decide +kernel)⟩
theorem lw_p13 : lw_okq (⟨"LivedLinksModel", "remember", "()V"⟩, 12) := ⟨⟨by decide +kernel, by decide +kernel⟩, List.mem_of_getElem? (i := 550) (by decide +kernel), List.mem_of_getElem? (i := 612) (by decide +kernel), List.mem_of_getElem? (i := 613) (by decide +kernel)⟩
theorem lw_p14 : lw_okq (⟨"LivedLinksModel", "adds", "(IIII)V"⟩, 12) := ⟨⟨by decide +kernel, by decide +kernel⟩, List.mem_of_getElem? (i := 550) (by decide +kernel), List.mem_of_getElem? (i := 616) (by decide +kernel), List.mem_of_getElem? (i := 617) (by decide +kernel)⟩
theorem lw_p15 : lw_okq (⟨"LivedLinksModel", "acted", "(I)I"⟩, 12) := ⟨⟨by decide +kernel, by decide +kernel⟩, List.mem_of_getElem? (i := 550) (by decide +kernel), List.mem_of_getElem? (i := 620) (by decide +kernel), List.mem_of_getElem? (i := 621) (by decide +kernel)⟩
def lw_privs_1 : List (MethodName × Nat) := [(⟨"LivedLinks$History", "dropOldest", "()V"⟩, 2), (⟨"LivedLinks$LinkText", "readLink", "(LLivedLinks$Links;)Z"⟩, 3), (⟨"LivedLinks$LinkText", "readNumber", "(I)I"⟩, 3), (⟨"LivedLinks$LinkText", "digitAt", "(I)I"⟩, 3), (⟨"LivedLinks$LinkText", "readSign", "(C)Z"⟩, 3), (⟨"LivedLinks$LinkText", "refuseLastDigit", "()Z"⟩, 3), (⟨"LivedLinks$Links", "coversAll", "(III)Z"⟩, 5), (⟨"LivedLinks$Moments", "joinWithout", "(LLivedLinks$Links;II)V"⟩, 2), (⟨"LivedLinks$Joinings", "takeOff", "(I)V"⟩, 4), (⟨"LivedLinks$Joinings", "has", "(I)Z"⟩, 4), (⟨"LivedLinks$Joinings", "topOf", "(I)I"⟩, 4), (⟨"LivedLinks$HalvesWay", "joinLaid", "(LLivedLinks$Links;II)V"⟩, 7), (⟨"LivedLinks", "countOnWay", "(I)I"⟩, 8), (⟨"LivedLinksModel", "remember", "()V"⟩, 12), (⟨"LivedLinksModel", "adds", "(IIII)V"⟩, 12), (⟨"LivedLinksModel", "acted", "(I)I"⟩, 12)]
theorem lw_r1 : ∀ q ∈ lw_privs_1, lw_okq q := List.forall_mem_cons.mpr ⟨lw_p0, List.forall_mem_cons.mpr ⟨lw_p1, List.forall_mem_cons.mpr ⟨lw_p2, List.forall_mem_cons.mpr ⟨lw_p3, List.forall_mem_cons.mpr ⟨lw_p4, List.forall_mem_cons.mpr ⟨lw_p5, List.forall_mem_cons.mpr ⟨lw_p6, List.forall_mem_cons.mpr ⟨lw_p7, List.forall_mem_cons.mpr ⟨lw_p8, List.forall_mem_cons.mpr ⟨lw_p9, List.forall_mem_cons.mpr ⟨lw_p10, List.forall_mem_cons.mpr ⟨lw_p11, List.forall_mem_cons.mpr ⟨lw_p12, List.forall_mem_cons.mpr ⟨lw_p13, List.forall_mem_cons.mpr ⟨lw_p14, List.forall_mem_cons.mpr ⟨lw_p15, fun _ h => absurd h List.not_mem_nil⟩⟩⟩⟩⟩⟩⟩⟩⟩⟩⟩⟩⟩⟩⟩⟩
theorem lw_p16 : lw_okq (⟨"LivedLinksModel", "isLink", "(I)Z"⟩, 12) := ⟨⟨by decide +kernel, by decide +kernel⟩, List.mem_of_getElem? (i := 550) (by decide +kernel), List.mem_of_getElem? (i := 628) (by decide +kernel), List.mem_of_getElem? (i := 629) (by decide +kernel)⟩
theorem lw_p17 : lw_okq (⟨"LivedLinksModel", "takesOut", "(I)V"⟩, 12) := ⟨⟨by decide +kernel, by decide +kernel⟩, List.mem_of_getElem? (i := 550) (by decide +kernel), List.mem_of_getElem? (i := 632) (by decide +kernel), List.mem_of_getElem? (i := 633) (by decide +kernel)⟩
theorem lw_p18 : lw_okq (⟨"LivedLinksModel", "livesAt", "(II)Z"⟩, 12) := ⟨⟨by decide +kernel, by decide +kernel⟩, List.mem_of_getElem? (i := 550) (by decide +kernel), List.mem_of_getElem? (i := 644) (by decide +kernel), List.mem_of_getElem? (i := 645) (by decide +kernel)⟩
theorem lw_p19 : lw_okq (⟨"LivedLinksModel", "lives", "(III)Z"⟩, 12) := ⟨⟨by decide +kernel, by decide +kernel⟩, List.mem_of_getElem? (i := 550) (by decide +kernel), List.mem_of_getElem? (i := 648) (by decide +kernel), List.mem_of_getElem? (i := 649) (by decide +kernel)⟩
theorem lw_p20 : lw_okq (⟨"LivedLinksModel", "livingAt", "(I)J"⟩, 12) := ⟨⟨by decide +kernel, by decide +kernel⟩, List.mem_of_getElem? (i := 550) (by decide +kernel), List.mem_of_getElem? (i := 656) (by decide +kernel), List.mem_of_getElem? (i := 657) (by decide +kernel)⟩
theorem lw_p21 : lw_okq (⟨"LivedLinksModel", "fault", "()I"⟩, 12) := ⟨⟨by decide +kernel, by decide +kernel⟩, List.mem_of_getElem? (i := 550) (by decide +kernel), List.mem_of_getElem? (i := 675) (by decide +kernel), List.mem_of_getElem? (i := 676) (by decide +kernel)⟩
theorem lw_p22 : lw_okq (⟨"LivedLinksModel", "readsLink", "()Z"⟩, 12) := ⟨⟨by decide +kernel, by decide +kernel⟩, List.mem_of_getElem? (i := 550) (by decide +kernel), List.mem_of_getElem? (i := 679) (by decide +kernel), List.mem_of_getElem? (i := 680) (by decide +kernel)⟩
theorem lw_p23 : lw_okq (⟨"LivedLinksModel", "readsNumber", "(I)Z"⟩, 12) := ⟨⟨by decide +kernel, by decide +kernel⟩, List.mem_of_getElem? (i := 550) (by decide +kernel), List.mem_of_getElem? (i := 683) (by decide +kernel), List.mem_of_getElem? (i := 684) (by decide +kernel)⟩
theorem lw_p24 : lw_okq (⟨"LivedLinksModel", "isHere", "(II)Z"⟩, 12) := ⟨⟨by decide +kernel, by decide +kernel⟩, List.mem_of_getElem? (i := 550) (by decide +kernel), List.mem_of_getElem? (i := 687) (by decide +kernel), List.mem_of_getElem? (i := 688) (by decide +kernel)⟩
theorem lw_p25 : lw_okq (⟨"LivedLinksModel", "takes", "(I)Z"⟩, 12) := ⟨⟨by decide +kernel, by decide +kernel⟩, List.mem_of_getElem? (i := 550) (by decide +kernel), List.mem_of_getElem? (i := 691) (by decide +kernel), List.mem_of_getElem? (i := 692) (by decide +kernel)⟩
theorem lw_p26 : lw_okq (⟨"LivedLinksModel", "isTold", "(Z)Z"⟩, 12) := ⟨⟨by decide +kernel, by decide +kernel⟩, List.mem_of_getElem? (i := 550) (by decide +kernel), List.mem_of_getElem? (i := 695) (by decide +kernel), List.mem_of_getElem? (i := 696) (by decide +kernel)⟩
theorem lw_p27 : lw_okq (⟨"LivedLinksModel", "spansOf", "(I)I"⟩, 12) := ⟨⟨by decide +kernel, by decide +kernel⟩, List.mem_of_getElem? (i := 550) (by decide +kernel), List.mem_of_getElem? (i := 715) (by decide +kernel), List.mem_of_getElem? (i := 716) (by decide +kernel)⟩
theorem lw_p28 : lw_okq (⟨"LivedLinksModel", "covers", "(III)Z"⟩, 12) := ⟨⟨by decide +kernel, by decide +kernel⟩, List.mem_of_getElem? (i := 550) (by decide +kernel), List.mem_of_getElem? (i := 719) (by decide +kernel), List.mem_of_getElem? (i := 720) (by decide +kernel)⟩
theorem lw_p29 : lw_okq (⟨"LivedLinksModel", "momentsNeeded", "(I)I"⟩, 12) := ⟨⟨by decide +kernel, by decide +kernel⟩, List.mem_of_getElem? (i := 550) (by decide +kernel), List.mem_of_getElem? (i := 729) (by decide +kernel), List.mem_of_getElem? (i := 730) (by decide +kernel)⟩
theorem lw_p30 : lw_okq (⟨"LivedLinksModel", "isNeeded", "(JI)Z"⟩, 12) := ⟨⟨by decide +kernel, by decide +kernel⟩, List.mem_of_getElem? (i := 550) (by decide +kernel), List.mem_of_getElem? (i := 733) (by decide +kernel), List.mem_of_getElem? (i := 734) (by decide +kernel)⟩
theorem lw_p31 : lw_okq (⟨"LivedLinksModel", "join", "(JII)Z"⟩, 12) := ⟨⟨by decide +kernel, by decide +kernel⟩, List.mem_of_getElem? (i := 550) (by decide +kernel), List.mem_of_getElem? (i := 738) (by decide +kernel), List.mem_of_getElem? (i := 739) (by decide +kernel)⟩
def lw_privs_2 : List (MethodName × Nat) := [(⟨"LivedLinksModel", "isLink", "(I)Z"⟩, 12), (⟨"LivedLinksModel", "takesOut", "(I)V"⟩, 12), (⟨"LivedLinksModel", "livesAt", "(II)Z"⟩, 12), (⟨"LivedLinksModel", "lives", "(III)Z"⟩, 12), (⟨"LivedLinksModel", "livingAt", "(I)J"⟩, 12), (⟨"LivedLinksModel", "fault", "()I"⟩, 12), (⟨"LivedLinksModel", "readsLink", "()Z"⟩, 12), (⟨"LivedLinksModel", "readsNumber", "(I)Z"⟩, 12), (⟨"LivedLinksModel", "isHere", "(II)Z"⟩, 12), (⟨"LivedLinksModel", "takes", "(I)Z"⟩, 12), (⟨"LivedLinksModel", "isTold", "(Z)Z"⟩, 12), (⟨"LivedLinksModel", "spansOf", "(I)I"⟩, 12), (⟨"LivedLinksModel", "covers", "(III)Z"⟩, 12), (⟨"LivedLinksModel", "momentsNeeded", "(I)I"⟩, 12), (⟨"LivedLinksModel", "isNeeded", "(JI)Z"⟩, 12), (⟨"LivedLinksModel", "join", "(JII)Z"⟩, 12)]
theorem lw_r2 : ∀ q ∈ lw_privs_2, lw_okq q := List.forall_mem_cons.mpr ⟨lw_p16, List.forall_mem_cons.mpr ⟨lw_p17, List.forall_mem_cons.mpr ⟨lw_p18, List.forall_mem_cons.mpr ⟨lw_p19, List.forall_mem_cons.mpr ⟨lw_p20, List.forall_mem_cons.mpr ⟨lw_p21, List.forall_mem_cons.mpr ⟨lw_p22, List.forall_mem_cons.mpr ⟨lw_p23, List.forall_mem_cons.mpr ⟨lw_p24, List.forall_mem_cons.mpr ⟨lw_p25, List.forall_mem_cons.mpr ⟨lw_p26, List.forall_mem_cons.mpr ⟨lw_p27, List.forall_mem_cons.mpr ⟨lw_p28, List.forall_mem_cons.mpr ⟨lw_p29, List.forall_mem_cons.mpr ⟨lw_p30, List.forall_mem_cons.mpr ⟨lw_p31, fun _ h => absurd h List.not_mem_nil⟩⟩⟩⟩⟩⟩⟩⟩⟩⟩⟩⟩⟩⟩⟩⟩
theorem lw_p32 : lw_okq (⟨"LivedLinksModel", "reach", "(JI)I"⟩, 12) := ⟨⟨by decide +kernel, by decide +kernel⟩, List.mem_of_getElem? (i := 550) (by decide +kernel), List.mem_of_getElem? (i := 742) (by decide +kernel), List.mem_of_getElem? (i := 743) (by decide +kernel)⟩
theorem lw_p33 : lw_okq (⟨"LivedLinksModel", "parts", "(J)I"⟩, 12) := ⟨⟨by decide +kernel, by decide +kernel⟩, List.mem_of_getElem? (i := 550) (by decide +kernel), List.mem_of_getElem? (i := 754) (by decide +kernel), List.mem_of_getElem? (i := 755) (by decide +kernel)⟩
theorem lw_p34 : lw_okq (⟨"LivedLinksModel", "isOdd", "(J)Z"⟩, 12) := ⟨⟨by decide +kernel, by decide +kernel⟩, List.mem_of_getElem? (i := 550) (by decide +kernel), List.mem_of_getElem? (i := 758) (by decide +kernel), List.mem_of_getElem? (i := 759) (by decide +kernel)⟩
theorem lw_p35 : lw_okq (⟨"LivedLinksModel", "greatestPart", "(J)I"⟩, 12) := ⟨⟨by decide +kernel, by decide +kernel⟩, List.mem_of_getElem? (i := 550) (by decide +kernel), List.mem_of_getElem? (i := 762) (by decide +kernel), List.mem_of_getElem? (i := 763) (by decide +kernel)⟩
theorem lw_p36 : lw_okq (⟨"LivedLinksModel", "neededAt", "(J)I"⟩, 12) := ⟨⟨by decide +kernel, by decide +kernel⟩, List.mem_of_getElem? (i := 550) (by decide +kernel), List.mem_of_getElem? (i := 766) (by decide +kernel), List.mem_of_getElem? (i := 767) (by decide +kernel)⟩
theorem lw_p37 : lw_okq (⟨"LivedLinksModel", "alone", "(J)I"⟩, 12) := ⟨⟨by decide +kernel, by decide +kernel⟩, List.mem_of_getElem? (i := 550) (by decide +kernel), List.mem_of_getElem? (i := 770) (by decide +kernel), List.mem_of_getElem? (i := 771) (by decide +kernel)⟩
theorem lw_p38 : lw_okq (⟨"LivedLinksModel", "laidAt", "(II)J"⟩, 12) := ⟨⟨by decide +kernel, by decide +kernel⟩, List.mem_of_getElem? (i := 550) (by decide +kernel), List.mem_of_getElem? (i := 796) (by decide +kernel), List.mem_of_getElem? (i := 797) (by decide +kernel)⟩
theorem lw_p39 : lw_okq (⟨"LivedLinksModel", "madeAt", "(II)I"⟩, 12) := ⟨⟨by decide +kernel, by decide +kernel⟩, List.mem_of_getElem? (i := 550) (by decide +kernel), List.mem_of_getElem? (i := 800) (by decide +kernel), List.mem_of_getElem? (i := 801) (by decide +kernel)⟩
theorem lw_p40 : lw_okq (⟨"LivedLinksModel", "livingAll", "(II)J"⟩, 12) := ⟨⟨by decide +kernel, by decide +kernel⟩, List.mem_of_getElem? (i := 550) (by decide +kernel), List.mem_of_getElem? (i := 804) (by decide +kernel), List.mem_of_getElem? (i := 805) (by decide +kernel)⟩
theorem lw_p41 : lw_okq (⟨"LivedLinksModel", "ofSpans", "(I)I"⟩, 12) := ⟨⟨by decide +kernel, by decide +kernel⟩, List.mem_of_getElem? (i := 550) (by decide +kernel), List.mem_of_getElem? (i := 812) (by decide +kernel), List.mem_of_getElem? (i := 813) (by decide +kernel)⟩
theorem lw_p42 : lw_okq (⟨"LivedLinksModel", "ofMoments", "(I)I"⟩, 12) := ⟨⟨by decide +kernel, by decide +kernel⟩, List.mem_of_getElem? (i := 550) (by decide +kernel), List.mem_of_getElem? (i := 816) (by decide +kernel), List.mem_of_getElem? (i := 817) (by decide +kernel)⟩
def lw_privs_3 : List (MethodName × Nat) := [(⟨"LivedLinksModel", "reach", "(JI)I"⟩, 12), (⟨"LivedLinksModel", "parts", "(J)I"⟩, 12), (⟨"LivedLinksModel", "isOdd", "(J)Z"⟩, 12), (⟨"LivedLinksModel", "greatestPart", "(J)I"⟩, 12), (⟨"LivedLinksModel", "neededAt", "(J)I"⟩, 12), (⟨"LivedLinksModel", "alone", "(J)I"⟩, 12), (⟨"LivedLinksModel", "laidAt", "(II)J"⟩, 12), (⟨"LivedLinksModel", "madeAt", "(II)I"⟩, 12), (⟨"LivedLinksModel", "livingAll", "(II)J"⟩, 12), (⟨"LivedLinksModel", "ofSpans", "(I)I"⟩, 12), (⟨"LivedLinksModel", "ofMoments", "(I)I"⟩, 12)]
theorem lw_r3 : ∀ q ∈ lw_privs_3, lw_okq q := List.forall_mem_cons.mpr ⟨lw_p32, List.forall_mem_cons.mpr ⟨lw_p33, List.forall_mem_cons.mpr ⟨lw_p34, List.forall_mem_cons.mpr ⟨lw_p35, List.forall_mem_cons.mpr ⟨lw_p36, List.forall_mem_cons.mpr ⟨lw_p37, List.forall_mem_cons.mpr ⟨lw_p38, List.forall_mem_cons.mpr ⟨lw_p39, List.forall_mem_cons.mpr ⟨lw_p40, List.forall_mem_cons.mpr ⟨lw_p41, List.forall_mem_cons.mpr ⟨lw_p42, fun _ h => absurd h List.not_mem_nil⟩⟩⟩⟩⟩⟩⟩⟩⟩⟩⟩
def lw_privs : List (MethodName × Nat) := lw_privs_1 ++ (lw_privs_2 ++ (lw_privs_3))
def lw_tbl : List Cond := k2_sels lw_privs ++ tables_1
theorem lw_privs_ok : ∀ q ∈ lw_privs, lw_okq q := by
  show ∀ q ∈ lw_privs_1 ++ (lw_privs_2 ++ (lw_privs_3)), lw_okq q
  exact List.forall_mem_append.mpr ⟨lw_r1, List.forall_mem_append.mpr ⟨lw_r2, lw_r3⟩⟩
-- the names, as printed
def RX0 : String := "LivedLinks$HalvesWay"
def TX0 : u_T := fun k => match k with
  | 0 => ("LivedLinks$HalvesWay", "points", "LLivedLinks$Joinings;", true)
  | 1 => ("LivedLinks$HalvesWay", "standingAt", "[I", true)
  | 2 => ("LivedLinks$HalvesWay", "laidHere", "I", false)
  | 3 => ("LivedLinks$HalvesWay", "madeHere", "I", false)
  | 4 => ("LivedLinks$HalvesWay", "laidInAll", "I", false)
  | 5 => ("LivedLinks$HalvesWay", "madeInAll", "I", false)
  | _ => ("LivedLinks$HalvesWay", "mostStanding", "I", false)
def tyX0 : Nat → FieldType := fun k => match k with
  | 0 => .object "LivedLinks$Joinings"
  | 1 => .array .int
  | 2 => .int
  | 3 => .int
  | 4 => .int
  | 5 => .int
  | _ => .int
theorem nmX0 : ∀ a, a < 7 → ∀ b, b < 7 → a ≠ b → (TX0 a).2.1 ≠ (TX0 b).2.1 := by decide +kernel
theorem tyX0_ok : ∀ k, k < 7 → parseFieldDescriptor (TX0 k).2.2.1 = some (tyX0 k) := by decide +kernel
abbrev cX0_init : ByteArray := prog_2_method_1_code
def yX0_init : MethodName := ⟨RX0, "<init>", "()V"⟩
abbrev cX0_laidHere : ByteArray := prog_2_method_2_code
def yX0_laidHere : MethodName := ⟨RX0, "laidHere", "()I"⟩
abbrev cX0_madeHere : ByteArray := prog_2_method_3_code
def yX0_madeHere : MethodName := ⟨RX0, "madeHere", "()I"⟩
abbrev cX0_madeInAll : ByteArray := prog_2_method_4_code
def yX0_madeInAll : MethodName := ⟨RX0, "madeInAll", "()I"⟩
abbrev cX0_idleInAll : ByteArray := prog_2_method_5_code
def yX0_idleInAll : MethodName := ⟨RX0, "idleInAll", "()I"⟩
abbrev cX0_mostStanding : ByteArray := prog_2_method_6_code
def yX0_mostStanding : MethodName := ⟨RX0, "mostStanding", "()I"⟩
abbrev cX0_goAll : ByteArray := prog_2_method_7_code
def yX0_goAll : MethodName := ⟨RX0, "goAll", "(LLivedLinks$Links;)V"⟩
abbrev cX0_goTo : ByteArray := prog_2_method_8_code
def yX0_goTo : MethodName := ⟨RX0, "goTo", "(LLivedLinks$Links;II)V"⟩
abbrev cX0_joinLaid : ByteArray := prog_2_method_9_code
def yX0_joinLaid : MethodName := ⟨RX0, "joinLaid", "(LLivedLinks$Links;II)V"⟩
def RX1 : String := "LivedLinks$History"
def TX1 : u_T := fun k => match k with
  | 0 => ("LivedLinks$History", "states", "[LLivedLinks$Links;", true)
  | _ => ("LivedLinks$History", "size", "I", false)
def tyX1 : Nat → FieldType := fun k => match k with
  | 0 => .array (.object "LivedLinks$Links")
  | _ => .int
theorem nmX1 : ∀ a, a < 2 → ∀ b, b < 2 → a ≠ b → (TX1 a).2.1 ≠ (TX1 b).2.1 := by decide +kernel
theorem tyX1_ok : ∀ k, k < 2 → parseFieldDescriptor (TX1 k).2.2.1 = some (tyX1 k) := by decide +kernel
abbrev cX1_init : ByteArray := prog_3_method_1_code
def yX1_init : MethodName := ⟨RX1, "<init>", "()V"⟩
abbrev cX1_size : ByteArray := prog_3_method_2_code
def yX1_size : MethodName := ⟨RX1, "size", "()I"⟩
abbrev cX1_remember : ByteArray := prog_3_method_3_code
def yX1_remember : MethodName := ⟨RX1, "remember", "(LLivedLinks$Links;)V"⟩
abbrev cX1_dropOldest : ByteArray := prog_3_method_4_code
def yX1_dropOldest : MethodName := ⟨RX1, "dropOldest", "()V"⟩
abbrev cX1_goBack : ByteArray := prog_3_method_5_code
def yX1_goBack : MethodName := ⟨RX1, "goBack", "(LLivedLinks$Links;)V"⟩
def RX2 : String := "LivedLinks$Joinings"
def TX2 : u_T := fun k => match k with
  | 0 => ("LivedLinks$Joinings", "above", "[I", true)
  | 1 => ("LivedLinks$Joinings", "below", "[I", true)
  | 2 => ("LivedLinks$Joinings", "hung", "[I", true)
  | _ => ("LivedLinks$Joinings", "standing", "I", false)
def tyX2 : Nat → FieldType := fun k => match k with
  | 0 => .array .int
  | 1 => .array .int
  | 2 => .array .int
  | _ => .int
theorem nmX2 : ∀ a, a < 4 → ∀ b, b < 4 → a ≠ b → (TX2 a).2.1 ≠ (TX2 b).2.1 := by decide +kernel
theorem tyX2_ok : ∀ k, k < 4 → parseFieldDescriptor (TX2 k).2.2.1 = some (tyX2 k) := by decide +kernel
abbrev cX2_init : ByteArray := prog_4_method_1_code
def yX2_init : MethodName := ⟨RX2, "<init>", "(I)V"⟩
abbrev cX2_standing : ByteArray := prog_4_method_2_code
def yX2_standing : MethodName := ⟨RX2, "standing", "()I"⟩
abbrev cX2_has : ByteArray := prog_4_method_3_code
def yX2_has : MethodName := ⟨RX2, "has", "(I)Z"⟩
abbrev cX2_topOf : ByteArray := prog_4_method_4_code
def yX2_topOf : MethodName := ⟨RX2, "topOf", "(I)I"⟩
abbrev cX2_areJoined : ByteArray := prog_4_method_5_code
def yX2_areJoined : MethodName := ⟨RX2, "areJoined", "(II)Z"⟩
abbrev cX2_partSize : ByteArray := prog_4_method_6_code
def yX2_partSize : MethodName := ⟨RX2, "partSize", "(I)I"⟩
abbrev cX2_join : ByteArray := prog_4_method_7_code
def yX2_join : MethodName := ⟨RX2, "join", "(II)V"⟩
abbrev cX2_takeBackTo : ByteArray := prog_4_method_8_code
def yX2_takeBackTo : MethodName := ⟨RX2, "takeBackTo", "(I)V"⟩
abbrev cX2_takeOff : ByteArray := prog_4_method_9_code
def yX2_takeOff : MethodName := ⟨RX2, "takeOff", "(I)V"⟩
def RX3 : String := "LivedLinks$LinkText"
def TX3 : u_T := fun k => match k with
  | 0 => ("LivedLinks$LinkText", "characters", "[C", true)
  | 1 => ("LivedLinks$LinkText", "length", "I", false)
  | _ => ("LivedLinks$LinkText", "place", "I", false)
def tyX3 : Nat → FieldType := fun k => match k with
  | 0 => .array .char
  | 1 => .int
  | _ => .int
theorem nmX3 : ∀ a, a < 3 → ∀ b, b < 3 → a ≠ b → (TX3 a).2.1 ≠ (TX3 b).2.1 := by decide +kernel
theorem tyX3_ok : ∀ k, k < 3 → parseFieldDescriptor (TX3 k).2.2.1 = some (tyX3 k) := by decide +kernel
abbrev cX3_init : ByteArray := prog_5_method_1_code
def yX3_init : MethodName := ⟨RX3, "<init>", "()V"⟩
abbrev cX3_length : ByteArray := prog_5_method_2_code
def yX3_length : MethodName := ⟨RX3, "length", "()I"⟩
abbrev cX3_empty : ByteArray := prog_5_method_3_code
def yX3_empty : MethodName := ⟨RX3, "empty", "()V"⟩
abbrev cX3_append : ByteArray := prog_5_method_4_code
def yX3_append : MethodName := ⟨RX3, "append", "(C)V"⟩
abbrev cX3_readInto : ByteArray := prog_5_method_5_code
def yX3_readInto : MethodName := ⟨RX3, "readInto", "(LLivedLinks$Links;)I"⟩
abbrev cX3_readLink : ByteArray := prog_5_method_6_code
def yX3_readLink : MethodName := ⟨RX3, "readLink", "(LLivedLinks$Links;)Z"⟩
abbrev cX3_refuseLastDigit : ByteArray := prog_5_method_7_code
def yX3_refuseLastDigit : MethodName := ⟨RX3, "refuseLastDigit", "()Z"⟩
abbrev cX3_readSign : ByteArray := prog_5_method_8_code
def yX3_readSign : MethodName := ⟨RX3, "readSign", "(C)Z"⟩
abbrev cX3_readNumber : ByteArray := prog_5_method_9_code
def yX3_readNumber : MethodName := ⟨RX3, "readNumber", "(I)I"⟩
abbrev cX3_digitAt : ByteArray := prog_5_method_10_code
def yX3_digitAt : MethodName := ⟨RX3, "digitAt", "(I)I"⟩
def RX4 : String := "LivedLinks$Links"
def TX4 : u_T := fun k => match k with
  | 0 => ("LivedLinks$Links", "one", "[I", true)
  | 1 => ("LivedLinks$Links", "other", "[I", true)
  | 2 => ("LivedLinks$Links", "from", "[I", true)
  | 3 => ("LivedLinks$Links", "to", "[I", true)
  | _ => ("LivedLinks$Links", "size", "I", false)
def tyX4 : Nat → FieldType := fun k => match k with
  | 0 => .array .int
  | 1 => .array .int
  | 2 => .array .int
  | 3 => .array .int
  | _ => .int
theorem nmX4 : ∀ a, a < 5 → ∀ b, b < 5 → a ≠ b → (TX4 a).2.1 ≠ (TX4 b).2.1 := by decide +kernel
theorem tyX4_ok : ∀ k, k < 5 → parseFieldDescriptor (TX4 k).2.2.1 = some (tyX4 k) := by decide +kernel
abbrev cX4_init : ByteArray := prog_6_method_1_code
def yX4_init : MethodName := ⟨RX4, "<init>", "()V"⟩
abbrev cX4_size : ByteArray := prog_6_method_2_code
def yX4_size : MethodName := ⟨RX4, "size", "()I"⟩
abbrev cX4_room : ByteArray := prog_6_method_3_code
def yX4_room : MethodName := ⟨RX4, "room", "()I"⟩
abbrev cX4_has : ByteArray := prog_6_method_4_code
def yX4_has : MethodName := ⟨RX4, "has", "(I)Z"⟩
abbrev cX4_oneOf : ByteArray := prog_6_method_5_code
def yX4_oneOf : MethodName := ⟨RX4, "oneOf", "(I)I"⟩
abbrev cX4_otherOf : ByteArray := prog_6_method_6_code
def yX4_otherOf : MethodName := ⟨RX4, "otherOf", "(I)I"⟩
abbrev cX4_fromOf : ByteArray := prog_6_method_7_code
def yX4_fromOf : MethodName := ⟨RX4, "fromOf", "(I)I"⟩
abbrev cX4_toOf : ByteArray := prog_6_method_8_code
def yX4_toOf : MethodName := ⟨RX4, "toOf", "(I)I"⟩
abbrev cX4_livesAt : ByteArray := prog_6_method_9_code
def yX4_livesAt : MethodName := ⟨RX4, "livesAt", "(II)Z"⟩
abbrev cX4_livingAt : ByteArray := prog_6_method_10_code
def yX4_livingAt : MethodName := ⟨RX4, "livingAt", "(I)I"⟩
abbrev cX4_coversAll : ByteArray := prog_6_method_11_code
def yX4_coversAll : MethodName := ⟨RX4, "coversAll", "(III)Z"⟩
abbrev cX4_isLaidAt : ByteArray := prog_6_method_12_code
def yX4_isLaidAt : MethodName := ⟨RX4, "isLaidAt", "(III)Z"⟩
abbrev cX4_spansOf : ByteArray := prog_6_method_13_code
def yX4_spansOf : MethodName := ⟨RX4, "spansOf", "(I)I"⟩
abbrev cX4_empty : ByteArray := prog_6_method_14_code
def yX4_empty : MethodName := ⟨RX4, "empty", "()V"⟩
abbrev cX4_add : ByteArray := prog_6_method_15_code
def yX4_add : MethodName := ⟨RX4, "add", "(IIII)V"⟩
abbrev cX4_addAll : ByteArray := prog_6_method_16_code
def yX4_addAll : MethodName := ⟨RX4, "addAll", "(LLivedLinks$Links;)V"⟩
abbrev cX4_take : ByteArray := prog_6_method_17_code
def yX4_take : MethodName := ⟨RX4, "take", "(LLivedLinks$Links;)V"⟩
abbrev cX4_live : ByteArray := prog_6_method_18_code
def yX4_live : MethodName := ⟨RX4, "live", "(III)V"⟩
abbrev cX4_removeAt : ByteArray := prog_6_method_19_code
def yX4_removeAt : MethodName := ⟨RX4, "removeAt", "(I)V"⟩
abbrev cX4_removeLivingAt : ByteArray := prog_6_method_20_code
def yX4_removeLivingAt : MethodName := ⟨RX4, "removeLivingAt", "(I)V"⟩
def RX5 : String := "LivedLinks$Moments"
def TX5 : u_T := fun k => match k with
  | 0 => ("LivedLinks$Moments", "points", "LLivedLinks$Joinings;", true)
  | _ => ("LivedLinks$Moments", "sides", "LLivedLinks$Joinings;", true)
def tyX5 : Nat → FieldType := fun k => match k with
  | 0 => .object "LivedLinks$Joinings"
  | _ => .object "LivedLinks$Joinings"
theorem nmX5 : ∀ a, a < 2 → ∀ b, b < 2 → a ≠ b → (TX5 a).2.1 ≠ (TX5 b).2.1 := by decide +kernel
theorem tyX5_ok : ∀ k, k < 2 → parseFieldDescriptor (TX5 k).2.2.1 = some (tyX5 k) := by decide +kernel
abbrev cX5_init : ByteArray := prog_7_method_1_code
def yX5_init : MethodName := ⟨RX5, "<init>", "()V"⟩
abbrev cX5_joinWithout : ByteArray := prog_7_method_2_code
def yX5_joinWithout : MethodName := ⟨RX5, "joinWithout", "(LLivedLinks$Links;II)V"⟩
abbrev cX5_areJoinedAt : ByteArray := prog_7_method_3_code
def yX5_areJoinedAt : MethodName := ⟨RX5, "areJoinedAt", "(LLivedLinks$Links;III)Z"⟩
abbrev cX5_partsAt : ByteArray := prog_7_method_4_code
def yX5_partsAt : MethodName := ⟨RX5, "partsAt", "(LLivedLinks$Links;I)I"⟩
abbrev cX5_lowestOfPartAt : ByteArray := prog_7_method_5_code
def yX5_lowestOfPartAt : MethodName := ⟨RX5, "lowestOfPartAt", "(LLivedLinks$Links;II)I"⟩
abbrev cX5_partSizeAt : ByteArray := prog_7_method_6_code
def yX5_partSizeAt : MethodName := ⟨RX5, "partSizeAt", "(LLivedLinks$Links;II)I"⟩
abbrev cX5_partBitsAt : ByteArray := prog_7_method_7_code
def yX5_partBitsAt : MethodName := ⟨RX5, "partBitsAt", "(LLivedLinks$Links;II)I"⟩
abbrev cX5_greatestPartAt : ByteArray := prog_7_method_8_code
def yX5_greatestPartAt : MethodName := ⟨RX5, "greatestPartAt", "(LLivedLinks$Links;I)I"⟩
abbrev cX5_linklessPointsAt : ByteArray := prog_7_method_9_code
def yX5_linklessPointsAt : MethodName := ⟨RX5, "linklessPointsAt", "(LLivedLinks$Links;I)I"⟩
abbrev cX5_isNeededAt : ByteArray := prog_7_method_10_code
def yX5_isNeededAt : MethodName := ⟨RX5, "isNeededAt", "(LLivedLinks$Links;II)Z"⟩
abbrev cX5_neededLinksAt : ByteArray := prog_7_method_11_code
def yX5_neededLinksAt : MethodName := ⟨RX5, "neededLinksAt", "(LLivedLinks$Links;I)I"⟩
abbrev cX5_neededMomentsOf : ByteArray := prog_7_method_12_code
def yX5_neededMomentsOf : MethodName := ⟨RX5, "neededMomentsOf", "(LLivedLinks$Links;I)I"⟩
abbrev cX5_isOddAt : ByteArray := prog_7_method_13_code
def yX5_isOddAt : MethodName := ⟨RX5, "isOddAt", "(LLivedLinks$Links;I)Z"⟩
abbrev cX5_oddMoments : ByteArray := prog_7_method_14_code
def yX5_oddMoments : MethodName := ⟨RX5, "oddMoments", "(LLivedLinks$Links;)I"⟩
abbrev cX5_mostParts : ByteArray := prog_7_method_15_code
def yX5_mostParts : MethodName := ⟨RX5, "mostParts", "(LLivedLinks$Links;)I"⟩
abbrev cX5_fewestParts : ByteArray := prog_7_method_16_code
def yX5_fewestParts : MethodName := ⟨RX5, "fewestParts", "(LLivedLinks$Links;)I"⟩
def RX6 : String := "LivedLinks"
def TX6 : u_T := fun k => match k with
  | 0 => ("LivedLinks", "links", "LLivedLinks$Links;", true)
  | 1 => ("LivedLinks", "snapshot", "LLivedLinks$Links;", true)
  | 2 => ("LivedLinks", "hasSnapshot", "Z", false)
  | 3 => ("LivedLinks", "history", "LLivedLinks$History;", true)
  | 4 => ("LivedLinks", "text", "LLivedLinks$LinkText;", true)
  | 5 => ("LivedLinks", "found", "LLivedLinks$Links;", true)
  | 6 => ("LivedLinks", "moments", "LLivedLinks$Moments;", true)
  | _ => ("LivedLinks", "way", "LLivedLinks$HalvesWay;", true)
def tyX6 : Nat → FieldType := fun k => match k with
  | 0 => .object "LivedLinks$Links"
  | 1 => .object "LivedLinks$Links"
  | 2 => .boolean
  | 3 => .object "LivedLinks$History"
  | 4 => .object "LivedLinks$LinkText"
  | 5 => .object "LivedLinks$Links"
  | 6 => .object "LivedLinks$Moments"
  | _ => .object "LivedLinks$HalvesWay"
theorem nmX6 : ∀ a, a < 8 → ∀ b, b < 8 → a ≠ b → (TX6 a).2.1 ≠ (TX6 b).2.1 := by decide +kernel
theorem tyX6_ok : ∀ k, k < 8 → parseFieldDescriptor (TX6 k).2.2.1 = some (tyX6 k) := by decide +kernel
abbrev cX6_init : ByteArray := prog_1_method_1_code
def yX6_init : MethodName := ⟨RX6, "<init>", "()V"⟩
abbrev cX6_addLink : ByteArray := prog_1_method_2_code
def yX6_addLink : MethodName := ⟨RX6, "addLink", "(IIII)I"⟩
abbrev cX6_removeLink : ByteArray := prog_1_method_3_code
def yX6_removeLink : MethodName := ⟨RX6, "removeLink", "(I)I"⟩
abbrev cX6_setLife : ByteArray := prog_1_method_4_code
def yX6_setLife : MethodName := ⟨RX6, "setLife", "(III)I"⟩
abbrev cX6_cut : ByteArray := prog_1_method_5_code
def yX6_cut : MethodName := ⟨RX6, "cut", "(II)I"⟩
abbrev cX6_readLinks : ByteArray := prog_1_method_6_code
def yX6_readLinks : MethodName := ⟨RX6, "readLinks", "()I"⟩
abbrev cX6_clear : ByteArray := prog_1_method_7_code
def yX6_clear : MethodName := ⟨RX6, "clear", "(I)I"⟩
abbrev cX6_type : ByteArray := prog_1_method_8_code
def yX6_type : MethodName := ⟨RX6, "type", "(C)I"⟩
abbrev cX6_clearText : ByteArray := prog_1_method_9_code
def yX6_clearText : MethodName := ⟨RX6, "clearText", "()I"⟩
abbrev cX6_undo : ByteArray := prog_1_method_10_code
def yX6_undo : MethodName := ⟨RX6, "undo", "()I"⟩
abbrev cX6_keep : ByteArray := prog_1_method_11_code
def yX6_keep : MethodName := ⟨RX6, "keep", "()I"⟩
abbrev cX6_restore : ByteArray := prog_1_method_12_code
def yX6_restore : MethodName := ⟨RX6, "restore", "()I"⟩
abbrev cX6_link : ByteArray := prog_1_method_13_code
def yX6_link : MethodName := ⟨RX6, "link", "(II)I"⟩
abbrev cX6_joined : ByteArray := prog_1_method_14_code
def yX6_joined : MethodName := ⟨RX6, "joined", "(III)I"⟩
abbrev cX6_moment : ByteArray := prog_1_method_15_code
def yX6_moment : MethodName := ⟨RX6, "moment", "(II)I"⟩
abbrev cX6_part : ByteArray := prog_1_method_16_code
def yX6_part : MethodName := ⟨RX6, "part", "(III)I"⟩
abbrev cX6_needed : ByteArray := prog_1_method_17_code
def yX6_needed : MethodName := ⟨RX6, "needed", "(II)I"⟩
abbrev cX6_together : ByteArray := prog_1_method_18_code
def yX6_together : MethodName := ⟨RX6, "together", "(III)I"⟩
abbrev cX6_odd : ByteArray := prog_1_method_19_code
def yX6_odd : MethodName := ⟨RX6, "odd", "(I)I"⟩
abbrev cX6_span : ByteArray := prog_1_method_20_code
def yX6_span : MethodName := ⟨RX6, "span", "(III)I"⟩
abbrev cX6_count : ByteArray := prog_1_method_21_code
def yX6_count : MethodName := ⟨RX6, "count", "(I)I"⟩
abbrev cX6_countOnWay : ByteArray := prog_1_method_22_code
def yX6_countOnWay : MethodName := ⟨RX6, "countOnWay", "(I)I"⟩
abbrev cX6_asNumber : ByteArray := prog_1_method_23_code
def yX6_asNumber : MethodName := ⟨RX6, "asNumber", "(Z)I"⟩
abbrev cX6_isPoint : ByteArray := prog_1_method_24_code
def yX6_isPoint : MethodName := ⟨RX6, "isPoint", "(I)Z"⟩
abbrev cX6_isMoment : ByteArray := prog_1_method_25_code
def yX6_isMoment : MethodName := ⟨RX6, "isMoment", "(I)Z"⟩
abbrev cX6_isLife : ByteArray := prog_1_method_26_code
def yX6_isLife : MethodName := ⟨RX6, "isLife", "(II)Z"⟩
abbrev cX6_spanLength : ByteArray := prog_1_method_27_code
def yX6_spanLength : MethodName := ⟨RX6, "spanLength", "(I)I"⟩
abbrev cX6_spanBegin : ByteArray := prog_1_method_28_code
def yX6_spanBegin : MethodName := ⟨RX6, "spanBegin", "(II)I"⟩
def RX7 : String := "LivedLinksModel"
def TX7 : u_T := fun k => match k with
  | 0 => ("LivedLinksModel", "all", "[I", true)
  | 1 => ("LivedLinksModel", "kept", "[I", true)
  | 2 => ("LivedLinksModel", "history", "[I", true)
  | 3 => ("LivedLinksModel", "historyLong", "I", false)
  | 4 => ("LivedLinksModel", "snapshot", "[I", true)
  | 5 => ("LivedLinksModel", "isTaken", "I", false)
  | 6 => ("LivedLinksModel", "text", "[I", true)
  | 7 => ("LivedLinksModel", "textLong", "I", false)
  | 8 => ("LivedLinksModel", "spot", "I", false)
  | 9 => ("LivedLinksModel", "number", "I", false)
  | 10 => ("LivedLinksModel", "read", "[I", true)
  | _ => ("LivedLinksModel", "readMany", "I", false)
def tyX7 : Nat → FieldType := fun k => match k with
  | 0 => .array .int
  | 1 => .array .int
  | 2 => .array .int
  | 3 => .int
  | 4 => .array .int
  | 5 => .int
  | 6 => .array .int
  | 7 => .int
  | 8 => .int
  | 9 => .int
  | 10 => .array .int
  | _ => .int
theorem nmX7 : ∀ a, a < 12 → ∀ b, b < 12 → a ≠ b → (TX7 a).2.1 ≠ (TX7 b).2.1 := by decide +kernel
theorem tyX7_ok : ∀ k, k < 12 → parseFieldDescriptor (TX7 k).2.2.1 = some (tyX7 k) := by decide +kernel
abbrev cX7_init : ByteArray := prog_9_method_1_code
def yX7_init : MethodName := ⟨RX7, "<init>", "()V"⟩
abbrev cX7_in : ByteArray := prog_9_method_3_code
def yX7_in : MethodName := ⟨RX7, "in", "(JJJ)Z"⟩
abbrev cX7_remember : ByteArray := prog_9_method_4_code
def yX7_remember : MethodName := ⟨RX7, "remember", "()V"⟩
abbrev cX7_acted : ByteArray := prog_9_method_5_code
def yX7_acted : MethodName := ⟨RX7, "acted", "(I)I"⟩
abbrev cX7_isPoint : ByteArray := prog_9_method_6_code
def yX7_isPoint : MethodName := ⟨RX7, "isPoint", "(I)Z"⟩
abbrev cX7_isMoment : ByteArray := prog_9_method_7_code
def yX7_isMoment : MethodName := ⟨RX7, "isMoment", "(I)Z"⟩
abbrev cX7_isLife : ByteArray := prog_9_method_8_code
def yX7_isLife : MethodName := ⟨RX7, "isLife", "(II)Z"⟩
abbrev cX7_isLink : ByteArray := prog_9_method_9_code
def yX7_isLink : MethodName := ⟨RX7, "isLink", "(I)Z"⟩
abbrev cX7_lives : ByteArray := prog_9_method_10_code
def yX7_lives : MethodName := ⟨RX7, "lives", "(III)Z"⟩
abbrev cX7_livesAt : ByteArray := prog_9_method_11_code
def yX7_livesAt : MethodName := ⟨RX7, "livesAt", "(II)Z"⟩
abbrev cX7_bits : ByteArray := prog_9_method_12_code
def yX7_bits : MethodName := ⟨RX7, "bits", "(J)I"⟩
abbrev cX7_livingAt : ByteArray := prog_9_method_13_code
def yX7_livingAt : MethodName := ⟨RX7, "livingAt", "(I)J"⟩
abbrev cX7_reach : ByteArray := prog_9_method_14_code
def yX7_reach : MethodName := ⟨RX7, "reach", "(JI)I"⟩
abbrev cX7_join : ByteArray := prog_9_method_15_code
def yX7_join : MethodName := ⟨RX7, "join", "(JII)Z"⟩
abbrev cX7_parts : ByteArray := prog_9_method_16_code
def yX7_parts : MethodName := ⟨RX7, "parts", "(J)I"⟩
abbrev cX7_isNeeded : ByteArray := prog_9_method_17_code
def yX7_isNeeded : MethodName := ⟨RX7, "isNeeded", "(JI)Z"⟩
abbrev cX7_isOdd : ByteArray := prog_9_method_18_code
def yX7_isOdd : MethodName := ⟨RX7, "isOdd", "(J)Z"⟩
abbrev cX7_spanLong : ByteArray := prog_9_method_19_code
def yX7_spanLong : MethodName := ⟨RX7, "spanLong", "(I)I"⟩
abbrev cX7_begin : ByteArray := prog_9_method_20_code
def yX7_begin : MethodName := ⟨RX7, "begin", "(II)I"⟩
abbrev cX7_covers : ByteArray := prog_9_method_21_code
def yX7_covers : MethodName := ⟨RX7, "covers", "(III)Z"⟩
abbrev cX7_laidAt : ByteArray := prog_9_method_22_code
def yX7_laidAt : MethodName := ⟨RX7, "laidAt", "(II)J"⟩
abbrev cX7_livingAll : ByteArray := prog_9_method_23_code
def yX7_livingAll : MethodName := ⟨RX7, "livingAll", "(II)J"⟩
abbrev cX7_madeAt : ByteArray := prog_9_method_24_code
def yX7_madeAt : MethodName := ⟨RX7, "madeAt", "(II)I"⟩
abbrev cX7_spansOf : ByteArray := prog_9_method_25_code
def yX7_spansOf : MethodName := ⟨RX7, "spansOf", "(I)I"⟩
abbrev cX7_adds : ByteArray := prog_9_method_26_code
def yX7_adds : MethodName := ⟨RX7, "adds", "(IIII)V"⟩
abbrev cX7_addLink : ByteArray := prog_9_method_27_code
def yX7_addLink : MethodName := ⟨RX7, "addLink", "(IIII)I"⟩
abbrev cX7_takesOut : ByteArray := prog_9_method_28_code
def yX7_takesOut : MethodName := ⟨RX7, "takesOut", "(I)V"⟩
abbrev cX7_removeLink : ByteArray := prog_9_method_29_code
def yX7_removeLink : MethodName := ⟨RX7, "removeLink", "(I)I"⟩
abbrev cX7_setLife : ByteArray := prog_9_method_30_code
def yX7_setLife : MethodName := ⟨RX7, "setLife", "(III)I"⟩
abbrev cX7_cut : ByteArray := prog_9_method_31_code
def yX7_cut : MethodName := ⟨RX7, "cut", "(II)I"⟩
abbrev cX7_clear : ByteArray := prog_9_method_32_code
def yX7_clear : MethodName := ⟨RX7, "clear", "(I)I"⟩
abbrev cX7_type : ByteArray := prog_9_method_33_code
def yX7_type : MethodName := ⟨RX7, "type", "(C)I"⟩
abbrev cX7_clearText : ByteArray := prog_9_method_34_code
def yX7_clearText : MethodName := ⟨RX7, "clearText", "()I"⟩
abbrev cX7_isHere : ByteArray := prog_9_method_35_code
def yX7_isHere : MethodName := ⟨RX7, "isHere", "(II)Z"⟩
abbrev cX7_takes : ByteArray := prog_9_method_36_code
def yX7_takes : MethodName := ⟨RX7, "takes", "(I)Z"⟩
abbrev cX7_readsNumber : ByteArray := prog_9_method_37_code
def yX7_readsNumber : MethodName := ⟨RX7, "readsNumber", "(I)Z"⟩
abbrev cX7_isTold : ByteArray := prog_9_method_38_code
def yX7_isTold : MethodName := ⟨RX7, "isTold", "(Z)Z"⟩
abbrev cX7_readsLink : ByteArray := prog_9_method_39_code
def yX7_readsLink : MethodName := ⟨RX7, "readsLink", "()Z"⟩
abbrev cX7_fault : ByteArray := prog_9_method_40_code
def yX7_fault : MethodName := ⟨RX7, "fault", "()I"⟩
abbrev cX7_readLinks : ByteArray := prog_9_method_41_code
def yX7_readLinks : MethodName := ⟨RX7, "readLinks", "()I"⟩
abbrev cX7_undo : ByteArray := prog_9_method_42_code
def yX7_undo : MethodName := ⟨RX7, "undo", "()I"⟩
abbrev cX7_keep : ByteArray := prog_9_method_43_code
def yX7_keep : MethodName := ⟨RX7, "keep", "()I"⟩
abbrev cX7_restore : ByteArray := prog_9_method_44_code
def yX7_restore : MethodName := ⟨RX7, "restore", "()I"⟩
abbrev cX7_momentsNeeded : ByteArray := prog_9_method_45_code
def yX7_momentsNeeded : MethodName := ⟨RX7, "momentsNeeded", "(I)I"⟩
abbrev cX7_link : ByteArray := prog_9_method_46_code
def yX7_link : MethodName := ⟨RX7, "link", "(II)I"⟩
abbrev cX7_joined : ByteArray := prog_9_method_47_code
def yX7_joined : MethodName := ⟨RX7, "joined", "(III)I"⟩
abbrev cX7_greatestPart : ByteArray := prog_9_method_48_code
def yX7_greatestPart : MethodName := ⟨RX7, "greatestPart", "(J)I"⟩
abbrev cX7_neededAt : ByteArray := prog_9_method_49_code
def yX7_neededAt : MethodName := ⟨RX7, "neededAt", "(J)I"⟩
abbrev cX7_alone : ByteArray := prog_9_method_50_code
def yX7_alone : MethodName := ⟨RX7, "alone", "(J)I"⟩
abbrev cX7_moment : ByteArray := prog_9_method_51_code
def yX7_moment : MethodName := ⟨RX7, "moment", "(II)I"⟩
abbrev cX7_part : ByteArray := prog_9_method_52_code
def yX7_part : MethodName := ⟨RX7, "part", "(III)I"⟩
abbrev cX7_needed : ByteArray := prog_9_method_53_code
def yX7_needed : MethodName := ⟨RX7, "needed", "(II)I"⟩
abbrev cX7_together : ByteArray := prog_9_method_54_code
def yX7_together : MethodName := ⟨RX7, "together", "(III)I"⟩
abbrev cX7_odd : ByteArray := prog_9_method_55_code
def yX7_odd : MethodName := ⟨RX7, "odd", "(I)I"⟩
abbrev cX7_span : ByteArray := prog_9_method_56_code
def yX7_span : MethodName := ⟨RX7, "span", "(III)I"⟩
abbrev cX7_ofSpans : ByteArray := prog_9_method_57_code
def yX7_ofSpans : MethodName := ⟨RX7, "ofSpans", "(I)I"⟩
abbrev cX7_ofMoments : ByteArray := prog_9_method_58_code
def yX7_ofMoments : MethodName := ⟨RX7, "ofMoments", "(I)I"⟩
abbrev cX7_count : ByteArray := prog_9_method_59_code
def yX7_count : MethodName := ⟨RX7, "count", "(I)I"⟩
def RJ9 : String := "java/lang/Math"
def TJ9 : u_T := fun k => match k with
  | _ => ("", "", "", false)
def tyJ9 : Nat → FieldType := fun k => match k with
  | _ => .int
theorem nmJ9 : ∀ a, a < 0 → ∀ b, b < 0 → a ≠ b → (TJ9 a).2.1 ≠ (TJ9 b).2.1 := by decide +kernel
theorem tyJ9_ok : ∀ k, k < 0 → parseFieldDescriptor (TJ9 k).2.2.1 = some (tyJ9 k) := by decide +kernel
abbrev cJ9_max_7cf53 : ByteArray := prog_10_method_65_code
def yJ9_max_7cf53 : MethodName := ⟨RJ9, "max", "(II)I"⟩
abbrev cJ9_min_7cf53 : ByteArray := prog_10_method_69_code
def yJ9_min_7cf53 : MethodName := ⟨RJ9, "min", "(II)I"⟩
def RL : String := "LivedLinksLaw"
abbrev cL_law : ByteArray := code
def yL_law : MethodName := ⟨RL, "law", "([I)Z"⟩
def R_law : String := "LivedLinksLaw"
def lw_gd : List Cond := lw_tbl.filter goodWord
abbrev classes : List vw_C := [(RX0, TX0, 7), (RX1, TX1, 2), (RX2, TX2, 4), (RX3, TX3, 3), (RX4, TX4, 5), (RX5, TX5, 2), (RX6, TX6, 8), (RX7, TX7, 12)]
def lw_nest : List (String × Nat × MethodName × String) := [(RX6, 9, yX4_init, RX6), (RX1, 17, yX4_init, RX6), (RX6, 32, yX3_init, RX6), (RX6, 42, yX5_init, RX6), (RX6, 49, yX0_init, RX6), (RX4, 44, yX6_spanBegin, RX6), (RX4, 36, yX6_spanLength, RX6), (RX0, 40, yX6_spanBegin, RX6)]
end
section
theorem ini_LivedLinksLaw : (Cond.initialized R_law) ∈ lw_gd := List.mem_filter.mpr ⟨List.mem_of_getElem? (i := 43) (by decide +kernel), by decide +kernel⟩
theorem ini_LivedLinks : (Cond.initialized RX6) ∈ lw_gd := List.mem_filter.mpr ⟨List.mem_of_getElem? (i := 44) (by decide +kernel), by decide +kernel⟩
theorem ini_LivedLinks_Links : (Cond.initialized RX4) ∈ lw_gd := List.mem_filter.mpr ⟨List.mem_of_getElem? (i := 45) (by decide +kernel), by decide +kernel⟩
theorem ini_LivedLinks_History : (Cond.initialized RX1) ∈ lw_gd := List.mem_filter.mpr ⟨List.mem_of_getElem? (i := 46) (by decide +kernel), by decide +kernel⟩
theorem ini_LivedLinks_LinkText : (Cond.initialized RX3) ∈ lw_gd := List.mem_filter.mpr ⟨List.mem_of_getElem? (i := 47) (by decide +kernel), by decide +kernel⟩
theorem ini_LivedLinks_Moments : (Cond.initialized RX5) ∈ lw_gd := List.mem_filter.mpr ⟨List.mem_of_getElem? (i := 48) (by decide +kernel), by decide +kernel⟩
theorem ini_LivedLinks_Joinings : (Cond.initialized RX2) ∈ lw_gd := List.mem_filter.mpr ⟨List.mem_of_getElem? (i := 49) (by decide +kernel), by decide +kernel⟩
theorem ini_java_lang_Math : (Cond.initialized "java/lang/Math") ∈ lw_gd := List.mem_filter.mpr ⟨List.mem_of_getElem? (i := 50) (by decide +kernel), by decide +kernel⟩
theorem ini_LivedLinks_HalvesWay : (Cond.initialized RX0) ∈ lw_gd := List.mem_filter.mpr ⟨List.mem_of_getElem? (i := 51) (by decide +kernel), by decide +kernel⟩
theorem ini_LivedLinksModel : (Cond.initialized RX7) ∈ lw_gd := List.mem_filter.mpr ⟨List.mem_of_getElem? (i := 52) (by decide +kernel), by decide +kernel⟩
theorem cl_R_law_7 : (Cond.classLink R_law 7 RX6) ∈ lw_gd := List.mem_filter.mpr ⟨List.mem_of_getElem? (i := 53) (by decide +kernel), by decide +kernel⟩
theorem ins_RX6 : (Cond.instantiable RX6 8) ∈ lw_gd := List.mem_filter.mpr ⟨List.mem_of_getElem? (i := 54) (by decide +kernel), by decide +kernel⟩
theorem ml_R_law_9 : (Cond.methodLink R_law 9 yX6_init) ∈ lw_gd := List.mem_filter.mpr ⟨List.mem_of_getElem? (i := 55) (by decide +kernel), by decide +kernel⟩
theorem im_yX6_init : (Cond.instanceMethod yX6_init) ∈ lw_gd := List.mem_filter.mpr ⟨List.mem_of_getElem? (i := 56) (by decide +kernel), by decide +kernel⟩
theorem co_yX6_init : (Cond.code yX6_init cX6_init 1 none) ∈ lw_gd := List.mem_filter.mpr ⟨List.mem_of_getElem? (i := 57) (by decide +kernel), by decide +kernel⟩
theorem ml_RX6_1 : (Cond.methodLink RX6 1 objectInit) ∈ lw_gd := List.mem_filter.mpr ⟨List.mem_of_getElem? (i := 58) (by decide +kernel), by decide +kernel⟩
theorem im_objectInit : (Cond.instanceMethod objectInit) ∈ lw_gd := List.mem_filter.mpr ⟨List.mem_of_getElem? (i := 59) (by decide +kernel), by decide +kernel⟩
theorem co_objectInit : (Cond.code objectInit ⟨#[0xb1]⟩ 1 none) ∈ lw_gd := List.mem_filter.mpr ⟨List.mem_of_getElem? (i := 60) (by decide +kernel), by decide +kernel⟩
theorem cl_RX6_7 : (Cond.classLink RX6 7 RX4) ∈ lw_gd := List.mem_filter.mpr ⟨List.mem_of_getElem? (i := 61) (by decide +kernel), by decide +kernel⟩
theorem ins_RX4 : (Cond.instantiable RX4 5) ∈ lw_gd := List.mem_filter.mpr ⟨List.mem_of_getElem? (i := 62) (by decide +kernel), by decide +kernel⟩
theorem ml_RX6_9 : (RX6, 9, yX4_init, RX6) ∈ lw_nest := by decide +kernel
theorem im_yX4_init : (Cond.instanceMethod yX4_init) ∈ lw_gd := List.mem_filter.mpr ⟨List.mem_of_getElem? (i := 64) (by decide +kernel), by decide +kernel⟩
theorem co_yX4_init : (Cond.code yX4_init cX4_init 1 none) ∈ lw_gd := List.mem_filter.mpr ⟨List.mem_of_getElem? (i := 65) (by decide +kernel), by decide +kernel⟩
theorem ml_RX4_3 : (Cond.methodLink RX4 3 objectInit) ∈ lw_gd := List.mem_filter.mpr ⟨List.mem_of_getElem? (i := 66) (by decide +kernel), by decide +kernel⟩
theorem fl_RX4_9 : (Cond.fieldLink RX4 9 "LivedLinks$Links" "one" "[I") ∈ lw_gd := List.mem_filter.mpr ⟨List.mem_of_getElem? (i := 67) (by decide +kernel), by decide +kernel⟩
theorem fl_RX4_15 : (Cond.fieldLink RX4 15 "LivedLinks$Links" "other" "[I") ∈ lw_gd := List.mem_filter.mpr ⟨List.mem_of_getElem? (i := 68) (by decide +kernel), by decide +kernel⟩
theorem fl_RX4_18 : (Cond.fieldLink RX4 18 "LivedLinks$Links" "from" "[I") ∈ lw_gd := List.mem_filter.mpr ⟨List.mem_of_getElem? (i := 69) (by decide +kernel), by decide +kernel⟩
theorem fl_RX4_21 : (Cond.fieldLink RX4 21 "LivedLinks$Links" "to" "[I") ∈ lw_gd := List.mem_filter.mpr ⟨List.mem_of_getElem? (i := 70) (by decide +kernel), by decide +kernel⟩
theorem fl_RX4_24 : (Cond.fieldLink RX4 24 "LivedLinks$Links" "size" "I") ∈ lw_gd := List.mem_filter.mpr ⟨List.mem_of_getElem? (i := 71) (by decide +kernel), by decide +kernel⟩
theorem ac_int : (Cond.arrayClass .int) ∈ lw_gd := List.mem_filter.mpr ⟨List.mem_of_getElem? (i := 83) (by decide +kernel), by decide +kernel⟩
theorem cl_RX6_23 : (Cond.classLink RX6 23 RX1) ∈ lw_gd := List.mem_filter.mpr ⟨List.mem_of_getElem? (i := 84) (by decide +kernel), by decide +kernel⟩
theorem ins_RX1 : (Cond.instantiable RX1 2) ∈ lw_gd := List.mem_filter.mpr ⟨List.mem_of_getElem? (i := 85) (by decide +kernel), by decide +kernel⟩
theorem ml_RX6_25 : (Cond.methodLink RX6 25 yX1_init) ∈ lw_gd := List.mem_filter.mpr ⟨List.mem_of_getElem? (i := 86) (by decide +kernel), by decide +kernel⟩
theorem im_yX1_init : (Cond.instanceMethod yX1_init) ∈ lw_gd := List.mem_filter.mpr ⟨List.mem_of_getElem? (i := 87) (by decide +kernel), by decide +kernel⟩
theorem co_yX1_init : (Cond.code yX1_init cX1_init 2 none) ∈ lw_gd := List.mem_filter.mpr ⟨List.mem_of_getElem? (i := 88) (by decide +kernel), by decide +kernel⟩
theorem ml_RX1_3 : (Cond.methodLink RX1 3 objectInit) ∈ lw_gd := List.mem_filter.mpr ⟨List.mem_of_getElem? (i := 89) (by decide +kernel), by decide +kernel⟩
theorem cl_RX1_9 : (Cond.classLink RX1 9 RX4) ∈ lw_gd := List.mem_filter.mpr ⟨List.mem_of_getElem? (i := 90) (by decide +kernel), by decide +kernel⟩
theorem ml_RX1_17 : (RX1, 17, yX4_init, RX6) ∈ lw_nest := by decide +kernel
theorem fl_RX1_11 : (Cond.fieldLink RX1 11 "LivedLinks$History" "states" "[LLivedLinks$Links;") ∈ lw_gd := List.mem_filter.mpr ⟨List.mem_of_getElem? (i := 93) (by decide +kernel), by decide +kernel⟩
theorem fl_RX1_18 : (Cond.fieldLink RX1 18 "LivedLinks$History" "size" "I") ∈ lw_gd := List.mem_filter.mpr ⟨List.mem_of_getElem? (i := 94) (by decide +kernel), by decide +kernel⟩
theorem cl_RX6_30 : (Cond.classLink RX6 30 RX3) ∈ lw_gd := List.mem_filter.mpr ⟨List.mem_of_getElem? (i := 100) (by decide +kernel), by decide +kernel⟩
theorem ins_RX3 : (Cond.instantiable RX3 3) ∈ lw_gd := List.mem_filter.mpr ⟨List.mem_of_getElem? (i := 101) (by decide +kernel), by decide +kernel⟩
theorem ml_RX6_32 : (RX6, 32, yX3_init, RX6) ∈ lw_nest := by decide +kernel
theorem im_yX3_init : (Cond.instanceMethod yX3_init) ∈ lw_gd := List.mem_filter.mpr ⟨List.mem_of_getElem? (i := 103) (by decide +kernel), by decide +kernel⟩
theorem co_yX3_init : (Cond.code yX3_init cX3_init 1 none) ∈ lw_gd := List.mem_filter.mpr ⟨List.mem_of_getElem? (i := 104) (by decide +kernel), by decide +kernel⟩
theorem ml_RX3_3 : (Cond.methodLink RX3 3 objectInit) ∈ lw_gd := List.mem_filter.mpr ⟨List.mem_of_getElem? (i := 105) (by decide +kernel), by decide +kernel⟩
theorem fl_RX3_9 : (Cond.fieldLink RX3 9 "LivedLinks$LinkText" "characters" "[C") ∈ lw_gd := List.mem_filter.mpr ⟨List.mem_of_getElem? (i := 106) (by decide +kernel), by decide +kernel⟩
theorem fl_RX3_15 : (Cond.fieldLink RX3 15 "LivedLinks$LinkText" "length" "I") ∈ lw_gd := List.mem_filter.mpr ⟨List.mem_of_getElem? (i := 107) (by decide +kernel), by decide +kernel⟩
theorem fl_RX3_24 : (Cond.fieldLink RX3 24 "LivedLinks$LinkText" "place" "I") ∈ lw_gd := List.mem_filter.mpr ⟨List.mem_of_getElem? (i := 108) (by decide +kernel), by decide +kernel⟩
theorem ac_char : (Cond.arrayClass .char) ∈ lw_gd := List.mem_filter.mpr ⟨List.mem_of_getElem? (i := 116) (by decide +kernel), by decide +kernel⟩
theorem cl_RX6_40 : (Cond.classLink RX6 40 RX5) ∈ lw_gd := List.mem_filter.mpr ⟨List.mem_of_getElem? (i := 117) (by decide +kernel), by decide +kernel⟩
theorem ins_RX5 : (Cond.instantiable RX5 2) ∈ lw_gd := List.mem_filter.mpr ⟨List.mem_of_getElem? (i := 118) (by decide +kernel), by decide +kernel⟩
theorem ml_RX6_42 : (RX6, 42, yX5_init, RX6) ∈ lw_nest := by decide +kernel
theorem im_yX5_init : (Cond.instanceMethod yX5_init) ∈ lw_gd := List.mem_filter.mpr ⟨List.mem_of_getElem? (i := 120) (by decide +kernel), by decide +kernel⟩
theorem co_yX5_init : (Cond.code yX5_init cX5_init 1 none) ∈ lw_gd := List.mem_filter.mpr ⟨List.mem_of_getElem? (i := 121) (by decide +kernel), by decide +kernel⟩
theorem ml_RX5_3 : (Cond.methodLink RX5 3 objectInit) ∈ lw_gd := List.mem_filter.mpr ⟨List.mem_of_getElem? (i := 122) (by decide +kernel), by decide +kernel⟩
theorem cl_RX5_9 : (Cond.classLink RX5 9 RX2) ∈ lw_gd := List.mem_filter.mpr ⟨List.mem_of_getElem? (i := 123) (by decide +kernel), by decide +kernel⟩
theorem ins_RX2 : (Cond.instantiable RX2 4) ∈ lw_gd := List.mem_filter.mpr ⟨List.mem_of_getElem? (i := 124) (by decide +kernel), by decide +kernel⟩
theorem ml_RX5_11 : (Cond.methodLink RX5 11 yX2_init) ∈ lw_gd := List.mem_filter.mpr ⟨List.mem_of_getElem? (i := 125) (by decide +kernel), by decide +kernel⟩
theorem im_yX2_init : (Cond.instanceMethod yX2_init) ∈ lw_gd := List.mem_filter.mpr ⟨List.mem_of_getElem? (i := 126) (by decide +kernel), by decide +kernel⟩
theorem co_yX2_init : (Cond.code yX2_init cX2_init 4 none) ∈ lw_gd := List.mem_filter.mpr ⟨List.mem_of_getElem? (i := 127) (by decide +kernel), by decide +kernel⟩
theorem ml_RX2_1 : (Cond.methodLink RX2 1 objectInit) ∈ lw_gd := List.mem_filter.mpr ⟨List.mem_of_getElem? (i := 128) (by decide +kernel), by decide +kernel⟩
theorem ml_RX2_7 : (Cond.methodLink RX2 7 Lib.Math.max.name) ∈ lw_gd := List.mem_filter.mpr ⟨List.mem_of_getElem? (i := 129) (by decide +kernel), by decide +kernel⟩
theorem sm_Lib_Math_max_name : (Cond.static Lib.Math.max.name) ∈ lw_gd := List.mem_filter.mpr ⟨List.mem_of_getElem? (i := 130) (by decide +kernel), by decide +kernel⟩
theorem co_Lib_Math_max_name : (Cond.code Lib.Math.max.name Lib.Math.max.code 2 (some .int)) ∈ lw_gd := List.mem_filter.mpr ⟨List.mem_of_getElem? (i := 131) (by decide +kernel), by decide +kernel⟩
theorem fl_RX2_13 : (Cond.fieldLink RX2 13 "LivedLinks$Joinings" "above" "[I") ∈ lw_gd := List.mem_filter.mpr ⟨List.mem_of_getElem? (i := 132) (by decide +kernel), by decide +kernel⟩
theorem fl_RX2_19 : (Cond.fieldLink RX2 19 "LivedLinks$Joinings" "below" "[I") ∈ lw_gd := List.mem_filter.mpr ⟨List.mem_of_getElem? (i := 133) (by decide +kernel), by decide +kernel⟩
theorem fl_RX2_22 : (Cond.fieldLink RX2 22 "LivedLinks$Joinings" "hung" "[I") ∈ lw_gd := List.mem_filter.mpr ⟨List.mem_of_getElem? (i := 134) (by decide +kernel), by decide +kernel⟩
theorem fl_RX2_25 : (Cond.fieldLink RX2 25 "LivedLinks$Joinings" "standing" "I") ∈ lw_gd := List.mem_filter.mpr ⟨List.mem_of_getElem? (i := 135) (by decide +kernel), by decide +kernel⟩
theorem fl_RX5_14 : (Cond.fieldLink RX5 14 "LivedLinks$Moments" "points" "LLivedLinks$Joinings;") ∈ lw_gd := List.mem_filter.mpr ⟨List.mem_of_getElem? (i := 145) (by decide +kernel), by decide +kernel⟩
theorem fl_RX5_20 : (Cond.fieldLink RX5 20 "LivedLinks$Moments" "sides" "LLivedLinks$Joinings;") ∈ lw_gd := List.mem_filter.mpr ⟨List.mem_of_getElem? (i := 146) (by decide +kernel), by decide +kernel⟩
theorem cl_RX6_47 : (Cond.classLink RX6 47 RX0) ∈ lw_gd := List.mem_filter.mpr ⟨List.mem_of_getElem? (i := 152) (by decide +kernel), by decide +kernel⟩
theorem ins_RX0 : (Cond.instantiable RX0 7) ∈ lw_gd := List.mem_filter.mpr ⟨List.mem_of_getElem? (i := 153) (by decide +kernel), by decide +kernel⟩
theorem ml_RX6_49 : (RX6, 49, yX0_init, RX6) ∈ lw_nest := by decide +kernel
theorem im_yX0_init : (Cond.instanceMethod yX0_init) ∈ lw_gd := List.mem_filter.mpr ⟨List.mem_of_getElem? (i := 155) (by decide +kernel), by decide +kernel⟩
theorem co_yX0_init : (Cond.code yX0_init cX0_init 1 none) ∈ lw_gd := List.mem_filter.mpr ⟨List.mem_of_getElem? (i := 156) (by decide +kernel), by decide +kernel⟩
theorem ml_RX0_3 : (Cond.methodLink RX0 3 objectInit) ∈ lw_gd := List.mem_filter.mpr ⟨List.mem_of_getElem? (i := 157) (by decide +kernel), by decide +kernel⟩
theorem cl_RX0_9 : (Cond.classLink RX0 9 RX2) ∈ lw_gd := List.mem_filter.mpr ⟨List.mem_of_getElem? (i := 158) (by decide +kernel), by decide +kernel⟩
theorem ml_RX0_11 : (Cond.methodLink RX0 11 yX2_init) ∈ lw_gd := List.mem_filter.mpr ⟨List.mem_of_getElem? (i := 159) (by decide +kernel), by decide +kernel⟩
theorem fl_RX0_14 : (Cond.fieldLink RX0 14 "LivedLinks$HalvesWay" "points" "LLivedLinks$Joinings;") ∈ lw_gd := List.mem_filter.mpr ⟨List.mem_of_getElem? (i := 160) (by decide +kernel), by decide +kernel⟩
theorem fl_RX0_20 : (Cond.fieldLink RX0 20 "LivedLinks$HalvesWay" "standingAt" "[I") ∈ lw_gd := List.mem_filter.mpr ⟨List.mem_of_getElem? (i := 161) (by decide +kernel), by decide +kernel⟩
theorem fl_RX0_24 : (Cond.fieldLink RX0 24 "LivedLinks$HalvesWay" "laidHere" "I") ∈ lw_gd := List.mem_filter.mpr ⟨List.mem_of_getElem? (i := 162) (by decide +kernel), by decide +kernel⟩
theorem fl_RX0_28 : (Cond.fieldLink RX0 28 "LivedLinks$HalvesWay" "madeHere" "I") ∈ lw_gd := List.mem_filter.mpr ⟨List.mem_of_getElem? (i := 163) (by decide +kernel), by decide +kernel⟩
theorem fl_RX0_34 : (Cond.fieldLink RX0 34 "LivedLinks$HalvesWay" "laidInAll" "I") ∈ lw_gd := List.mem_filter.mpr ⟨List.mem_of_getElem? (i := 164) (by decide +kernel), by decide +kernel⟩
theorem fl_RX0_31 : (Cond.fieldLink RX0 31 "LivedLinks$HalvesWay" "madeInAll" "I") ∈ lw_gd := List.mem_filter.mpr ⟨List.mem_of_getElem? (i := 165) (by decide +kernel), by decide +kernel⟩
theorem fl_RX0_37 : (Cond.fieldLink RX0 37 "LivedLinks$HalvesWay" "mostStanding" "I") ∈ lw_gd := List.mem_filter.mpr ⟨List.mem_of_getElem? (i := 166) (by decide +kernel), by decide +kernel⟩
theorem fl_RX6_10 : (Cond.fieldLink RX6 10 "LivedLinks" "links" "LLivedLinks$Links;") ∈ lw_gd := List.mem_filter.mpr ⟨List.mem_of_getElem? (i := 182) (by decide +kernel), by decide +kernel⟩
theorem fl_RX6_16 : (Cond.fieldLink RX6 16 "LivedLinks" "snapshot" "LLivedLinks$Links;") ∈ lw_gd := List.mem_filter.mpr ⟨List.mem_of_getElem? (i := 183) (by decide +kernel), by decide +kernel⟩
theorem fl_RX6_19 : (Cond.fieldLink RX6 19 "LivedLinks" "hasSnapshot" "Z") ∈ lw_gd := List.mem_filter.mpr ⟨List.mem_of_getElem? (i := 184) (by decide +kernel), by decide +kernel⟩
theorem fl_RX6_26 : (Cond.fieldLink RX6 26 "LivedLinks" "history" "LLivedLinks$History;") ∈ lw_gd := List.mem_filter.mpr ⟨List.mem_of_getElem? (i := 185) (by decide +kernel), by decide +kernel⟩
theorem fl_RX6_33 : (Cond.fieldLink RX6 33 "LivedLinks" "text" "LLivedLinks$LinkText;") ∈ lw_gd := List.mem_filter.mpr ⟨List.mem_of_getElem? (i := 186) (by decide +kernel), by decide +kernel⟩
theorem fl_RX6_37 : (Cond.fieldLink RX6 37 "LivedLinks" "found" "LLivedLinks$Links;") ∈ lw_gd := List.mem_filter.mpr ⟨List.mem_of_getElem? (i := 187) (by decide +kernel), by decide +kernel⟩
theorem fl_RX6_43 : (Cond.fieldLink RX6 43 "LivedLinks" "moments" "LLivedLinks$Moments;") ∈ lw_gd := List.mem_filter.mpr ⟨List.mem_of_getElem? (i := 188) (by decide +kernel), by decide +kernel⟩
theorem fl_RX6_50 : (Cond.fieldLink RX6 50 "LivedLinks" "way" "LLivedLinks$HalvesWay;") ∈ lw_gd := List.mem_filter.mpr ⟨List.mem_of_getElem? (i := 189) (by decide +kernel), by decide +kernel⟩
theorem ml_R_law_13 : (Cond.methodLink R_law 13 yX6_addLink) ∈ lw_gd := List.mem_filter.mpr ⟨List.mem_of_getElem? (i := 207) (by decide +kernel), by decide +kernel⟩
theorem im_yX6_addLink : (Cond.instanceMethod yX6_addLink) ∈ lw_gd := List.mem_filter.mpr ⟨List.mem_of_getElem? (i := 208) (by decide +kernel), by decide +kernel⟩
theorem se_yX6_addLink : (Cond.selects RX6 yX6_addLink yX6_addLink) ∈ lw_gd := List.mem_filter.mpr ⟨List.mem_of_getElem? (i := 209) (by decide +kernel), by decide +kernel⟩
theorem co_yX6_addLink : (Cond.code yX6_addLink cX6_addLink 5 (some .int)) ∈ lw_gd := List.mem_filter.mpr ⟨List.mem_of_getElem? (i := 210) (by decide +kernel), by decide +kernel⟩
theorem ml_RX6_54 : (Cond.methodLink RX6 54 yX6_isPoint) ∈ lw_gd := List.mem_filter.mpr ⟨List.mem_of_getElem? (i := 211) (by decide +kernel), by decide +kernel⟩
theorem sm_yX6_isPoint : (Cond.static yX6_isPoint) ∈ lw_gd := List.mem_filter.mpr ⟨List.mem_of_getElem? (i := 212) (by decide +kernel), by decide +kernel⟩
theorem co_yX6_isPoint : (Cond.code yX6_isPoint cX6_isPoint 1 (some .boolean)) ∈ lw_gd := List.mem_filter.mpr ⟨List.mem_of_getElem? (i := 213) (by decide +kernel), by decide +kernel⟩
theorem ml_RX6_58 : (Cond.methodLink RX6 58 yX6_isLife) ∈ lw_gd := List.mem_filter.mpr ⟨List.mem_of_getElem? (i := 214) (by decide +kernel), by decide +kernel⟩
theorem sm_yX6_isLife : (Cond.static yX6_isLife) ∈ lw_gd := List.mem_filter.mpr ⟨List.mem_of_getElem? (i := 215) (by decide +kernel), by decide +kernel⟩
theorem co_yX6_isLife : (Cond.code yX6_isLife cX6_isLife 2 (some .boolean)) ∈ lw_gd := List.mem_filter.mpr ⟨List.mem_of_getElem? (i := 216) (by decide +kernel), by decide +kernel⟩
theorem ml_RX6_95 : (Cond.methodLink RX6 95 yX6_isMoment) ∈ lw_gd := List.mem_filter.mpr ⟨List.mem_of_getElem? (i := 217) (by decide +kernel), by decide +kernel⟩
theorem sm_yX6_isMoment : (Cond.static yX6_isMoment) ∈ lw_gd := List.mem_filter.mpr ⟨List.mem_of_getElem? (i := 218) (by decide +kernel), by decide +kernel⟩
theorem co_yX6_isMoment : (Cond.code yX6_isMoment cX6_isMoment 1 (some .boolean)) ∈ lw_gd := List.mem_filter.mpr ⟨List.mem_of_getElem? (i := 219) (by decide +kernel), by decide +kernel⟩
theorem ml_RX6_62 : (Cond.methodLink RX6 62 yX4_room) ∈ lw_gd := List.mem_filter.mpr ⟨List.mem_of_getElem? (i := 220) (by decide +kernel), by decide +kernel⟩
theorem im_yX4_room : (Cond.instanceMethod yX4_room) ∈ lw_gd := List.mem_filter.mpr ⟨List.mem_of_getElem? (i := 221) (by decide +kernel), by decide +kernel⟩
theorem se_yX4_room : (Cond.selects RX4 yX4_room yX4_room) ∈ lw_gd := List.mem_filter.mpr ⟨List.mem_of_getElem? (i := 222) (by decide +kernel), by decide +kernel⟩
theorem co_yX4_room : (Cond.code yX4_room cX4_room 1 (some .int)) ∈ lw_gd := List.mem_filter.mpr ⟨List.mem_of_getElem? (i := 223) (by decide +kernel), by decide +kernel⟩
theorem ml_RX6_66 : (Cond.methodLink RX6 66 yX1_remember) ∈ lw_gd := List.mem_filter.mpr ⟨List.mem_of_getElem? (i := 224) (by decide +kernel), by decide +kernel⟩
theorem im_yX1_remember : (Cond.instanceMethod yX1_remember) ∈ lw_gd := List.mem_filter.mpr ⟨List.mem_of_getElem? (i := 225) (by decide +kernel), by decide +kernel⟩
theorem se_yX1_remember : (Cond.selects RX1 yX1_remember yX1_remember) ∈ lw_gd := List.mem_filter.mpr ⟨List.mem_of_getElem? (i := 226) (by decide +kernel), by decide +kernel⟩
theorem co_yX1_remember : (Cond.code yX1_remember cX1_remember 3 none) ∈ lw_gd := List.mem_filter.mpr ⟨List.mem_of_getElem? (i := 227) (by decide +kernel), by decide +kernel⟩
theorem ml_RX1_22 : (Cond.methodLink RX1 22 yX1_dropOldest) ∈ lw_gd := List.mem_filter.mpr ⟨List.mem_of_getElem? (i := 228) (by decide +kernel), by decide +kernel⟩
theorem im_yX1_dropOldest : (Cond.instanceMethod yX1_dropOldest) ∈ lw_gd := List.mem_filter.mpr ⟨List.mem_of_getElem? (i := 230) (by decide +kernel), by decide +kernel⟩
theorem co_yX1_dropOldest : (Cond.code yX1_dropOldest cX1_dropOldest 3 none) ∈ lw_gd := List.mem_filter.mpr ⟨List.mem_of_getElem? (i := 231) (by decide +kernel), by decide +kernel⟩
theorem ml_RX1_25 : (Cond.methodLink RX1 25 yX4_take) ∈ lw_gd := List.mem_filter.mpr ⟨List.mem_of_getElem? (i := 232) (by decide +kernel), by decide +kernel⟩
theorem im_yX4_take : (Cond.instanceMethod yX4_take) ∈ lw_gd := List.mem_filter.mpr ⟨List.mem_of_getElem? (i := 233) (by decide +kernel), by decide +kernel⟩
theorem se_yX4_take : (Cond.selects RX4 yX4_take yX4_take) ∈ lw_gd := List.mem_filter.mpr ⟨List.mem_of_getElem? (i := 234) (by decide +kernel), by decide +kernel⟩
theorem co_yX4_take : (Cond.code yX4_take cX4_take 2 none) ∈ lw_gd := List.mem_filter.mpr ⟨List.mem_of_getElem? (i := 235) (by decide +kernel), by decide +kernel⟩
theorem ml_RX4_59 : (Cond.methodLink RX4 59 yX4_empty) ∈ lw_gd := List.mem_filter.mpr ⟨List.mem_of_getElem? (i := 236) (by decide +kernel), by decide +kernel⟩
theorem im_yX4_empty : (Cond.instanceMethod yX4_empty) ∈ lw_gd := List.mem_filter.mpr ⟨List.mem_of_getElem? (i := 237) (by decide +kernel), by decide +kernel⟩
theorem se_yX4_empty : (Cond.selects RX4 yX4_empty yX4_empty) ∈ lw_gd := List.mem_filter.mpr ⟨List.mem_of_getElem? (i := 238) (by decide +kernel), by decide +kernel⟩
theorem co_yX4_empty : (Cond.code yX4_empty cX4_empty 1 none) ∈ lw_gd := List.mem_filter.mpr ⟨List.mem_of_getElem? (i := 239) (by decide +kernel), by decide +kernel⟩
theorem ml_RX4_62 : (Cond.methodLink RX4 62 yX4_addAll) ∈ lw_gd := List.mem_filter.mpr ⟨List.mem_of_getElem? (i := 240) (by decide +kernel), by decide +kernel⟩
theorem im_yX4_addAll : (Cond.instanceMethod yX4_addAll) ∈ lw_gd := List.mem_filter.mpr ⟨List.mem_of_getElem? (i := 241) (by decide +kernel), by decide +kernel⟩
theorem se_yX4_addAll : (Cond.selects RX4 yX4_addAll yX4_addAll) ∈ lw_gd := List.mem_filter.mpr ⟨List.mem_of_getElem? (i := 242) (by decide +kernel), by decide +kernel⟩
theorem co_yX4_addAll : (Cond.code yX4_addAll cX4_addAll 3 none) ∈ lw_gd := List.mem_filter.mpr ⟨List.mem_of_getElem? (i := 243) (by decide +kernel), by decide +kernel⟩
theorem ml_RX4_55 : (Cond.methodLink RX4 55 yX4_add) ∈ lw_gd := List.mem_filter.mpr ⟨List.mem_of_getElem? (i := 244) (by decide +kernel), by decide +kernel⟩
theorem im_yX4_add : (Cond.instanceMethod yX4_add) ∈ lw_gd := List.mem_filter.mpr ⟨List.mem_of_getElem? (i := 245) (by decide +kernel), by decide +kernel⟩
theorem se_yX4_add : (Cond.selects RX4 yX4_add yX4_add) ∈ lw_gd := List.mem_filter.mpr ⟨List.mem_of_getElem? (i := 246) (by decide +kernel), by decide +kernel⟩
theorem co_yX4_add : (Cond.code yX4_add cX4_add 5 none) ∈ lw_gd := List.mem_filter.mpr ⟨List.mem_of_getElem? (i := 247) (by decide +kernel), by decide +kernel⟩
theorem ml_RX4_51 : (Cond.methodLink RX4 51 yX4_room) ∈ lw_gd := List.mem_filter.mpr ⟨List.mem_of_getElem? (i := 248) (by decide +kernel), by decide +kernel⟩
theorem ml_RX6_70 : (Cond.methodLink RX6 70 yX4_add) ∈ lw_gd := List.mem_filter.mpr ⟨List.mem_of_getElem? (i := 249) (by decide +kernel), by decide +kernel⟩
theorem ml_RX6_74 : (Cond.methodLink RX6 74 yX4_size) ∈ lw_gd := List.mem_filter.mpr ⟨List.mem_of_getElem? (i := 250) (by decide +kernel), by decide +kernel⟩
theorem im_yX4_size : (Cond.instanceMethod yX4_size) ∈ lw_gd := List.mem_filter.mpr ⟨List.mem_of_getElem? (i := 251) (by decide +kernel), by decide +kernel⟩
theorem se_yX4_size : (Cond.selects RX4 yX4_size yX4_size) ∈ lw_gd := List.mem_filter.mpr ⟨List.mem_of_getElem? (i := 252) (by decide +kernel), by decide +kernel⟩
theorem co_yX4_size : (Cond.code yX4_size cX4_size 1 (some .int)) ∈ lw_gd := List.mem_filter.mpr ⟨List.mem_of_getElem? (i := 253) (by decide +kernel), by decide +kernel⟩
theorem ml_R_law_18 : (Cond.methodLink R_law 18 yX6_removeLink) ∈ lw_gd := List.mem_filter.mpr ⟨List.mem_of_getElem? (i := 254) (by decide +kernel), by decide +kernel⟩
theorem im_yX6_removeLink : (Cond.instanceMethod yX6_removeLink) ∈ lw_gd := List.mem_filter.mpr ⟨List.mem_of_getElem? (i := 255) (by decide +kernel), by decide +kernel⟩
theorem se_yX6_removeLink : (Cond.selects RX6 yX6_removeLink yX6_removeLink) ∈ lw_gd := List.mem_filter.mpr ⟨List.mem_of_getElem? (i := 256) (by decide +kernel), by decide +kernel⟩
theorem co_yX6_removeLink : (Cond.code yX6_removeLink cX6_removeLink 2 (some .int)) ∈ lw_gd := List.mem_filter.mpr ⟨List.mem_of_getElem? (i := 257) (by decide +kernel), by decide +kernel⟩
theorem ml_RX6_77 : (Cond.methodLink RX6 77 yX4_has) ∈ lw_gd := List.mem_filter.mpr ⟨List.mem_of_getElem? (i := 258) (by decide +kernel), by decide +kernel⟩
theorem im_yX4_has : (Cond.instanceMethod yX4_has) ∈ lw_gd := List.mem_filter.mpr ⟨List.mem_of_getElem? (i := 259) (by decide +kernel), by decide +kernel⟩
theorem se_yX4_has : (Cond.selects RX4 yX4_has yX4_has) ∈ lw_gd := List.mem_filter.mpr ⟨List.mem_of_getElem? (i := 260) (by decide +kernel), by decide +kernel⟩
theorem co_yX4_has : (Cond.code yX4_has cX4_has 2 (some .boolean)) ∈ lw_gd := List.mem_filter.mpr ⟨List.mem_of_getElem? (i := 261) (by decide +kernel), by decide +kernel⟩
theorem ml_RX6_80 : (Cond.methodLink RX6 80 yX4_removeAt) ∈ lw_gd := List.mem_filter.mpr ⟨List.mem_of_getElem? (i := 262) (by decide +kernel), by decide +kernel⟩
theorem im_yX4_removeAt : (Cond.instanceMethod yX4_removeAt) ∈ lw_gd := List.mem_filter.mpr ⟨List.mem_of_getElem? (i := 263) (by decide +kernel), by decide +kernel⟩
theorem se_yX4_removeAt : (Cond.selects RX4 yX4_removeAt yX4_removeAt) ∈ lw_gd := List.mem_filter.mpr ⟨List.mem_of_getElem? (i := 264) (by decide +kernel), by decide +kernel⟩
theorem co_yX4_removeAt : (Cond.code yX4_removeAt cX4_removeAt 3 none) ∈ lw_gd := List.mem_filter.mpr ⟨List.mem_of_getElem? (i := 265) (by decide +kernel), by decide +kernel⟩
theorem ml_RX4_28 : (Cond.methodLink RX4 28 yX4_has) ∈ lw_gd := List.mem_filter.mpr ⟨List.mem_of_getElem? (i := 266) (by decide +kernel), by decide +kernel⟩
theorem ml_R_law_23 : (Cond.methodLink R_law 23 yX6_setLife) ∈ lw_gd := List.mem_filter.mpr ⟨List.mem_of_getElem? (i := 267) (by decide +kernel), by decide +kernel⟩
theorem im_yX6_setLife : (Cond.instanceMethod yX6_setLife) ∈ lw_gd := List.mem_filter.mpr ⟨List.mem_of_getElem? (i := 268) (by decide +kernel), by decide +kernel⟩
theorem se_yX6_setLife : (Cond.selects RX6 yX6_setLife yX6_setLife) ∈ lw_gd := List.mem_filter.mpr ⟨List.mem_of_getElem? (i := 269) (by decide +kernel), by decide +kernel⟩
theorem co_yX6_setLife : (Cond.code yX6_setLife cX6_setLife 4 (some .int)) ∈ lw_gd := List.mem_filter.mpr ⟨List.mem_of_getElem? (i := 270) (by decide +kernel), by decide +kernel⟩
theorem ml_RX6_84 : (Cond.methodLink RX6 84 yX4_fromOf) ∈ lw_gd := List.mem_filter.mpr ⟨List.mem_of_getElem? (i := 271) (by decide +kernel), by decide +kernel⟩
theorem im_yX4_fromOf : (Cond.instanceMethod yX4_fromOf) ∈ lw_gd := List.mem_filter.mpr ⟨List.mem_of_getElem? (i := 272) (by decide +kernel), by decide +kernel⟩
theorem se_yX4_fromOf : (Cond.selects RX4 yX4_fromOf yX4_fromOf) ∈ lw_gd := List.mem_filter.mpr ⟨List.mem_of_getElem? (i := 273) (by decide +kernel), by decide +kernel⟩
theorem co_yX4_fromOf : (Cond.code yX4_fromOf cX4_fromOf 2 (some .int)) ∈ lw_gd := List.mem_filter.mpr ⟨List.mem_of_getElem? (i := 274) (by decide +kernel), by decide +kernel⟩
theorem ml_RX6_88 : (Cond.methodLink RX6 88 yX4_toOf) ∈ lw_gd := List.mem_filter.mpr ⟨List.mem_of_getElem? (i := 275) (by decide +kernel), by decide +kernel⟩
theorem im_yX4_toOf : (Cond.instanceMethod yX4_toOf) ∈ lw_gd := List.mem_filter.mpr ⟨List.mem_of_getElem? (i := 276) (by decide +kernel), by decide +kernel⟩
theorem se_yX4_toOf : (Cond.selects RX4 yX4_toOf yX4_toOf) ∈ lw_gd := List.mem_filter.mpr ⟨List.mem_of_getElem? (i := 277) (by decide +kernel), by decide +kernel⟩
theorem co_yX4_toOf : (Cond.code yX4_toOf cX4_toOf 2 (some .int)) ∈ lw_gd := List.mem_filter.mpr ⟨List.mem_of_getElem? (i := 278) (by decide +kernel), by decide +kernel⟩
theorem ml_RX6_91 : (Cond.methodLink RX6 91 yX4_live) ∈ lw_gd := List.mem_filter.mpr ⟨List.mem_of_getElem? (i := 279) (by decide +kernel), by decide +kernel⟩
theorem im_yX4_live : (Cond.instanceMethod yX4_live) ∈ lw_gd := List.mem_filter.mpr ⟨List.mem_of_getElem? (i := 280) (by decide +kernel), by decide +kernel⟩
theorem se_yX4_live : (Cond.selects RX4 yX4_live yX4_live) ∈ lw_gd := List.mem_filter.mpr ⟨List.mem_of_getElem? (i := 281) (by decide +kernel), by decide +kernel⟩
theorem co_yX4_live : (Cond.code yX4_live cX4_live 4 none) ∈ lw_gd := List.mem_filter.mpr ⟨List.mem_of_getElem? (i := 282) (by decide +kernel), by decide +kernel⟩
theorem ml_R_law_28 : (Cond.methodLink R_law 28 yX6_cut) ∈ lw_gd := List.mem_filter.mpr ⟨List.mem_of_getElem? (i := 283) (by decide +kernel), by decide +kernel⟩
theorem im_yX6_cut : (Cond.instanceMethod yX6_cut) ∈ lw_gd := List.mem_filter.mpr ⟨List.mem_of_getElem? (i := 284) (by decide +kernel), by decide +kernel⟩
theorem se_yX6_cut : (Cond.selects RX6 yX6_cut yX6_cut) ∈ lw_gd := List.mem_filter.mpr ⟨List.mem_of_getElem? (i := 285) (by decide +kernel), by decide +kernel⟩
theorem co_yX6_cut : (Cond.code yX6_cut cX6_cut 3 (some .int)) ∈ lw_gd := List.mem_filter.mpr ⟨List.mem_of_getElem? (i := 286) (by decide +kernel), by decide +kernel⟩
theorem ml_RX6_98 : (Cond.methodLink RX6 98 yX4_livesAt) ∈ lw_gd := List.mem_filter.mpr ⟨List.mem_of_getElem? (i := 287) (by decide +kernel), by decide +kernel⟩
theorem im_yX4_livesAt : (Cond.instanceMethod yX4_livesAt) ∈ lw_gd := List.mem_filter.mpr ⟨List.mem_of_getElem? (i := 288) (by decide +kernel), by decide +kernel⟩
theorem se_yX4_livesAt : (Cond.selects RX4 yX4_livesAt yX4_livesAt) ∈ lw_gd := List.mem_filter.mpr ⟨List.mem_of_getElem? (i := 289) (by decide +kernel), by decide +kernel⟩
theorem co_yX4_livesAt : (Cond.code yX4_livesAt cX4_livesAt 3 (some .boolean)) ∈ lw_gd := List.mem_filter.mpr ⟨List.mem_of_getElem? (i := 290) (by decide +kernel), by decide +kernel⟩
theorem ml_RX6_101 : (Cond.methodLink RX6 101 yX4_oneOf) ∈ lw_gd := List.mem_filter.mpr ⟨List.mem_of_getElem? (i := 291) (by decide +kernel), by decide +kernel⟩
theorem im_yX4_oneOf : (Cond.instanceMethod yX4_oneOf) ∈ lw_gd := List.mem_filter.mpr ⟨List.mem_of_getElem? (i := 292) (by decide +kernel), by decide +kernel⟩
theorem se_yX4_oneOf : (Cond.selects RX4 yX4_oneOf yX4_oneOf) ∈ lw_gd := List.mem_filter.mpr ⟨List.mem_of_getElem? (i := 293) (by decide +kernel), by decide +kernel⟩
theorem co_yX4_oneOf : (Cond.code yX4_oneOf cX4_oneOf 2 (some .int)) ∈ lw_gd := List.mem_filter.mpr ⟨List.mem_of_getElem? (i := 294) (by decide +kernel), by decide +kernel⟩
theorem ml_RX6_104 : (Cond.methodLink RX6 104 yX4_otherOf) ∈ lw_gd := List.mem_filter.mpr ⟨List.mem_of_getElem? (i := 295) (by decide +kernel), by decide +kernel⟩
theorem im_yX4_otherOf : (Cond.instanceMethod yX4_otherOf) ∈ lw_gd := List.mem_filter.mpr ⟨List.mem_of_getElem? (i := 296) (by decide +kernel), by decide +kernel⟩
theorem se_yX4_otherOf : (Cond.selects RX4 yX4_otherOf yX4_otherOf) ∈ lw_gd := List.mem_filter.mpr ⟨List.mem_of_getElem? (i := 297) (by decide +kernel), by decide +kernel⟩
theorem co_yX4_otherOf : (Cond.code yX4_otherOf cX4_otherOf 2 (some .int)) ∈ lw_gd := List.mem_filter.mpr ⟨List.mem_of_getElem? (i := 298) (by decide +kernel), by decide +kernel⟩
theorem ml_R_law_33 : (Cond.methodLink R_law 33 yX6_readLinks) ∈ lw_gd := List.mem_filter.mpr ⟨List.mem_of_getElem? (i := 299) (by decide +kernel), by decide +kernel⟩
theorem im_yX6_readLinks : (Cond.instanceMethod yX6_readLinks) ∈ lw_gd := List.mem_filter.mpr ⟨List.mem_of_getElem? (i := 300) (by decide +kernel), by decide +kernel⟩
theorem se_yX6_readLinks : (Cond.selects RX6 yX6_readLinks yX6_readLinks) ∈ lw_gd := List.mem_filter.mpr ⟨List.mem_of_getElem? (i := 301) (by decide +kernel), by decide +kernel⟩
theorem co_yX6_readLinks : (Cond.code yX6_readLinks cX6_readLinks 2 (some .int)) ∈ lw_gd := List.mem_filter.mpr ⟨List.mem_of_getElem? (i := 302) (by decide +kernel), by decide +kernel⟩
theorem ml_RX6_107 : (Cond.methodLink RX6 107 yX3_readInto) ∈ lw_gd := List.mem_filter.mpr ⟨List.mem_of_getElem? (i := 303) (by decide +kernel), by decide +kernel⟩
theorem im_yX3_readInto : (Cond.instanceMethod yX3_readInto) ∈ lw_gd := List.mem_filter.mpr ⟨List.mem_of_getElem? (i := 304) (by decide +kernel), by decide +kernel⟩
theorem se_yX3_readInto : (Cond.selects RX3 yX3_readInto yX3_readInto) ∈ lw_gd := List.mem_filter.mpr ⟨List.mem_of_getElem? (i := 305) (by decide +kernel), by decide +kernel⟩
theorem co_yX3_readInto : (Cond.code yX3_readInto cX3_readInto 3 (some .int)) ∈ lw_gd := List.mem_filter.mpr ⟨List.mem_of_getElem? (i := 306) (by decide +kernel), by decide +kernel⟩
theorem ml_RX3_19 : (Cond.methodLink RX3 19 yX4_empty) ∈ lw_gd := List.mem_filter.mpr ⟨List.mem_of_getElem? (i := 307) (by decide +kernel), by decide +kernel⟩
theorem ml_RX3_27 : (Cond.methodLink RX3 27 yX3_readLink) ∈ lw_gd := List.mem_filter.mpr ⟨List.mem_of_getElem? (i := 308) (by decide +kernel), by decide +kernel⟩
theorem im_yX3_readLink : (Cond.instanceMethod yX3_readLink) ∈ lw_gd := List.mem_filter.mpr ⟨List.mem_of_getElem? (i := 310) (by decide +kernel), by decide +kernel⟩
theorem co_yX3_readLink : (Cond.code yX3_readLink cX3_readLink 6 (some .boolean)) ∈ lw_gd := List.mem_filter.mpr ⟨List.mem_of_getElem? (i := 311) (by decide +kernel), by decide +kernel⟩
theorem ml_RX3_35 : (Cond.methodLink RX3 35 yX3_readNumber) ∈ lw_gd := List.mem_filter.mpr ⟨List.mem_of_getElem? (i := 312) (by decide +kernel), by decide +kernel⟩
theorem im_yX3_readNumber : (Cond.instanceMethod yX3_readNumber) ∈ lw_gd := List.mem_filter.mpr ⟨List.mem_of_getElem? (i := 314) (by decide +kernel), by decide +kernel⟩
theorem co_yX3_readNumber : (Cond.code yX3_readNumber cX3_readNumber 5 (some .int)) ∈ lw_gd := List.mem_filter.mpr ⟨List.mem_of_getElem? (i := 315) (by decide +kernel), by decide +kernel⟩
theorem ml_RX3_47 : (Cond.methodLink RX3 47 yX3_digitAt) ∈ lw_gd := List.mem_filter.mpr ⟨List.mem_of_getElem? (i := 316) (by decide +kernel), by decide +kernel⟩
theorem im_yX3_digitAt : (Cond.instanceMethod yX3_digitAt) ∈ lw_gd := List.mem_filter.mpr ⟨List.mem_of_getElem? (i := 318) (by decide +kernel), by decide +kernel⟩
theorem co_yX3_digitAt : (Cond.code yX3_digitAt cX3_digitAt 3 (some .int)) ∈ lw_gd := List.mem_filter.mpr ⟨List.mem_of_getElem? (i := 319) (by decide +kernel), by decide +kernel⟩
theorem ml_RX3_31 : (Cond.methodLink RX3 31 yX3_readSign) ∈ lw_gd := List.mem_filter.mpr ⟨List.mem_of_getElem? (i := 320) (by decide +kernel), by decide +kernel⟩
theorem im_yX3_readSign : (Cond.instanceMethod yX3_readSign) ∈ lw_gd := List.mem_filter.mpr ⟨List.mem_of_getElem? (i := 322) (by decide +kernel), by decide +kernel⟩
theorem co_yX3_readSign : (Cond.code yX3_readSign cX3_readSign 2 (some .boolean)) ∈ lw_gd := List.mem_filter.mpr ⟨List.mem_of_getElem? (i := 323) (by decide +kernel), by decide +kernel⟩
theorem ml_RX3_39 : (Cond.methodLink RX3 39 yX3_refuseLastDigit) ∈ lw_gd := List.mem_filter.mpr ⟨List.mem_of_getElem? (i := 324) (by decide +kernel), by decide +kernel⟩
theorem im_yX3_refuseLastDigit : (Cond.instanceMethod yX3_refuseLastDigit) ∈ lw_gd := List.mem_filter.mpr ⟨List.mem_of_getElem? (i := 326) (by decide +kernel), by decide +kernel⟩
theorem co_yX3_refuseLastDigit : (Cond.code yX3_refuseLastDigit cX3_refuseLastDigit 1 (some .boolean)) ∈ lw_gd := List.mem_filter.mpr ⟨List.mem_of_getElem? (i := 327) (by decide +kernel), by decide +kernel⟩
theorem ml_RX3_43 : (Cond.methodLink RX3 43 yX4_add) ∈ lw_gd := List.mem_filter.mpr ⟨List.mem_of_getElem? (i := 328) (by decide +kernel), by decide +kernel⟩
theorem ml_RX6_111 : (Cond.methodLink RX6 111 yX4_addAll) ∈ lw_gd := List.mem_filter.mpr ⟨List.mem_of_getElem? (i := 329) (by decide +kernel), by decide +kernel⟩
theorem ml_R_law_38 : (Cond.methodLink R_law 38 yX6_clear) ∈ lw_gd := List.mem_filter.mpr ⟨List.mem_of_getElem? (i := 330) (by decide +kernel), by decide +kernel⟩
theorem im_yX6_clear : (Cond.instanceMethod yX6_clear) ∈ lw_gd := List.mem_filter.mpr ⟨List.mem_of_getElem? (i := 331) (by decide +kernel), by decide +kernel⟩
theorem se_yX6_clear : (Cond.selects RX6 yX6_clear yX6_clear) ∈ lw_gd := List.mem_filter.mpr ⟨List.mem_of_getElem? (i := 332) (by decide +kernel), by decide +kernel⟩
theorem co_yX6_clear : (Cond.code yX6_clear cX6_clear 3 (some .int)) ∈ lw_gd := List.mem_filter.mpr ⟨List.mem_of_getElem? (i := 333) (by decide +kernel), by decide +kernel⟩
theorem ml_RX6_114 : (Cond.methodLink RX6 114 yX4_livingAt) ∈ lw_gd := List.mem_filter.mpr ⟨List.mem_of_getElem? (i := 334) (by decide +kernel), by decide +kernel⟩
theorem im_yX4_livingAt : (Cond.instanceMethod yX4_livingAt) ∈ lw_gd := List.mem_filter.mpr ⟨List.mem_of_getElem? (i := 335) (by decide +kernel), by decide +kernel⟩
theorem se_yX4_livingAt : (Cond.selects RX4 yX4_livingAt yX4_livingAt) ∈ lw_gd := List.mem_filter.mpr ⟨List.mem_of_getElem? (i := 336) (by decide +kernel), by decide +kernel⟩
theorem co_yX4_livingAt : (Cond.code yX4_livingAt cX4_livingAt 4 (some .int)) ∈ lw_gd := List.mem_filter.mpr ⟨List.mem_of_getElem? (i := 337) (by decide +kernel), by decide +kernel⟩
theorem ml_RX4_32 : (Cond.methodLink RX4 32 yX4_livesAt) ∈ lw_gd := List.mem_filter.mpr ⟨List.mem_of_getElem? (i := 338) (by decide +kernel), by decide +kernel⟩
theorem ml_RX6_117 : (Cond.methodLink RX6 117 yX4_removeLivingAt) ∈ lw_gd := List.mem_filter.mpr ⟨List.mem_of_getElem? (i := 339) (by decide +kernel), by decide +kernel⟩
theorem im_yX4_removeLivingAt : (Cond.instanceMethod yX4_removeLivingAt) ∈ lw_gd := List.mem_filter.mpr ⟨List.mem_of_getElem? (i := 340) (by decide +kernel), by decide +kernel⟩
theorem se_yX4_removeLivingAt : (Cond.selects RX4 yX4_removeLivingAt yX4_removeLivingAt) ∈ lw_gd := List.mem_filter.mpr ⟨List.mem_of_getElem? (i := 341) (by decide +kernel), by decide +kernel⟩
theorem co_yX4_removeLivingAt : (Cond.code yX4_removeLivingAt cX4_removeLivingAt 3 none) ∈ lw_gd := List.mem_filter.mpr ⟨List.mem_of_getElem? (i := 342) (by decide +kernel), by decide +kernel⟩
theorem ml_RX4_66 : (Cond.methodLink RX4 66 yX4_removeAt) ∈ lw_gd := List.mem_filter.mpr ⟨List.mem_of_getElem? (i := 343) (by decide +kernel), by decide +kernel⟩
theorem ml_R_law_42 : (Cond.methodLink R_law 42 yX6_type) ∈ lw_gd := List.mem_filter.mpr ⟨List.mem_of_getElem? (i := 344) (by decide +kernel), by decide +kernel⟩
theorem im_yX6_type : (Cond.instanceMethod yX6_type) ∈ lw_gd := List.mem_filter.mpr ⟨List.mem_of_getElem? (i := 345) (by decide +kernel), by decide +kernel⟩
theorem se_yX6_type : (Cond.selects RX6 yX6_type yX6_type) ∈ lw_gd := List.mem_filter.mpr ⟨List.mem_of_getElem? (i := 346) (by decide +kernel), by decide +kernel⟩
theorem co_yX6_type : (Cond.code yX6_type cX6_type 2 (some .int)) ∈ lw_gd := List.mem_filter.mpr ⟨List.mem_of_getElem? (i := 347) (by decide +kernel), by decide +kernel⟩
theorem ml_RX6_120 : (Cond.methodLink RX6 120 yX3_length) ∈ lw_gd := List.mem_filter.mpr ⟨List.mem_of_getElem? (i := 348) (by decide +kernel), by decide +kernel⟩
theorem im_yX3_length : (Cond.instanceMethod yX3_length) ∈ lw_gd := List.mem_filter.mpr ⟨List.mem_of_getElem? (i := 349) (by decide +kernel), by decide +kernel⟩
theorem se_yX3_length : (Cond.selects RX3 yX3_length yX3_length) ∈ lw_gd := List.mem_filter.mpr ⟨List.mem_of_getElem? (i := 350) (by decide +kernel), by decide +kernel⟩
theorem co_yX3_length : (Cond.code yX3_length cX3_length 1 (some .int)) ∈ lw_gd := List.mem_filter.mpr ⟨List.mem_of_getElem? (i := 351) (by decide +kernel), by decide +kernel⟩
theorem ml_RX6_123 : (Cond.methodLink RX6 123 yX3_append) ∈ lw_gd := List.mem_filter.mpr ⟨List.mem_of_getElem? (i := 352) (by decide +kernel), by decide +kernel⟩
theorem im_yX3_append : (Cond.instanceMethod yX3_append) ∈ lw_gd := List.mem_filter.mpr ⟨List.mem_of_getElem? (i := 353) (by decide +kernel), by decide +kernel⟩
theorem se_yX3_append : (Cond.selects RX3 yX3_append yX3_append) ∈ lw_gd := List.mem_filter.mpr ⟨List.mem_of_getElem? (i := 354) (by decide +kernel), by decide +kernel⟩
theorem co_yX3_append : (Cond.code yX3_append cX3_append 2 none) ∈ lw_gd := List.mem_filter.mpr ⟨List.mem_of_getElem? (i := 355) (by decide +kernel), by decide +kernel⟩
theorem ml_R_law_47 : (Cond.methodLink R_law 47 yX6_clearText) ∈ lw_gd := List.mem_filter.mpr ⟨List.mem_of_getElem? (i := 356) (by decide +kernel), by decide +kernel⟩
theorem im_yX6_clearText : (Cond.instanceMethod yX6_clearText) ∈ lw_gd := List.mem_filter.mpr ⟨List.mem_of_getElem? (i := 357) (by decide +kernel), by decide +kernel⟩
theorem se_yX6_clearText : (Cond.selects RX6 yX6_clearText yX6_clearText) ∈ lw_gd := List.mem_filter.mpr ⟨List.mem_of_getElem? (i := 358) (by decide +kernel), by decide +kernel⟩
theorem co_yX6_clearText : (Cond.code yX6_clearText cX6_clearText 2 (some .int)) ∈ lw_gd := List.mem_filter.mpr ⟨List.mem_of_getElem? (i := 359) (by decide +kernel), by decide +kernel⟩
theorem ml_RX6_127 : (Cond.methodLink RX6 127 yX3_empty) ∈ lw_gd := List.mem_filter.mpr ⟨List.mem_of_getElem? (i := 360) (by decide +kernel), by decide +kernel⟩
theorem im_yX3_empty : (Cond.instanceMethod yX3_empty) ∈ lw_gd := List.mem_filter.mpr ⟨List.mem_of_getElem? (i := 361) (by decide +kernel), by decide +kernel⟩
theorem se_yX3_empty : (Cond.selects RX3 yX3_empty yX3_empty) ∈ lw_gd := List.mem_filter.mpr ⟨List.mem_of_getElem? (i := 362) (by decide +kernel), by decide +kernel⟩
theorem co_yX3_empty : (Cond.code yX3_empty cX3_empty 1 none) ∈ lw_gd := List.mem_filter.mpr ⟨List.mem_of_getElem? (i := 363) (by decide +kernel), by decide +kernel⟩
theorem ml_R_law_51 : (Cond.methodLink R_law 51 yX6_undo) ∈ lw_gd := List.mem_filter.mpr ⟨List.mem_of_getElem? (i := 364) (by decide +kernel), by decide +kernel⟩
theorem im_yX6_undo : (Cond.instanceMethod yX6_undo) ∈ lw_gd := List.mem_filter.mpr ⟨List.mem_of_getElem? (i := 365) (by decide +kernel), by decide +kernel⟩
theorem se_yX6_undo : (Cond.selects RX6 yX6_undo yX6_undo) ∈ lw_gd := List.mem_filter.mpr ⟨List.mem_of_getElem? (i := 366) (by decide +kernel), by decide +kernel⟩
theorem co_yX6_undo : (Cond.code yX6_undo cX6_undo 1 (some .int)) ∈ lw_gd := List.mem_filter.mpr ⟨List.mem_of_getElem? (i := 367) (by decide +kernel), by decide +kernel⟩
theorem ml_RX6_130 : (Cond.methodLink RX6 130 yX1_size) ∈ lw_gd := List.mem_filter.mpr ⟨List.mem_of_getElem? (i := 368) (by decide +kernel), by decide +kernel⟩
theorem im_yX1_size : (Cond.instanceMethod yX1_size) ∈ lw_gd := List.mem_filter.mpr ⟨List.mem_of_getElem? (i := 369) (by decide +kernel), by decide +kernel⟩
theorem se_yX1_size : (Cond.selects RX1 yX1_size yX1_size) ∈ lw_gd := List.mem_filter.mpr ⟨List.mem_of_getElem? (i := 370) (by decide +kernel), by decide +kernel⟩
theorem co_yX1_size : (Cond.code yX1_size cX1_size 1 (some .int)) ∈ lw_gd := List.mem_filter.mpr ⟨List.mem_of_getElem? (i := 371) (by decide +kernel), by decide +kernel⟩
theorem ml_RX6_131 : (Cond.methodLink RX6 131 yX1_goBack) ∈ lw_gd := List.mem_filter.mpr ⟨List.mem_of_getElem? (i := 372) (by decide +kernel), by decide +kernel⟩
theorem im_yX1_goBack : (Cond.instanceMethod yX1_goBack) ∈ lw_gd := List.mem_filter.mpr ⟨List.mem_of_getElem? (i := 373) (by decide +kernel), by decide +kernel⟩
theorem se_yX1_goBack : (Cond.selects RX1 yX1_goBack yX1_goBack) ∈ lw_gd := List.mem_filter.mpr ⟨List.mem_of_getElem? (i := 374) (by decide +kernel), by decide +kernel⟩
theorem co_yX1_goBack : (Cond.code yX1_goBack cX1_goBack 3 none) ∈ lw_gd := List.mem_filter.mpr ⟨List.mem_of_getElem? (i := 375) (by decide +kernel), by decide +kernel⟩
theorem ml_R_law_55 : (Cond.methodLink R_law 55 yX6_keep) ∈ lw_gd := List.mem_filter.mpr ⟨List.mem_of_getElem? (i := 376) (by decide +kernel), by decide +kernel⟩
theorem im_yX6_keep : (Cond.instanceMethod yX6_keep) ∈ lw_gd := List.mem_filter.mpr ⟨List.mem_of_getElem? (i := 377) (by decide +kernel), by decide +kernel⟩
theorem se_yX6_keep : (Cond.selects RX6 yX6_keep yX6_keep) ∈ lw_gd := List.mem_filter.mpr ⟨List.mem_of_getElem? (i := 378) (by decide +kernel), by decide +kernel⟩
theorem co_yX6_keep : (Cond.code yX6_keep cX6_keep 1 (some .int)) ∈ lw_gd := List.mem_filter.mpr ⟨List.mem_of_getElem? (i := 379) (by decide +kernel), by decide +kernel⟩
theorem ml_RX6_134 : (Cond.methodLink RX6 134 yX4_take) ∈ lw_gd := List.mem_filter.mpr ⟨List.mem_of_getElem? (i := 380) (by decide +kernel), by decide +kernel⟩
theorem ml_R_law_59 : (Cond.methodLink R_law 59 yX6_restore) ∈ lw_gd := List.mem_filter.mpr ⟨List.mem_of_getElem? (i := 381) (by decide +kernel), by decide +kernel⟩
theorem im_yX6_restore : (Cond.instanceMethod yX6_restore) ∈ lw_gd := List.mem_filter.mpr ⟨List.mem_of_getElem? (i := 382) (by decide +kernel), by decide +kernel⟩
theorem se_yX6_restore : (Cond.selects RX6 yX6_restore yX6_restore) ∈ lw_gd := List.mem_filter.mpr ⟨List.mem_of_getElem? (i := 383) (by decide +kernel), by decide +kernel⟩
theorem co_yX6_restore : (Cond.code yX6_restore cX6_restore 1 (some .int)) ∈ lw_gd := List.mem_filter.mpr ⟨List.mem_of_getElem? (i := 384) (by decide +kernel), by decide +kernel⟩
theorem ml_R_law_63 : (Cond.methodLink R_law 63 yX6_link) ∈ lw_gd := List.mem_filter.mpr ⟨List.mem_of_getElem? (i := 385) (by decide +kernel), by decide +kernel⟩
theorem im_yX6_link : (Cond.instanceMethod yX6_link) ∈ lw_gd := List.mem_filter.mpr ⟨List.mem_of_getElem? (i := 386) (by decide +kernel), by decide +kernel⟩
theorem se_yX6_link : (Cond.selects RX6 yX6_link yX6_link) ∈ lw_gd := List.mem_filter.mpr ⟨List.mem_of_getElem? (i := 387) (by decide +kernel), by decide +kernel⟩
theorem co_yX6_link : (Cond.code yX6_link cX6_link 3 (some .int)) ∈ lw_gd := List.mem_filter.mpr ⟨List.mem_of_getElem? (i := 388) (by decide +kernel), by decide +kernel⟩
theorem ml_RX6_137 : (Cond.methodLink RX6 137 yX4_spansOf) ∈ lw_gd := List.mem_filter.mpr ⟨List.mem_of_getElem? (i := 389) (by decide +kernel), by decide +kernel⟩
theorem im_yX4_spansOf : (Cond.instanceMethod yX4_spansOf) ∈ lw_gd := List.mem_filter.mpr ⟨List.mem_of_getElem? (i := 390) (by decide +kernel), by decide +kernel⟩
theorem se_yX4_spansOf : (Cond.selects RX4 yX4_spansOf yX4_spansOf) ∈ lw_gd := List.mem_filter.mpr ⟨List.mem_of_getElem? (i := 391) (by decide +kernel), by decide +kernel⟩
theorem co_yX4_spansOf : (Cond.code yX4_spansOf cX4_spansOf 5 (some .int)) ∈ lw_gd := List.mem_filter.mpr ⟨List.mem_of_getElem? (i := 392) (by decide +kernel), by decide +kernel⟩
theorem ml_RX4_44 : (RX4, 44, yX6_spanBegin, RX6) ∈ lw_nest := by decide +kernel
theorem sm_yX6_spanBegin : (Cond.static yX6_spanBegin) ∈ lw_gd := List.mem_filter.mpr ⟨List.mem_of_getElem? (i := 394) (by decide +kernel), by decide +kernel⟩
theorem co_yX6_spanBegin : (Cond.code yX6_spanBegin cX6_spanBegin 2 (some .int)) ∈ lw_gd := List.mem_filter.mpr ⟨List.mem_of_getElem? (i := 395) (by decide +kernel), by decide +kernel⟩
theorem ml_RX6_190 : (Cond.methodLink RX6 190 yX6_spanLength) ∈ lw_gd := List.mem_filter.mpr ⟨List.mem_of_getElem? (i := 396) (by decide +kernel), by decide +kernel⟩
theorem sm_yX6_spanLength : (Cond.static yX6_spanLength) ∈ lw_gd := List.mem_filter.mpr ⟨List.mem_of_getElem? (i := 397) (by decide +kernel), by decide +kernel⟩
theorem co_yX6_spanLength : (Cond.code yX6_spanLength cX6_spanLength 1 (some .int)) ∈ lw_gd := List.mem_filter.mpr ⟨List.mem_of_getElem? (i := 398) (by decide +kernel), by decide +kernel⟩
theorem ml_RX4_48 : (Cond.methodLink RX4 48 yX4_isLaidAt) ∈ lw_gd := List.mem_filter.mpr ⟨List.mem_of_getElem? (i := 399) (by decide +kernel), by decide +kernel⟩
theorem im_yX4_isLaidAt : (Cond.instanceMethod yX4_isLaidAt) ∈ lw_gd := List.mem_filter.mpr ⟨List.mem_of_getElem? (i := 400) (by decide +kernel), by decide +kernel⟩
theorem se_yX4_isLaidAt : (Cond.selects RX4 yX4_isLaidAt yX4_isLaidAt) ∈ lw_gd := List.mem_filter.mpr ⟨List.mem_of_getElem? (i := 401) (by decide +kernel), by decide +kernel⟩
theorem co_yX4_isLaidAt : (Cond.code yX4_isLaidAt cX4_isLaidAt 4 (some .boolean)) ∈ lw_gd := List.mem_filter.mpr ⟨List.mem_of_getElem? (i := 402) (by decide +kernel), by decide +kernel⟩
theorem ml_RX4_36 : (RX4, 36, yX6_spanLength, RX6) ∈ lw_nest := by decide +kernel
theorem ml_RX4_40 : (Cond.methodLink RX4 40 yX4_coversAll) ∈ lw_gd := List.mem_filter.mpr ⟨List.mem_of_getElem? (i := 404) (by decide +kernel), by decide +kernel⟩
theorem im_yX4_coversAll : (Cond.instanceMethod yX4_coversAll) ∈ lw_gd := List.mem_filter.mpr ⟨List.mem_of_getElem? (i := 406) (by decide +kernel), by decide +kernel⟩
theorem co_yX4_coversAll : (Cond.code yX4_coversAll cX4_coversAll 4 (some .boolean)) ∈ lw_gd := List.mem_filter.mpr ⟨List.mem_of_getElem? (i := 407) (by decide +kernel), by decide +kernel⟩
theorem ml_RX6_140 : (Cond.methodLink RX6 140 yX5_neededMomentsOf) ∈ lw_gd := List.mem_filter.mpr ⟨List.mem_of_getElem? (i := 408) (by decide +kernel), by decide +kernel⟩
theorem im_yX5_neededMomentsOf : (Cond.instanceMethod yX5_neededMomentsOf) ∈ lw_gd := List.mem_filter.mpr ⟨List.mem_of_getElem? (i := 409) (by decide +kernel), by decide +kernel⟩
theorem se_yX5_neededMomentsOf : (Cond.selects RX5 yX5_neededMomentsOf yX5_neededMomentsOf) ∈ lw_gd := List.mem_filter.mpr ⟨List.mem_of_getElem? (i := 410) (by decide +kernel), by decide +kernel⟩
theorem co_yX5_neededMomentsOf : (Cond.code yX5_neededMomentsOf cX5_neededMomentsOf 5 (some .int)) ∈ lw_gd := List.mem_filter.mpr ⟨List.mem_of_getElem? (i := 411) (by decide +kernel), by decide +kernel⟩
theorem ml_RX5_66 : (Cond.methodLink RX5 66 yX5_isNeededAt) ∈ lw_gd := List.mem_filter.mpr ⟨List.mem_of_getElem? (i := 412) (by decide +kernel), by decide +kernel⟩
theorem im_yX5_isNeededAt : (Cond.instanceMethod yX5_isNeededAt) ∈ lw_gd := List.mem_filter.mpr ⟨List.mem_of_getElem? (i := 413) (by decide +kernel), by decide +kernel⟩
theorem se_yX5_isNeededAt : (Cond.selects RX5 yX5_isNeededAt yX5_isNeededAt) ∈ lw_gd := List.mem_filter.mpr ⟨List.mem_of_getElem? (i := 414) (by decide +kernel), by decide +kernel⟩
theorem co_yX5_isNeededAt : (Cond.code yX5_isNeededAt cX5_isNeededAt 4 (some .boolean)) ∈ lw_gd := List.mem_filter.mpr ⟨List.mem_of_getElem? (i := 415) (by decide +kernel), by decide +kernel⟩
theorem ml_RX5_32 : (Cond.methodLink RX5 32 yX4_livesAt) ∈ lw_gd := List.mem_filter.mpr ⟨List.mem_of_getElem? (i := 416) (by decide +kernel), by decide +kernel⟩
theorem ml_RX5_47 : (Cond.methodLink RX5 47 yX5_joinWithout) ∈ lw_gd := List.mem_filter.mpr ⟨List.mem_of_getElem? (i := 417) (by decide +kernel), by decide +kernel⟩
theorem im_yX5_joinWithout : (Cond.instanceMethod yX5_joinWithout) ∈ lw_gd := List.mem_filter.mpr ⟨List.mem_of_getElem? (i := 419) (by decide +kernel), by decide +kernel⟩
theorem co_yX5_joinWithout : (Cond.code yX5_joinWithout cX5_joinWithout 5 none) ∈ lw_gd := List.mem_filter.mpr ⟨List.mem_of_getElem? (i := 420) (by decide +kernel), by decide +kernel⟩
theorem ml_RX5_23 : (Cond.methodLink RX5 23 yX2_takeBackTo) ∈ lw_gd := List.mem_filter.mpr ⟨List.mem_of_getElem? (i := 421) (by decide +kernel), by decide +kernel⟩
theorem im_yX2_takeBackTo : (Cond.instanceMethod yX2_takeBackTo) ∈ lw_gd := List.mem_filter.mpr ⟨List.mem_of_getElem? (i := 422) (by decide +kernel), by decide +kernel⟩
theorem se_yX2_takeBackTo : (Cond.selects RX2 yX2_takeBackTo yX2_takeBackTo) ∈ lw_gd := List.mem_filter.mpr ⟨List.mem_of_getElem? (i := 423) (by decide +kernel), by decide +kernel⟩
theorem co_yX2_takeBackTo : (Cond.code yX2_takeBackTo cX2_takeBackTo 3 none) ∈ lw_gd := List.mem_filter.mpr ⟨List.mem_of_getElem? (i := 424) (by decide +kernel), by decide +kernel⟩
theorem ml_RX2_37 : (Cond.methodLink RX2 37 yX2_takeOff) ∈ lw_gd := List.mem_filter.mpr ⟨List.mem_of_getElem? (i := 425) (by decide +kernel), by decide +kernel⟩
theorem im_yX2_takeOff : (Cond.instanceMethod yX2_takeOff) ∈ lw_gd := List.mem_filter.mpr ⟨List.mem_of_getElem? (i := 427) (by decide +kernel), by decide +kernel⟩
theorem co_yX2_takeOff : (Cond.code yX2_takeOff cX2_takeOff 3 none) ∈ lw_gd := List.mem_filter.mpr ⟨List.mem_of_getElem? (i := 428) (by decide +kernel), by decide +kernel⟩
theorem ml_RX2_29 : (Cond.methodLink RX2 29 yX2_has) ∈ lw_gd := List.mem_filter.mpr ⟨List.mem_of_getElem? (i := 429) (by decide +kernel), by decide +kernel⟩
theorem im_yX2_has : (Cond.instanceMethod yX2_has) ∈ lw_gd := List.mem_filter.mpr ⟨List.mem_of_getElem? (i := 431) (by decide +kernel), by decide +kernel⟩
theorem co_yX2_has : (Cond.code yX2_has cX2_has 2 (some .boolean)) ∈ lw_gd := List.mem_filter.mpr ⟨List.mem_of_getElem? (i := 432) (by decide +kernel), by decide +kernel⟩
theorem ml_RX5_26 : (Cond.methodLink RX5 26 yX4_size) ∈ lw_gd := List.mem_filter.mpr ⟨List.mem_of_getElem? (i := 433) (by decide +kernel), by decide +kernel⟩
theorem ml_RX5_36 : (Cond.methodLink RX5 36 yX4_oneOf) ∈ lw_gd := List.mem_filter.mpr ⟨List.mem_of_getElem? (i := 434) (by decide +kernel), by decide +kernel⟩
theorem ml_RX5_40 : (Cond.methodLink RX5 40 yX4_otherOf) ∈ lw_gd := List.mem_filter.mpr ⟨List.mem_of_getElem? (i := 435) (by decide +kernel), by decide +kernel⟩
theorem ml_RX5_43 : (Cond.methodLink RX5 43 yX2_join) ∈ lw_gd := List.mem_filter.mpr ⟨List.mem_of_getElem? (i := 436) (by decide +kernel), by decide +kernel⟩
theorem im_yX2_join : (Cond.instanceMethod yX2_join) ∈ lw_gd := List.mem_filter.mpr ⟨List.mem_of_getElem? (i := 437) (by decide +kernel), by decide +kernel⟩
theorem se_yX2_join : (Cond.selects RX2 yX2_join yX2_join) ∈ lw_gd := List.mem_filter.mpr ⟨List.mem_of_getElem? (i := 438) (by decide +kernel), by decide +kernel⟩
theorem co_yX2_join : (Cond.code yX2_join cX2_join 6 none) ∈ lw_gd := List.mem_filter.mpr ⟨List.mem_of_getElem? (i := 439) (by decide +kernel), by decide +kernel⟩
theorem ml_RX2_33 : (Cond.methodLink RX2 33 yX2_topOf) ∈ lw_gd := List.mem_filter.mpr ⟨List.mem_of_getElem? (i := 440) (by decide +kernel), by decide +kernel⟩
theorem im_yX2_topOf : (Cond.instanceMethod yX2_topOf) ∈ lw_gd := List.mem_filter.mpr ⟨List.mem_of_getElem? (i := 442) (by decide +kernel), by decide +kernel⟩
theorem co_yX2_topOf : (Cond.code yX2_topOf cX2_topOf 4 (some .int)) ∈ lw_gd := List.mem_filter.mpr ⟨List.mem_of_getElem? (i := 443) (by decide +kernel), by decide +kernel⟩
theorem ml_RX5_51 : (Cond.methodLink RX5 51 yX2_areJoined) ∈ lw_gd := List.mem_filter.mpr ⟨List.mem_of_getElem? (i := 444) (by decide +kernel), by decide +kernel⟩
theorem im_yX2_areJoined : (Cond.instanceMethod yX2_areJoined) ∈ lw_gd := List.mem_filter.mpr ⟨List.mem_of_getElem? (i := 445) (by decide +kernel), by decide +kernel⟩
theorem se_yX2_areJoined : (Cond.selects RX2 yX2_areJoined yX2_areJoined) ∈ lw_gd := List.mem_filter.mpr ⟨List.mem_of_getElem? (i := 446) (by decide +kernel), by decide +kernel⟩
theorem co_yX2_areJoined : (Cond.code yX2_areJoined cX2_areJoined 3 (some .boolean)) ∈ lw_gd := List.mem_filter.mpr ⟨List.mem_of_getElem? (i := 447) (by decide +kernel), by decide +kernel⟩
theorem ml_R_law_67 : (Cond.methodLink R_law 67 yX6_joined) ∈ lw_gd := List.mem_filter.mpr ⟨List.mem_of_getElem? (i := 448) (by decide +kernel), by decide +kernel⟩
theorem im_yX6_joined : (Cond.instanceMethod yX6_joined) ∈ lw_gd := List.mem_filter.mpr ⟨List.mem_of_getElem? (i := 449) (by decide +kernel), by decide +kernel⟩
theorem se_yX6_joined : (Cond.selects RX6 yX6_joined yX6_joined) ∈ lw_gd := List.mem_filter.mpr ⟨List.mem_of_getElem? (i := 450) (by decide +kernel), by decide +kernel⟩
theorem co_yX6_joined : (Cond.code yX6_joined cX6_joined 4 (some .int)) ∈ lw_gd := List.mem_filter.mpr ⟨List.mem_of_getElem? (i := 451) (by decide +kernel), by decide +kernel⟩
theorem ml_RX6_144 : (Cond.methodLink RX6 144 yX5_areJoinedAt) ∈ lw_gd := List.mem_filter.mpr ⟨List.mem_of_getElem? (i := 452) (by decide +kernel), by decide +kernel⟩
theorem im_yX5_areJoinedAt : (Cond.instanceMethod yX5_areJoinedAt) ∈ lw_gd := List.mem_filter.mpr ⟨List.mem_of_getElem? (i := 453) (by decide +kernel), by decide +kernel⟩
theorem se_yX5_areJoinedAt : (Cond.selects RX5 yX5_areJoinedAt yX5_areJoinedAt) ∈ lw_gd := List.mem_filter.mpr ⟨List.mem_of_getElem? (i := 454) (by decide +kernel), by decide +kernel⟩
theorem co_yX5_areJoinedAt : (Cond.code yX5_areJoinedAt cX5_areJoinedAt 5 (some .boolean)) ∈ lw_gd := List.mem_filter.mpr ⟨List.mem_of_getElem? (i := 455) (by decide +kernel), by decide +kernel⟩
theorem ml_RX6_148 : (Cond.methodLink RX6 148 yX6_asNumber) ∈ lw_gd := List.mem_filter.mpr ⟨List.mem_of_getElem? (i := 456) (by decide +kernel), by decide +kernel⟩
theorem sm_yX6_asNumber : (Cond.static yX6_asNumber) ∈ lw_gd := List.mem_filter.mpr ⟨List.mem_of_getElem? (i := 457) (by decide +kernel), by decide +kernel⟩
theorem co_yX6_asNumber : (Cond.code yX6_asNumber cX6_asNumber 1 (some .int)) ∈ lw_gd := List.mem_filter.mpr ⟨List.mem_of_getElem? (i := 458) (by decide +kernel), by decide +kernel⟩
theorem ml_R_law_71 : (Cond.methodLink R_law 71 yX6_moment) ∈ lw_gd := List.mem_filter.mpr ⟨List.mem_of_getElem? (i := 459) (by decide +kernel), by decide +kernel⟩
theorem im_yX6_moment : (Cond.instanceMethod yX6_moment) ∈ lw_gd := List.mem_filter.mpr ⟨List.mem_of_getElem? (i := 460) (by decide +kernel), by decide +kernel⟩
theorem se_yX6_moment : (Cond.selects RX6 yX6_moment yX6_moment) ∈ lw_gd := List.mem_filter.mpr ⟨List.mem_of_getElem? (i := 461) (by decide +kernel), by decide +kernel⟩
theorem co_yX6_moment : (Cond.code yX6_moment cX6_moment 3 (some .int)) ∈ lw_gd := List.mem_filter.mpr ⟨List.mem_of_getElem? (i := 462) (by decide +kernel), by decide +kernel⟩
theorem ml_RX6_152 : (Cond.methodLink RX6 152 yX5_partsAt) ∈ lw_gd := List.mem_filter.mpr ⟨List.mem_of_getElem? (i := 463) (by decide +kernel), by decide +kernel⟩
theorem im_yX5_partsAt : (Cond.instanceMethod yX5_partsAt) ∈ lw_gd := List.mem_filter.mpr ⟨List.mem_of_getElem? (i := 464) (by decide +kernel), by decide +kernel⟩
theorem se_yX5_partsAt : (Cond.selects RX5 yX5_partsAt yX5_partsAt) ∈ lw_gd := List.mem_filter.mpr ⟨List.mem_of_getElem? (i := 465) (by decide +kernel), by decide +kernel⟩
theorem co_yX5_partsAt : (Cond.code yX5_partsAt cX5_partsAt 3 (some .int)) ∈ lw_gd := List.mem_filter.mpr ⟨List.mem_of_getElem? (i := 466) (by decide +kernel), by decide +kernel⟩
theorem ml_RX5_54 : (Cond.methodLink RX5 54 yX2_standing) ∈ lw_gd := List.mem_filter.mpr ⟨List.mem_of_getElem? (i := 467) (by decide +kernel), by decide +kernel⟩
theorem im_yX2_standing : (Cond.instanceMethod yX2_standing) ∈ lw_gd := List.mem_filter.mpr ⟨List.mem_of_getElem? (i := 468) (by decide +kernel), by decide +kernel⟩
theorem se_yX2_standing : (Cond.selects RX2 yX2_standing yX2_standing) ∈ lw_gd := List.mem_filter.mpr ⟨List.mem_of_getElem? (i := 469) (by decide +kernel), by decide +kernel⟩
theorem co_yX2_standing : (Cond.code yX2_standing cX2_standing 1 (some .int)) ∈ lw_gd := List.mem_filter.mpr ⟨List.mem_of_getElem? (i := 470) (by decide +kernel), by decide +kernel⟩
theorem ml_RX6_155 : (Cond.methodLink RX6 155 yX5_isOddAt) ∈ lw_gd := List.mem_filter.mpr ⟨List.mem_of_getElem? (i := 471) (by decide +kernel), by decide +kernel⟩
theorem im_yX5_isOddAt : (Cond.instanceMethod yX5_isOddAt) ∈ lw_gd := List.mem_filter.mpr ⟨List.mem_of_getElem? (i := 472) (by decide +kernel), by decide +kernel⟩
theorem se_yX5_isOddAt : (Cond.selects RX5 yX5_isOddAt yX5_isOddAt) ∈ lw_gd := List.mem_filter.mpr ⟨List.mem_of_getElem? (i := 473) (by decide +kernel), by decide +kernel⟩
theorem co_yX5_isOddAt : (Cond.code yX5_isOddAt cX5_isOddAt 4 (some .boolean)) ∈ lw_gd := List.mem_filter.mpr ⟨List.mem_of_getElem? (i := 474) (by decide +kernel), by decide +kernel⟩
theorem ml_RX6_159 : (Cond.methodLink RX6 159 yX5_greatestPartAt) ∈ lw_gd := List.mem_filter.mpr ⟨List.mem_of_getElem? (i := 475) (by decide +kernel), by decide +kernel⟩
theorem im_yX5_greatestPartAt : (Cond.instanceMethod yX5_greatestPartAt) ∈ lw_gd := List.mem_filter.mpr ⟨List.mem_of_getElem? (i := 476) (by decide +kernel), by decide +kernel⟩
theorem se_yX5_greatestPartAt : (Cond.selects RX5 yX5_greatestPartAt yX5_greatestPartAt) ∈ lw_gd := List.mem_filter.mpr ⟨List.mem_of_getElem? (i := 477) (by decide +kernel), by decide +kernel⟩
theorem co_yX5_greatestPartAt : (Cond.code yX5_greatestPartAt cX5_greatestPartAt 5 (some .int)) ∈ lw_gd := List.mem_filter.mpr ⟨List.mem_of_getElem? (i := 478) (by decide +kernel), by decide +kernel⟩
theorem ml_RX5_57 : (Cond.methodLink RX5 57 yX2_partSize) ∈ lw_gd := List.mem_filter.mpr ⟨List.mem_of_getElem? (i := 479) (by decide +kernel), by decide +kernel⟩
theorem im_yX2_partSize : (Cond.instanceMethod yX2_partSize) ∈ lw_gd := List.mem_filter.mpr ⟨List.mem_of_getElem? (i := 480) (by decide +kernel), by decide +kernel⟩
theorem se_yX2_partSize : (Cond.selects RX2 yX2_partSize yX2_partSize) ∈ lw_gd := List.mem_filter.mpr ⟨List.mem_of_getElem? (i := 481) (by decide +kernel), by decide +kernel⟩
theorem co_yX2_partSize : (Cond.code yX2_partSize cX2_partSize 3 (some .int)) ∈ lw_gd := List.mem_filter.mpr ⟨List.mem_of_getElem? (i := 482) (by decide +kernel), by decide +kernel⟩
theorem ml_RX5_60 : (Cond.methodLink RX5 60 Lib.Math.max.name) ∈ lw_gd := List.mem_filter.mpr ⟨List.mem_of_getElem? (i := 483) (by decide +kernel), by decide +kernel⟩
theorem ml_RX6_162 : (Cond.methodLink RX6 162 yX5_neededLinksAt) ∈ lw_gd := List.mem_filter.mpr ⟨List.mem_of_getElem? (i := 484) (by decide +kernel), by decide +kernel⟩
theorem im_yX5_neededLinksAt : (Cond.instanceMethod yX5_neededLinksAt) ∈ lw_gd := List.mem_filter.mpr ⟨List.mem_of_getElem? (i := 485) (by decide +kernel), by decide +kernel⟩
theorem se_yX5_neededLinksAt : (Cond.selects RX5 yX5_neededLinksAt yX5_neededLinksAt) ∈ lw_gd := List.mem_filter.mpr ⟨List.mem_of_getElem? (i := 486) (by decide +kernel), by decide +kernel⟩
theorem co_yX5_neededLinksAt : (Cond.code yX5_neededLinksAt cX5_neededLinksAt 5 (some .int)) ∈ lw_gd := List.mem_filter.mpr ⟨List.mem_of_getElem? (i := 487) (by decide +kernel), by decide +kernel⟩
theorem ml_RX6_165 : (Cond.methodLink RX6 165 yX5_linklessPointsAt) ∈ lw_gd := List.mem_filter.mpr ⟨List.mem_of_getElem? (i := 488) (by decide +kernel), by decide +kernel⟩
theorem im_yX5_linklessPointsAt : (Cond.instanceMethod yX5_linklessPointsAt) ∈ lw_gd := List.mem_filter.mpr ⟨List.mem_of_getElem? (i := 489) (by decide +kernel), by decide +kernel⟩
theorem se_yX5_linklessPointsAt : (Cond.selects RX5 yX5_linklessPointsAt yX5_linklessPointsAt) ∈ lw_gd := List.mem_filter.mpr ⟨List.mem_of_getElem? (i := 490) (by decide +kernel), by decide +kernel⟩
theorem co_yX5_linklessPointsAt : (Cond.code yX5_linklessPointsAt cX5_linklessPointsAt 5 (some .int)) ∈ lw_gd := List.mem_filter.mpr ⟨List.mem_of_getElem? (i := 491) (by decide +kernel), by decide +kernel⟩
theorem ml_R_law_75 : (Cond.methodLink R_law 75 yX6_part) ∈ lw_gd := List.mem_filter.mpr ⟨List.mem_of_getElem? (i := 492) (by decide +kernel), by decide +kernel⟩
theorem im_yX6_part : (Cond.instanceMethod yX6_part) ∈ lw_gd := List.mem_filter.mpr ⟨List.mem_of_getElem? (i := 493) (by decide +kernel), by decide +kernel⟩
theorem se_yX6_part : (Cond.selects RX6 yX6_part yX6_part) ∈ lw_gd := List.mem_filter.mpr ⟨List.mem_of_getElem? (i := 494) (by decide +kernel), by decide +kernel⟩
theorem co_yX6_part : (Cond.code yX6_part cX6_part 4 (some .int)) ∈ lw_gd := List.mem_filter.mpr ⟨List.mem_of_getElem? (i := 495) (by decide +kernel), by decide +kernel⟩
theorem ml_RX6_168 : (Cond.methodLink RX6 168 yX5_lowestOfPartAt) ∈ lw_gd := List.mem_filter.mpr ⟨List.mem_of_getElem? (i := 496) (by decide +kernel), by decide +kernel⟩
theorem im_yX5_lowestOfPartAt : (Cond.instanceMethod yX5_lowestOfPartAt) ∈ lw_gd := List.mem_filter.mpr ⟨List.mem_of_getElem? (i := 497) (by decide +kernel), by decide +kernel⟩
theorem se_yX5_lowestOfPartAt : (Cond.selects RX5 yX5_lowestOfPartAt yX5_lowestOfPartAt) ∈ lw_gd := List.mem_filter.mpr ⟨List.mem_of_getElem? (i := 498) (by decide +kernel), by decide +kernel⟩
theorem co_yX5_lowestOfPartAt : (Cond.code yX5_lowestOfPartAt cX5_lowestOfPartAt 5 (some .int)) ∈ lw_gd := List.mem_filter.mpr ⟨List.mem_of_getElem? (i := 499) (by decide +kernel), by decide +kernel⟩
theorem ml_RX6_172 : (Cond.methodLink RX6 172 yX5_partSizeAt) ∈ lw_gd := List.mem_filter.mpr ⟨List.mem_of_getElem? (i := 500) (by decide +kernel), by decide +kernel⟩
theorem im_yX5_partSizeAt : (Cond.instanceMethod yX5_partSizeAt) ∈ lw_gd := List.mem_filter.mpr ⟨List.mem_of_getElem? (i := 501) (by decide +kernel), by decide +kernel⟩
theorem se_yX5_partSizeAt : (Cond.selects RX5 yX5_partSizeAt yX5_partSizeAt) ∈ lw_gd := List.mem_filter.mpr ⟨List.mem_of_getElem? (i := 502) (by decide +kernel), by decide +kernel⟩
theorem co_yX5_partSizeAt : (Cond.code yX5_partSizeAt cX5_partSizeAt 4 (some .int)) ∈ lw_gd := List.mem_filter.mpr ⟨List.mem_of_getElem? (i := 503) (by decide +kernel), by decide +kernel⟩
theorem ml_RX6_175 : (Cond.methodLink RX6 175 yX5_partBitsAt) ∈ lw_gd := List.mem_filter.mpr ⟨List.mem_of_getElem? (i := 504) (by decide +kernel), by decide +kernel⟩
theorem im_yX5_partBitsAt : (Cond.instanceMethod yX5_partBitsAt) ∈ lw_gd := List.mem_filter.mpr ⟨List.mem_of_getElem? (i := 505) (by decide +kernel), by decide +kernel⟩
theorem se_yX5_partBitsAt : (Cond.selects RX5 yX5_partBitsAt yX5_partBitsAt) ∈ lw_gd := List.mem_filter.mpr ⟨List.mem_of_getElem? (i := 506) (by decide +kernel), by decide +kernel⟩
theorem co_yX5_partBitsAt : (Cond.code yX5_partBitsAt cX5_partBitsAt 6 (some .int)) ∈ lw_gd := List.mem_filter.mpr ⟨List.mem_of_getElem? (i := 507) (by decide +kernel), by decide +kernel⟩
theorem ml_R_law_79 : (Cond.methodLink R_law 79 yX6_needed) ∈ lw_gd := List.mem_filter.mpr ⟨List.mem_of_getElem? (i := 508) (by decide +kernel), by decide +kernel⟩
theorem im_yX6_needed : (Cond.instanceMethod yX6_needed) ∈ lw_gd := List.mem_filter.mpr ⟨List.mem_of_getElem? (i := 509) (by decide +kernel), by decide +kernel⟩
theorem se_yX6_needed : (Cond.selects RX6 yX6_needed yX6_needed) ∈ lw_gd := List.mem_filter.mpr ⟨List.mem_of_getElem? (i := 510) (by decide +kernel), by decide +kernel⟩
theorem co_yX6_needed : (Cond.code yX6_needed cX6_needed 3 (some .int)) ∈ lw_gd := List.mem_filter.mpr ⟨List.mem_of_getElem? (i := 511) (by decide +kernel), by decide +kernel⟩
theorem ml_RX6_178 : (Cond.methodLink RX6 178 yX5_isNeededAt) ∈ lw_gd := List.mem_filter.mpr ⟨List.mem_of_getElem? (i := 512) (by decide +kernel), by decide +kernel⟩
theorem ml_R_law_83 : (Cond.methodLink R_law 83 yX6_together) ∈ lw_gd := List.mem_filter.mpr ⟨List.mem_of_getElem? (i := 513) (by decide +kernel), by decide +kernel⟩
theorem im_yX6_together : (Cond.instanceMethod yX6_together) ∈ lw_gd := List.mem_filter.mpr ⟨List.mem_of_getElem? (i := 514) (by decide +kernel), by decide +kernel⟩
theorem se_yX6_together : (Cond.selects RX6 yX6_together yX6_together) ∈ lw_gd := List.mem_filter.mpr ⟨List.mem_of_getElem? (i := 515) (by decide +kernel), by decide +kernel⟩
theorem co_yX6_together : (Cond.code yX6_together cX6_together 11 (some .int)) ∈ lw_gd := List.mem_filter.mpr ⟨List.mem_of_getElem? (i := 516) (by decide +kernel), by decide +kernel⟩
theorem ml_R_law_87 : (Cond.methodLink R_law 87 yX6_odd) ∈ lw_gd := List.mem_filter.mpr ⟨List.mem_of_getElem? (i := 517) (by decide +kernel), by decide +kernel⟩
theorem im_yX6_odd : (Cond.instanceMethod yX6_odd) ∈ lw_gd := List.mem_filter.mpr ⟨List.mem_of_getElem? (i := 518) (by decide +kernel), by decide +kernel⟩
theorem se_yX6_odd : (Cond.selects RX6 yX6_odd yX6_odd) ∈ lw_gd := List.mem_filter.mpr ⟨List.mem_of_getElem? (i := 519) (by decide +kernel), by decide +kernel⟩
theorem co_yX6_odd : (Cond.code yX6_odd cX6_odd 3 (some .int)) ∈ lw_gd := List.mem_filter.mpr ⟨List.mem_of_getElem? (i := 520) (by decide +kernel), by decide +kernel⟩
theorem ml_R_law_91 : (Cond.methodLink R_law 91 yX6_span) ∈ lw_gd := List.mem_filter.mpr ⟨List.mem_of_getElem? (i := 521) (by decide +kernel), by decide +kernel⟩
theorem im_yX6_span : (Cond.instanceMethod yX6_span) ∈ lw_gd := List.mem_filter.mpr ⟨List.mem_of_getElem? (i := 522) (by decide +kernel), by decide +kernel⟩
theorem se_yX6_span : (Cond.selects RX6 yX6_span yX6_span) ∈ lw_gd := List.mem_filter.mpr ⟨List.mem_of_getElem? (i := 523) (by decide +kernel), by decide +kernel⟩
theorem co_yX6_span : (Cond.code yX6_span cX6_span 4 (some .int)) ∈ lw_gd := List.mem_filter.mpr ⟨List.mem_of_getElem? (i := 524) (by decide +kernel), by decide +kernel⟩
theorem ml_RX6_182 : (Cond.methodLink RX6 182 yX0_goTo) ∈ lw_gd := List.mem_filter.mpr ⟨List.mem_of_getElem? (i := 525) (by decide +kernel), by decide +kernel⟩
theorem im_yX0_goTo : (Cond.instanceMethod yX0_goTo) ∈ lw_gd := List.mem_filter.mpr ⟨List.mem_of_getElem? (i := 526) (by decide +kernel), by decide +kernel⟩
theorem se_yX0_goTo : (Cond.selects RX0 yX0_goTo yX0_goTo) ∈ lw_gd := List.mem_filter.mpr ⟨List.mem_of_getElem? (i := 527) (by decide +kernel), by decide +kernel⟩
theorem co_yX0_goTo : (Cond.code yX0_goTo cX0_goTo 5 none) ∈ lw_gd := List.mem_filter.mpr ⟨List.mem_of_getElem? (i := 528) (by decide +kernel), by decide +kernel⟩
theorem ml_RX0_40 : (RX0, 40, yX6_spanBegin, RX6) ∈ lw_nest := by decide +kernel
theorem ml_RX0_44 : (Cond.methodLink RX0 44 yX0_joinLaid) ∈ lw_gd := List.mem_filter.mpr ⟨List.mem_of_getElem? (i := 530) (by decide +kernel), by decide +kernel⟩
theorem im_yX0_joinLaid : (Cond.instanceMethod yX0_joinLaid) ∈ lw_gd := List.mem_filter.mpr ⟨List.mem_of_getElem? (i := 532) (by decide +kernel), by decide +kernel⟩
theorem co_yX0_joinLaid : (Cond.code yX0_joinLaid cX0_joinLaid 6 none) ∈ lw_gd := List.mem_filter.mpr ⟨List.mem_of_getElem? (i := 533) (by decide +kernel), by decide +kernel⟩
theorem ml_RX0_57 : (Cond.methodLink RX0 57 yX2_takeBackTo) ∈ lw_gd := List.mem_filter.mpr ⟨List.mem_of_getElem? (i := 534) (by decide +kernel), by decide +kernel⟩
theorem ml_RX0_60 : (Cond.methodLink RX0 60 yX4_size) ∈ lw_gd := List.mem_filter.mpr ⟨List.mem_of_getElem? (i := 535) (by decide +kernel), by decide +kernel⟩
theorem ml_RX0_65 : (Cond.methodLink RX0 65 yX4_isLaidAt) ∈ lw_gd := List.mem_filter.mpr ⟨List.mem_of_getElem? (i := 536) (by decide +kernel), by decide +kernel⟩
theorem ml_RX0_69 : (Cond.methodLink RX0 69 yX4_oneOf) ∈ lw_gd := List.mem_filter.mpr ⟨List.mem_of_getElem? (i := 537) (by decide +kernel), by decide +kernel⟩
theorem ml_RX0_73 : (Cond.methodLink RX0 73 yX4_otherOf) ∈ lw_gd := List.mem_filter.mpr ⟨List.mem_of_getElem? (i := 538) (by decide +kernel), by decide +kernel⟩
theorem ml_RX0_76 : (Cond.methodLink RX0 76 yX2_join) ∈ lw_gd := List.mem_filter.mpr ⟨List.mem_of_getElem? (i := 539) (by decide +kernel), by decide +kernel⟩
theorem ml_RX0_48 : (Cond.methodLink RX0 48 yX2_standing) ∈ lw_gd := List.mem_filter.mpr ⟨List.mem_of_getElem? (i := 540) (by decide +kernel), by decide +kernel⟩
theorem ml_RX6_186 : (Cond.methodLink RX6 186 yX6_spanBegin) ∈ lw_gd := List.mem_filter.mpr ⟨List.mem_of_getElem? (i := 541) (by decide +kernel), by decide +kernel⟩
theorem ml_RX6_193 : (Cond.methodLink RX6 193 yX0_laidHere) ∈ lw_gd := List.mem_filter.mpr ⟨List.mem_of_getElem? (i := 542) (by decide +kernel), by decide +kernel⟩
theorem im_yX0_laidHere : (Cond.instanceMethod yX0_laidHere) ∈ lw_gd := List.mem_filter.mpr ⟨List.mem_of_getElem? (i := 543) (by decide +kernel), by decide +kernel⟩
theorem se_yX0_laidHere : (Cond.selects RX0 yX0_laidHere yX0_laidHere) ∈ lw_gd := List.mem_filter.mpr ⟨List.mem_of_getElem? (i := 544) (by decide +kernel), by decide +kernel⟩
theorem co_yX0_laidHere : (Cond.code yX0_laidHere cX0_laidHere 1 (some .int)) ∈ lw_gd := List.mem_filter.mpr ⟨List.mem_of_getElem? (i := 545) (by decide +kernel), by decide +kernel⟩
theorem ml_RX6_196 : (Cond.methodLink RX6 196 yX0_madeHere) ∈ lw_gd := List.mem_filter.mpr ⟨List.mem_of_getElem? (i := 546) (by decide +kernel), by decide +kernel⟩
theorem im_yX0_madeHere : (Cond.instanceMethod yX0_madeHere) ∈ lw_gd := List.mem_filter.mpr ⟨List.mem_of_getElem? (i := 547) (by decide +kernel), by decide +kernel⟩
theorem se_yX0_madeHere : (Cond.selects RX0 yX0_madeHere yX0_madeHere) ∈ lw_gd := List.mem_filter.mpr ⟨List.mem_of_getElem? (i := 548) (by decide +kernel), by decide +kernel⟩
theorem co_yX0_madeHere : (Cond.code yX0_madeHere cX0_madeHere 1 (some .int)) ∈ lw_gd := List.mem_filter.mpr ⟨List.mem_of_getElem? (i := 549) (by decide +kernel), by decide +kernel⟩
theorem ml_R_law_95 : (Cond.methodLink R_law 95 yX6_count) ∈ lw_gd := List.mem_filter.mpr ⟨List.mem_of_getElem? (i := 550) (by decide +kernel), by decide +kernel⟩
theorem im_yX6_count : (Cond.instanceMethod yX6_count) ∈ lw_gd := List.mem_filter.mpr ⟨List.mem_of_getElem? (i := 551) (by decide +kernel), by decide +kernel⟩
theorem se_yX6_count : (Cond.selects RX6 yX6_count yX6_count) ∈ lw_gd := List.mem_filter.mpr ⟨List.mem_of_getElem? (i := 552) (by decide +kernel), by decide +kernel⟩
theorem co_yX6_count : (Cond.code yX6_count cX6_count 2 (some .int)) ∈ lw_gd := List.mem_filter.mpr ⟨List.mem_of_getElem? (i := 553) (by decide +kernel), by decide +kernel⟩
theorem ml_RX6_199 : (Cond.methodLink RX6 199 yX6_countOnWay) ∈ lw_gd := List.mem_filter.mpr ⟨List.mem_of_getElem? (i := 554) (by decide +kernel), by decide +kernel⟩
theorem im_yX6_countOnWay : (Cond.instanceMethod yX6_countOnWay) ∈ lw_gd := List.mem_filter.mpr ⟨List.mem_of_getElem? (i := 556) (by decide +kernel), by decide +kernel⟩
theorem co_yX6_countOnWay : (Cond.code yX6_countOnWay cX6_countOnWay 2 (some .int)) ∈ lw_gd := List.mem_filter.mpr ⟨List.mem_of_getElem? (i := 557) (by decide +kernel), by decide +kernel⟩
theorem ml_RX6_211 : (Cond.methodLink RX6 211 yX0_goAll) ∈ lw_gd := List.mem_filter.mpr ⟨List.mem_of_getElem? (i := 558) (by decide +kernel), by decide +kernel⟩
theorem im_yX0_goAll : (Cond.instanceMethod yX0_goAll) ∈ lw_gd := List.mem_filter.mpr ⟨List.mem_of_getElem? (i := 559) (by decide +kernel), by decide +kernel⟩
theorem se_yX0_goAll : (Cond.selects RX0 yX0_goAll yX0_goAll) ∈ lw_gd := List.mem_filter.mpr ⟨List.mem_of_getElem? (i := 560) (by decide +kernel), by decide +kernel⟩
theorem co_yX0_goAll : (Cond.code yX0_goAll cX0_goAll 4 none) ∈ lw_gd := List.mem_filter.mpr ⟨List.mem_of_getElem? (i := 561) (by decide +kernel), by decide +kernel⟩
theorem ml_RX0_52 : (Cond.methodLink RX0 52 Lib.Math.max.name) ∈ lw_gd := List.mem_filter.mpr ⟨List.mem_of_getElem? (i := 562) (by decide +kernel), by decide +kernel⟩
theorem ml_RX6_214 : (Cond.methodLink RX6 214 yX0_madeInAll) ∈ lw_gd := List.mem_filter.mpr ⟨List.mem_of_getElem? (i := 563) (by decide +kernel), by decide +kernel⟩
theorem im_yX0_madeInAll : (Cond.instanceMethod yX0_madeInAll) ∈ lw_gd := List.mem_filter.mpr ⟨List.mem_of_getElem? (i := 564) (by decide +kernel), by decide +kernel⟩
theorem se_yX0_madeInAll : (Cond.selects RX0 yX0_madeInAll yX0_madeInAll) ∈ lw_gd := List.mem_filter.mpr ⟨List.mem_of_getElem? (i := 565) (by decide +kernel), by decide +kernel⟩
theorem co_yX0_madeInAll : (Cond.code yX0_madeInAll cX0_madeInAll 1 (some .int)) ∈ lw_gd := List.mem_filter.mpr ⟨List.mem_of_getElem? (i := 566) (by decide +kernel), by decide +kernel⟩
theorem ml_RX6_217 : (Cond.methodLink RX6 217 yX0_idleInAll) ∈ lw_gd := List.mem_filter.mpr ⟨List.mem_of_getElem? (i := 567) (by decide +kernel), by decide +kernel⟩
theorem im_yX0_idleInAll : (Cond.instanceMethod yX0_idleInAll) ∈ lw_gd := List.mem_filter.mpr ⟨List.mem_of_getElem? (i := 568) (by decide +kernel), by decide +kernel⟩
theorem se_yX0_idleInAll : (Cond.selects RX0 yX0_idleInAll yX0_idleInAll) ∈ lw_gd := List.mem_filter.mpr ⟨List.mem_of_getElem? (i := 569) (by decide +kernel), by decide +kernel⟩
theorem co_yX0_idleInAll : (Cond.code yX0_idleInAll cX0_idleInAll 1 (some .int)) ∈ lw_gd := List.mem_filter.mpr ⟨List.mem_of_getElem? (i := 570) (by decide +kernel), by decide +kernel⟩
theorem ml_RX6_220 : (Cond.methodLink RX6 220 yX0_mostStanding) ∈ lw_gd := List.mem_filter.mpr ⟨List.mem_of_getElem? (i := 571) (by decide +kernel), by decide +kernel⟩
theorem im_yX0_mostStanding : (Cond.instanceMethod yX0_mostStanding) ∈ lw_gd := List.mem_filter.mpr ⟨List.mem_of_getElem? (i := 572) (by decide +kernel), by decide +kernel⟩
theorem se_yX0_mostStanding : (Cond.selects RX0 yX0_mostStanding yX0_mostStanding) ∈ lw_gd := List.mem_filter.mpr ⟨List.mem_of_getElem? (i := 573) (by decide +kernel), by decide +kernel⟩
theorem co_yX0_mostStanding : (Cond.code yX0_mostStanding cX0_mostStanding 1 (some .int)) ∈ lw_gd := List.mem_filter.mpr ⟨List.mem_of_getElem? (i := 574) (by decide +kernel), by decide +kernel⟩
theorem ml_RX6_202 : (Cond.methodLink RX6 202 yX5_oddMoments) ∈ lw_gd := List.mem_filter.mpr ⟨List.mem_of_getElem? (i := 575) (by decide +kernel), by decide +kernel⟩
theorem im_yX5_oddMoments : (Cond.instanceMethod yX5_oddMoments) ∈ lw_gd := List.mem_filter.mpr ⟨List.mem_of_getElem? (i := 576) (by decide +kernel), by decide +kernel⟩
theorem se_yX5_oddMoments : (Cond.selects RX5 yX5_oddMoments yX5_oddMoments) ∈ lw_gd := List.mem_filter.mpr ⟨List.mem_of_getElem? (i := 577) (by decide +kernel), by decide +kernel⟩
theorem co_yX5_oddMoments : (Cond.code yX5_oddMoments cX5_oddMoments 4 (some .int)) ∈ lw_gd := List.mem_filter.mpr ⟨List.mem_of_getElem? (i := 578) (by decide +kernel), by decide +kernel⟩
theorem ml_RX5_70 : (Cond.methodLink RX5 70 yX5_isOddAt) ∈ lw_gd := List.mem_filter.mpr ⟨List.mem_of_getElem? (i := 579) (by decide +kernel), by decide +kernel⟩
theorem ml_RX6_205 : (Cond.methodLink RX6 205 yX5_mostParts) ∈ lw_gd := List.mem_filter.mpr ⟨List.mem_of_getElem? (i := 580) (by decide +kernel), by decide +kernel⟩
theorem im_yX5_mostParts : (Cond.instanceMethod yX5_mostParts) ∈ lw_gd := List.mem_filter.mpr ⟨List.mem_of_getElem? (i := 581) (by decide +kernel), by decide +kernel⟩
theorem se_yX5_mostParts : (Cond.selects RX5 yX5_mostParts yX5_mostParts) ∈ lw_gd := List.mem_filter.mpr ⟨List.mem_of_getElem? (i := 582) (by decide +kernel), by decide +kernel⟩
theorem co_yX5_mostParts : (Cond.code yX5_mostParts cX5_mostParts 4 (some .int)) ∈ lw_gd := List.mem_filter.mpr ⟨List.mem_of_getElem? (i := 583) (by decide +kernel), by decide +kernel⟩
theorem ml_RX5_74 : (Cond.methodLink RX5 74 yX5_partsAt) ∈ lw_gd := List.mem_filter.mpr ⟨List.mem_of_getElem? (i := 584) (by decide +kernel), by decide +kernel⟩
theorem ml_RX6_208 : (Cond.methodLink RX6 208 yX5_fewestParts) ∈ lw_gd := List.mem_filter.mpr ⟨List.mem_of_getElem? (i := 585) (by decide +kernel), by decide +kernel⟩
theorem im_yX5_fewestParts : (Cond.instanceMethod yX5_fewestParts) ∈ lw_gd := List.mem_filter.mpr ⟨List.mem_of_getElem? (i := 586) (by decide +kernel), by decide +kernel⟩
theorem se_yX5_fewestParts : (Cond.selects RX5 yX5_fewestParts yX5_fewestParts) ∈ lw_gd := List.mem_filter.mpr ⟨List.mem_of_getElem? (i := 587) (by decide +kernel), by decide +kernel⟩
theorem co_yX5_fewestParts : (Cond.code yX5_fewestParts cX5_fewestParts 4 (some .int)) ∈ lw_gd := List.mem_filter.mpr ⟨List.mem_of_getElem? (i := 588) (by decide +kernel), by decide +kernel⟩
theorem ml_RX5_78 : (Cond.methodLink RX5 78 Lib.Math.min.name) ∈ lw_gd := List.mem_filter.mpr ⟨List.mem_of_getElem? (i := 589) (by decide +kernel), by decide +kernel⟩
theorem sm_Lib_Math_min_name : (Cond.static Lib.Math.min.name) ∈ lw_gd := List.mem_filter.mpr ⟨List.mem_of_getElem? (i := 590) (by decide +kernel), by decide +kernel⟩
theorem co_Lib_Math_min_name : (Cond.code Lib.Math.min.name Lib.Math.min.code 2 (some .int)) ∈ lw_gd := List.mem_filter.mpr ⟨List.mem_of_getElem? (i := 591) (by decide +kernel), by decide +kernel⟩
theorem cl_R_law_10 : (Cond.classLink R_law 10 RX7) ∈ lw_gd := List.mem_filter.mpr ⟨List.mem_of_getElem? (i := 592) (by decide +kernel), by decide +kernel⟩
theorem ins_RX7 : (Cond.instantiable RX7 12) ∈ lw_gd := List.mem_filter.mpr ⟨List.mem_of_getElem? (i := 593) (by decide +kernel), by decide +kernel⟩
theorem ml_R_law_12 : (Cond.methodLink R_law 12 yX7_init) ∈ lw_gd := List.mem_filter.mpr ⟨List.mem_of_getElem? (i := 594) (by decide +kernel), by decide +kernel⟩
theorem im_yX7_init : (Cond.instanceMethod yX7_init) ∈ lw_gd := List.mem_filter.mpr ⟨List.mem_of_getElem? (i := 595) (by decide +kernel), by decide +kernel⟩
theorem co_yX7_init : (Cond.code yX7_init cX7_init 1 none) ∈ lw_gd := List.mem_filter.mpr ⟨List.mem_of_getElem? (i := 596) (by decide +kernel), by decide +kernel⟩
theorem ml_RX7_1 : (Cond.methodLink RX7 1 objectInit) ∈ lw_gd := List.mem_filter.mpr ⟨List.mem_of_getElem? (i := 597) (by decide +kernel), by decide +kernel⟩
theorem fl_RX7_7 : (Cond.fieldLink RX7 7 "LivedLinksModel" "all" "[I") ∈ lw_gd := List.mem_filter.mpr ⟨List.mem_of_getElem? (i := 598) (by decide +kernel), by decide +kernel⟩
theorem fl_RX7_13 : (Cond.fieldLink RX7 13 "LivedLinksModel" "kept" "[I") ∈ lw_gd := List.mem_filter.mpr ⟨List.mem_of_getElem? (i := 599) (by decide +kernel), by decide +kernel⟩
theorem fl_RX7_16 : (Cond.fieldLink RX7 16 "LivedLinksModel" "history" "[I") ∈ lw_gd := List.mem_filter.mpr ⟨List.mem_of_getElem? (i := 600) (by decide +kernel), by decide +kernel⟩
theorem fl_RX7_28 : (Cond.fieldLink RX7 28 "LivedLinksModel" "historyLong" "I") ∈ lw_gd := List.mem_filter.mpr ⟨List.mem_of_getElem? (i := 601) (by decide +kernel), by decide +kernel⟩
theorem fl_RX7_19 : (Cond.fieldLink RX7 19 "LivedLinksModel" "snapshot" "[I") ∈ lw_gd := List.mem_filter.mpr ⟨List.mem_of_getElem? (i := 602) (by decide +kernel), by decide +kernel⟩
theorem fl_RX7_146 : (Cond.fieldLink RX7 146 "LivedLinksModel" "isTaken" "I") ∈ lw_gd := List.mem_filter.mpr ⟨List.mem_of_getElem? (i := 603) (by decide +kernel), by decide +kernel⟩
theorem fl_RX7_22 : (Cond.fieldLink RX7 22 "LivedLinksModel" "text" "[I") ∈ lw_gd := List.mem_filter.mpr ⟨List.mem_of_getElem? (i := 604) (by decide +kernel), by decide +kernel⟩
theorem fl_RX7_113 : (Cond.fieldLink RX7 113 "LivedLinksModel" "textLong" "I") ∈ lw_gd := List.mem_filter.mpr ⟨List.mem_of_getElem? (i := 605) (by decide +kernel), by decide +kernel⟩
theorem fl_RX7_116 : (Cond.fieldLink RX7 116 "LivedLinksModel" "spot" "I") ∈ lw_gd := List.mem_filter.mpr ⟨List.mem_of_getElem? (i := 606) (by decide +kernel), by decide +kernel⟩
theorem fl_RX7_122 : (Cond.fieldLink RX7 122 "LivedLinksModel" "number" "I") ∈ lw_gd := List.mem_filter.mpr ⟨List.mem_of_getElem? (i := 607) (by decide +kernel), by decide +kernel⟩
theorem fl_RX7_25 : (Cond.fieldLink RX7 25 "LivedLinksModel" "read" "[I") ∈ lw_gd := List.mem_filter.mpr ⟨List.mem_of_getElem? (i := 608) (by decide +kernel), by decide +kernel⟩
theorem fl_RX7_125 : (Cond.fieldLink RX7 125 "LivedLinksModel" "readMany" "I") ∈ lw_gd := List.mem_filter.mpr ⟨List.mem_of_getElem? (i := 609) (by decide +kernel), by decide +kernel⟩
theorem ml_R_law_17 : (Cond.methodLink R_law 17 yX7_addLink) ∈ lw_gd := List.mem_filter.mpr ⟨List.mem_of_getElem? (i := 635) (by decide +kernel), by decide +kernel⟩
theorem im_yX7_addLink : (Cond.instanceMethod yX7_addLink) ∈ lw_gd := List.mem_filter.mpr ⟨List.mem_of_getElem? (i := 636) (by decide +kernel), by decide +kernel⟩
theorem se_yX7_addLink : (Cond.selects RX7 yX7_addLink yX7_addLink) ∈ lw_gd := List.mem_filter.mpr ⟨List.mem_of_getElem? (i := 637) (by decide +kernel), by decide +kernel⟩
theorem co_yX7_addLink : (Cond.code yX7_addLink cX7_addLink 5 (some .int)) ∈ lw_gd := List.mem_filter.mpr ⟨List.mem_of_getElem? (i := 638) (by decide +kernel), by decide +kernel⟩
theorem ml_RX7_83 : (Cond.methodLink RX7 83 yX7_isPoint) ∈ lw_gd := List.mem_filter.mpr ⟨List.mem_of_getElem? (i := 639) (by decide +kernel), by decide +kernel⟩
theorem sm_yX7_isPoint : (Cond.static yX7_isPoint) ∈ lw_gd := List.mem_filter.mpr ⟨List.mem_of_getElem? (i := 640) (by decide +kernel), by decide +kernel⟩
theorem co_yX7_isPoint : (Cond.code yX7_isPoint cX7_isPoint 1 (some .boolean)) ∈ lw_gd := List.mem_filter.mpr ⟨List.mem_of_getElem? (i := 641) (by decide +kernel), by decide +kernel⟩
theorem kl_RX7_32 : (Cond.constantLong RX7 32 (15)) ∈ lw_gd := List.mem_filter.mpr ⟨List.mem_of_getElem? (i := 642) (by decide +kernel), by decide +kernel⟩
theorem ml_RX7_34 : (Cond.methodLink RX7 34 yX7_in) ∈ lw_gd := List.mem_filter.mpr ⟨List.mem_of_getElem? (i := 643) (by decide +kernel), by decide +kernel⟩
theorem sm_yX7_in : (Cond.static yX7_in) ∈ lw_gd := List.mem_filter.mpr ⟨List.mem_of_getElem? (i := 644) (by decide +kernel), by decide +kernel⟩
theorem co_yX7_in : (Cond.code yX7_in cX7_in 6 (some .boolean)) ∈ lw_gd := List.mem_filter.mpr ⟨List.mem_of_getElem? (i := 645) (by decide +kernel), by decide +kernel⟩
theorem ml_RX7_86 : (Cond.methodLink RX7 86 yX7_isLife) ∈ lw_gd := List.mem_filter.mpr ⟨List.mem_of_getElem? (i := 646) (by decide +kernel), by decide +kernel⟩
theorem sm_yX7_isLife : (Cond.static yX7_isLife) ∈ lw_gd := List.mem_filter.mpr ⟨List.mem_of_getElem? (i := 647) (by decide +kernel), by decide +kernel⟩
theorem co_yX7_isLife : (Cond.code yX7_isLife cX7_isLife 2 (some .boolean)) ∈ lw_gd := List.mem_filter.mpr ⟨List.mem_of_getElem? (i := 648) (by decide +kernel), by decide +kernel⟩
theorem ml_RX7_40 : (Cond.methodLink RX7 40 yX7_isMoment) ∈ lw_gd := List.mem_filter.mpr ⟨List.mem_of_getElem? (i := 649) (by decide +kernel), by decide +kernel⟩
theorem sm_yX7_isMoment : (Cond.static yX7_isMoment) ∈ lw_gd := List.mem_filter.mpr ⟨List.mem_of_getElem? (i := 650) (by decide +kernel), by decide +kernel⟩
theorem co_yX7_isMoment : (Cond.code yX7_isMoment cX7_isMoment 1 (some .boolean)) ∈ lw_gd := List.mem_filter.mpr ⟨List.mem_of_getElem? (i := 651) (by decide +kernel), by decide +kernel⟩
theorem kl_RX7_38 : (Cond.constantLong RX7 38 (63)) ∈ lw_gd := List.mem_filter.mpr ⟨List.mem_of_getElem? (i := 652) (by decide +kernel), by decide +kernel⟩
theorem kl_RX7_44 : (Cond.constantLong RX7 44 (64)) ∈ lw_gd := List.mem_filter.mpr ⟨List.mem_of_getElem? (i := 653) (by decide +kernel), by decide +kernel⟩
theorem ml_RX7_89 : (Cond.methodLink RX7 89 yX7_remember) ∈ lw_gd := List.mem_filter.mpr ⟨List.mem_of_getElem? (i := 654) (by decide +kernel), by decide +kernel⟩
theorem im_yX7_remember : (Cond.instanceMethod yX7_remember) ∈ lw_gd := List.mem_filter.mpr ⟨List.mem_of_getElem? (i := 656) (by decide +kernel), by decide +kernel⟩
theorem co_yX7_remember : (Cond.code yX7_remember cX7_remember 2 none) ∈ lw_gd := List.mem_filter.mpr ⟨List.mem_of_getElem? (i := 657) (by decide +kernel), by decide +kernel⟩
theorem ml_RX7_92 : (Cond.methodLink RX7 92 yX7_adds) ∈ lw_gd := List.mem_filter.mpr ⟨List.mem_of_getElem? (i := 658) (by decide +kernel), by decide +kernel⟩
theorem im_yX7_adds : (Cond.instanceMethod yX7_adds) ∈ lw_gd := List.mem_filter.mpr ⟨List.mem_of_getElem? (i := 660) (by decide +kernel), by decide +kernel⟩
theorem co_yX7_adds : (Cond.code yX7_adds cX7_adds 6 none) ∈ lw_gd := List.mem_filter.mpr ⟨List.mem_of_getElem? (i := 661) (by decide +kernel), by decide +kernel⟩
theorem ml_RX7_96 : (Cond.methodLink RX7 96 yX7_acted) ∈ lw_gd := List.mem_filter.mpr ⟨List.mem_of_getElem? (i := 662) (by decide +kernel), by decide +kernel⟩
theorem im_yX7_acted : (Cond.instanceMethod yX7_acted) ∈ lw_gd := List.mem_filter.mpr ⟨List.mem_of_getElem? (i := 664) (by decide +kernel), by decide +kernel⟩
theorem co_yX7_acted : (Cond.code yX7_acted cX7_acted 3 (some .int)) ∈ lw_gd := List.mem_filter.mpr ⟨List.mem_of_getElem? (i := 665) (by decide +kernel), by decide +kernel⟩
theorem ml_R_law_22 : (Cond.methodLink R_law 22 yX7_removeLink) ∈ lw_gd := List.mem_filter.mpr ⟨List.mem_of_getElem? (i := 666) (by decide +kernel), by decide +kernel⟩
theorem im_yX7_removeLink : (Cond.instanceMethod yX7_removeLink) ∈ lw_gd := List.mem_filter.mpr ⟨List.mem_of_getElem? (i := 667) (by decide +kernel), by decide +kernel⟩
theorem se_yX7_removeLink : (Cond.selects RX7 yX7_removeLink yX7_removeLink) ∈ lw_gd := List.mem_filter.mpr ⟨List.mem_of_getElem? (i := 668) (by decide +kernel), by decide +kernel⟩
theorem co_yX7_removeLink : (Cond.code yX7_removeLink cX7_removeLink 2 (some .int)) ∈ lw_gd := List.mem_filter.mpr ⟨List.mem_of_getElem? (i := 669) (by decide +kernel), by decide +kernel⟩
theorem ml_RX7_99 : (Cond.methodLink RX7 99 yX7_isLink) ∈ lw_gd := List.mem_filter.mpr ⟨List.mem_of_getElem? (i := 670) (by decide +kernel), by decide +kernel⟩
theorem im_yX7_isLink : (Cond.instanceMethod yX7_isLink) ∈ lw_gd := List.mem_filter.mpr ⟨List.mem_of_getElem? (i := 672) (by decide +kernel), by decide +kernel⟩
theorem co_yX7_isLink : (Cond.code yX7_isLink cX7_isLink 2 (some .boolean)) ∈ lw_gd := List.mem_filter.mpr ⟨List.mem_of_getElem? (i := 673) (by decide +kernel), by decide +kernel⟩
theorem ml_RX7_102 : (Cond.methodLink RX7 102 yX7_takesOut) ∈ lw_gd := List.mem_filter.mpr ⟨List.mem_of_getElem? (i := 674) (by decide +kernel), by decide +kernel⟩
theorem im_yX7_takesOut : (Cond.instanceMethod yX7_takesOut) ∈ lw_gd := List.mem_filter.mpr ⟨List.mem_of_getElem? (i := 676) (by decide +kernel), by decide +kernel⟩
theorem co_yX7_takesOut : (Cond.code yX7_takesOut cX7_takesOut 4 none) ∈ lw_gd := List.mem_filter.mpr ⟨List.mem_of_getElem? (i := 677) (by decide +kernel), by decide +kernel⟩
theorem ml_R_law_27 : (Cond.methodLink R_law 27 yX7_setLife) ∈ lw_gd := List.mem_filter.mpr ⟨List.mem_of_getElem? (i := 678) (by decide +kernel), by decide +kernel⟩
theorem im_yX7_setLife : (Cond.instanceMethod yX7_setLife) ∈ lw_gd := List.mem_filter.mpr ⟨List.mem_of_getElem? (i := 679) (by decide +kernel), by decide +kernel⟩
theorem se_yX7_setLife : (Cond.selects RX7 yX7_setLife yX7_setLife) ∈ lw_gd := List.mem_filter.mpr ⟨List.mem_of_getElem? (i := 680) (by decide +kernel), by decide +kernel⟩
theorem co_yX7_setLife : (Cond.code yX7_setLife cX7_setLife 4 (some .int)) ∈ lw_gd := List.mem_filter.mpr ⟨List.mem_of_getElem? (i := 681) (by decide +kernel), by decide +kernel⟩
theorem ml_R_law_32 : (Cond.methodLink R_law 32 yX7_cut) ∈ lw_gd := List.mem_filter.mpr ⟨List.mem_of_getElem? (i := 682) (by decide +kernel), by decide +kernel⟩
theorem im_yX7_cut : (Cond.instanceMethod yX7_cut) ∈ lw_gd := List.mem_filter.mpr ⟨List.mem_of_getElem? (i := 683) (by decide +kernel), by decide +kernel⟩
theorem se_yX7_cut : (Cond.selects RX7 yX7_cut yX7_cut) ∈ lw_gd := List.mem_filter.mpr ⟨List.mem_of_getElem? (i := 684) (by decide +kernel), by decide +kernel⟩
theorem co_yX7_cut : (Cond.code yX7_cut cX7_cut 3 (some .int)) ∈ lw_gd := List.mem_filter.mpr ⟨List.mem_of_getElem? (i := 685) (by decide +kernel), by decide +kernel⟩
theorem ml_RX7_50 : (Cond.methodLink RX7 50 yX7_livesAt) ∈ lw_gd := List.mem_filter.mpr ⟨List.mem_of_getElem? (i := 686) (by decide +kernel), by decide +kernel⟩
theorem im_yX7_livesAt : (Cond.instanceMethod yX7_livesAt) ∈ lw_gd := List.mem_filter.mpr ⟨List.mem_of_getElem? (i := 688) (by decide +kernel), by decide +kernel⟩
theorem co_yX7_livesAt : (Cond.code yX7_livesAt cX7_livesAt 3 (some .boolean)) ∈ lw_gd := List.mem_filter.mpr ⟨List.mem_of_getElem? (i := 689) (by decide +kernel), by decide +kernel⟩
theorem ml_RX7_46 : (Cond.methodLink RX7 46 yX7_lives) ∈ lw_gd := List.mem_filter.mpr ⟨List.mem_of_getElem? (i := 690) (by decide +kernel), by decide +kernel⟩
theorem im_yX7_lives : (Cond.instanceMethod yX7_lives) ∈ lw_gd := List.mem_filter.mpr ⟨List.mem_of_getElem? (i := 692) (by decide +kernel), by decide +kernel⟩
theorem co_yX7_lives : (Cond.code yX7_lives cX7_lives 4 (some .boolean)) ∈ lw_gd := List.mem_filter.mpr ⟨List.mem_of_getElem? (i := 693) (by decide +kernel), by decide +kernel⟩
theorem ml_R_law_41 : (Cond.methodLink R_law 41 yX7_clear) ∈ lw_gd := List.mem_filter.mpr ⟨List.mem_of_getElem? (i := 694) (by decide +kernel), by decide +kernel⟩
theorem im_yX7_clear : (Cond.instanceMethod yX7_clear) ∈ lw_gd := List.mem_filter.mpr ⟨List.mem_of_getElem? (i := 695) (by decide +kernel), by decide +kernel⟩
theorem se_yX7_clear : (Cond.selects RX7 yX7_clear yX7_clear) ∈ lw_gd := List.mem_filter.mpr ⟨List.mem_of_getElem? (i := 696) (by decide +kernel), by decide +kernel⟩
theorem co_yX7_clear : (Cond.code yX7_clear cX7_clear 4 (some .int)) ∈ lw_gd := List.mem_filter.mpr ⟨List.mem_of_getElem? (i := 697) (by decide +kernel), by decide +kernel⟩
theorem ml_RX7_106 : (Cond.methodLink RX7 106 yX7_livingAt) ∈ lw_gd := List.mem_filter.mpr ⟨List.mem_of_getElem? (i := 698) (by decide +kernel), by decide +kernel⟩
theorem im_yX7_livingAt : (Cond.instanceMethod yX7_livingAt) ∈ lw_gd := List.mem_filter.mpr ⟨List.mem_of_getElem? (i := 700) (by decide +kernel), by decide +kernel⟩
theorem co_yX7_livingAt : (Cond.code yX7_livingAt cX7_livingAt 5 (some .long)) ∈ lw_gd := List.mem_filter.mpr ⟨List.mem_of_getElem? (i := 701) (by decide +kernel), by decide +kernel⟩
theorem ml_RX7_110 : (Cond.methodLink RX7 110 yX7_bits) ∈ lw_gd := List.mem_filter.mpr ⟨List.mem_of_getElem? (i := 702) (by decide +kernel), by decide +kernel⟩
theorem sm_yX7_bits : (Cond.static yX7_bits) ∈ lw_gd := List.mem_filter.mpr ⟨List.mem_of_getElem? (i := 703) (by decide +kernel), by decide +kernel⟩
theorem co_yX7_bits : (Cond.code yX7_bits cX7_bits 5 (some .int)) ∈ lw_gd := List.mem_filter.mpr ⟨List.mem_of_getElem? (i := 704) (by decide +kernel), by decide +kernel⟩
theorem ml_R_law_46 : (Cond.methodLink R_law 46 yX7_type) ∈ lw_gd := List.mem_filter.mpr ⟨List.mem_of_getElem? (i := 705) (by decide +kernel), by decide +kernel⟩
theorem im_yX7_type : (Cond.instanceMethod yX7_type) ∈ lw_gd := List.mem_filter.mpr ⟨List.mem_of_getElem? (i := 706) (by decide +kernel), by decide +kernel⟩
theorem se_yX7_type : (Cond.selects RX7 yX7_type yX7_type) ∈ lw_gd := List.mem_filter.mpr ⟨List.mem_of_getElem? (i := 707) (by decide +kernel), by decide +kernel⟩
theorem co_yX7_type : (Cond.code yX7_type cX7_type 2 (some .int)) ∈ lw_gd := List.mem_filter.mpr ⟨List.mem_of_getElem? (i := 708) (by decide +kernel), by decide +kernel⟩
theorem ml_R_law_50 : (Cond.methodLink R_law 50 yX7_clearText) ∈ lw_gd := List.mem_filter.mpr ⟨List.mem_of_getElem? (i := 709) (by decide +kernel), by decide +kernel⟩
theorem im_yX7_clearText : (Cond.instanceMethod yX7_clearText) ∈ lw_gd := List.mem_filter.mpr ⟨List.mem_of_getElem? (i := 710) (by decide +kernel), by decide +kernel⟩
theorem se_yX7_clearText : (Cond.selects RX7 yX7_clearText yX7_clearText) ∈ lw_gd := List.mem_filter.mpr ⟨List.mem_of_getElem? (i := 711) (by decide +kernel), by decide +kernel⟩
theorem co_yX7_clearText : (Cond.code yX7_clearText cX7_clearText 2 (some .int)) ∈ lw_gd := List.mem_filter.mpr ⟨List.mem_of_getElem? (i := 712) (by decide +kernel), by decide +kernel⟩
theorem ml_R_law_37 : (Cond.methodLink R_law 37 yX7_readLinks) ∈ lw_gd := List.mem_filter.mpr ⟨List.mem_of_getElem? (i := 713) (by decide +kernel), by decide +kernel⟩
theorem im_yX7_readLinks : (Cond.instanceMethod yX7_readLinks) ∈ lw_gd := List.mem_filter.mpr ⟨List.mem_of_getElem? (i := 714) (by decide +kernel), by decide +kernel⟩
theorem se_yX7_readLinks : (Cond.selects RX7 yX7_readLinks yX7_readLinks) ∈ lw_gd := List.mem_filter.mpr ⟨List.mem_of_getElem? (i := 715) (by decide +kernel), by decide +kernel⟩
theorem co_yX7_readLinks : (Cond.code yX7_readLinks cX7_readLinks 3 (some .int)) ∈ lw_gd := List.mem_filter.mpr ⟨List.mem_of_getElem? (i := 716) (by decide +kernel), by decide +kernel⟩
theorem ml_RX7_142 : (Cond.methodLink RX7 142 yX7_fault) ∈ lw_gd := List.mem_filter.mpr ⟨List.mem_of_getElem? (i := 717) (by decide +kernel), by decide +kernel⟩
theorem im_yX7_fault : (Cond.instanceMethod yX7_fault) ∈ lw_gd := List.mem_filter.mpr ⟨List.mem_of_getElem? (i := 719) (by decide +kernel), by decide +kernel⟩
theorem co_yX7_fault : (Cond.code yX7_fault cX7_fault 2 (some .int)) ∈ lw_gd := List.mem_filter.mpr ⟨List.mem_of_getElem? (i := 720) (by decide +kernel), by decide +kernel⟩
theorem ml_RX7_138 : (Cond.methodLink RX7 138 yX7_readsLink) ∈ lw_gd := List.mem_filter.mpr ⟨List.mem_of_getElem? (i := 721) (by decide +kernel), by decide +kernel⟩
theorem im_yX7_readsLink : (Cond.instanceMethod yX7_readsLink) ∈ lw_gd := List.mem_filter.mpr ⟨List.mem_of_getElem? (i := 723) (by decide +kernel), by decide +kernel⟩
theorem co_yX7_readsLink : (Cond.code yX7_readsLink cX7_readsLink 5 (some .boolean)) ∈ lw_gd := List.mem_filter.mpr ⟨List.mem_of_getElem? (i := 724) (by decide +kernel), by decide +kernel⟩
theorem ml_RX7_128 : (Cond.methodLink RX7 128 yX7_readsNumber) ∈ lw_gd := List.mem_filter.mpr ⟨List.mem_of_getElem? (i := 725) (by decide +kernel), by decide +kernel⟩
theorem im_yX7_readsNumber : (Cond.instanceMethod yX7_readsNumber) ∈ lw_gd := List.mem_filter.mpr ⟨List.mem_of_getElem? (i := 727) (by decide +kernel), by decide +kernel⟩
theorem co_yX7_readsNumber : (Cond.code yX7_readsNumber cX7_readsNumber 2 (some .boolean)) ∈ lw_gd := List.mem_filter.mpr ⟨List.mem_of_getElem? (i := 728) (by decide +kernel), by decide +kernel⟩
theorem ml_RX7_119 : (Cond.methodLink RX7 119 yX7_isHere) ∈ lw_gd := List.mem_filter.mpr ⟨List.mem_of_getElem? (i := 729) (by decide +kernel), by decide +kernel⟩
theorem im_yX7_isHere : (Cond.instanceMethod yX7_isHere) ∈ lw_gd := List.mem_filter.mpr ⟨List.mem_of_getElem? (i := 731) (by decide +kernel), by decide +kernel⟩
theorem co_yX7_isHere : (Cond.code yX7_isHere cX7_isHere 3 (some .boolean)) ∈ lw_gd := List.mem_filter.mpr ⟨List.mem_of_getElem? (i := 732) (by decide +kernel), by decide +kernel⟩
theorem ml_RX7_131 : (Cond.methodLink RX7 131 yX7_takes) ∈ lw_gd := List.mem_filter.mpr ⟨List.mem_of_getElem? (i := 733) (by decide +kernel), by decide +kernel⟩
theorem im_yX7_takes : (Cond.instanceMethod yX7_takes) ∈ lw_gd := List.mem_filter.mpr ⟨List.mem_of_getElem? (i := 735) (by decide +kernel), by decide +kernel⟩
theorem co_yX7_takes : (Cond.code yX7_takes cX7_takes 3 (some .boolean)) ∈ lw_gd := List.mem_filter.mpr ⟨List.mem_of_getElem? (i := 736) (by decide +kernel), by decide +kernel⟩
theorem ml_RX7_134 : (Cond.methodLink RX7 134 yX7_isTold) ∈ lw_gd := List.mem_filter.mpr ⟨List.mem_of_getElem? (i := 737) (by decide +kernel), by decide +kernel⟩
theorem im_yX7_isTold : (Cond.instanceMethod yX7_isTold) ∈ lw_gd := List.mem_filter.mpr ⟨List.mem_of_getElem? (i := 739) (by decide +kernel), by decide +kernel⟩
theorem co_yX7_isTold : (Cond.code yX7_isTold cX7_isTold 2 (some .boolean)) ∈ lw_gd := List.mem_filter.mpr ⟨List.mem_of_getElem? (i := 740) (by decide +kernel), by decide +kernel⟩
theorem ml_R_law_54 : (Cond.methodLink R_law 54 yX7_undo) ∈ lw_gd := List.mem_filter.mpr ⟨List.mem_of_getElem? (i := 741) (by decide +kernel), by decide +kernel⟩
theorem im_yX7_undo : (Cond.instanceMethod yX7_undo) ∈ lw_gd := List.mem_filter.mpr ⟨List.mem_of_getElem? (i := 742) (by decide +kernel), by decide +kernel⟩
theorem se_yX7_undo : (Cond.selects RX7 yX7_undo yX7_undo) ∈ lw_gd := List.mem_filter.mpr ⟨List.mem_of_getElem? (i := 743) (by decide +kernel), by decide +kernel⟩
theorem co_yX7_undo : (Cond.code yX7_undo cX7_undo 2 (some .int)) ∈ lw_gd := List.mem_filter.mpr ⟨List.mem_of_getElem? (i := 744) (by decide +kernel), by decide +kernel⟩
theorem ml_R_law_58 : (Cond.methodLink R_law 58 yX7_keep) ∈ lw_gd := List.mem_filter.mpr ⟨List.mem_of_getElem? (i := 745) (by decide +kernel), by decide +kernel⟩
theorem im_yX7_keep : (Cond.instanceMethod yX7_keep) ∈ lw_gd := List.mem_filter.mpr ⟨List.mem_of_getElem? (i := 746) (by decide +kernel), by decide +kernel⟩
theorem se_yX7_keep : (Cond.selects RX7 yX7_keep yX7_keep) ∈ lw_gd := List.mem_filter.mpr ⟨List.mem_of_getElem? (i := 747) (by decide +kernel), by decide +kernel⟩
theorem co_yX7_keep : (Cond.code yX7_keep cX7_keep 2 (some .int)) ∈ lw_gd := List.mem_filter.mpr ⟨List.mem_of_getElem? (i := 748) (by decide +kernel), by decide +kernel⟩
theorem ml_R_law_62 : (Cond.methodLink R_law 62 yX7_restore) ∈ lw_gd := List.mem_filter.mpr ⟨List.mem_of_getElem? (i := 749) (by decide +kernel), by decide +kernel⟩
theorem im_yX7_restore : (Cond.instanceMethod yX7_restore) ∈ lw_gd := List.mem_filter.mpr ⟨List.mem_of_getElem? (i := 750) (by decide +kernel), by decide +kernel⟩
theorem se_yX7_restore : (Cond.selects RX7 yX7_restore yX7_restore) ∈ lw_gd := List.mem_filter.mpr ⟨List.mem_of_getElem? (i := 751) (by decide +kernel), by decide +kernel⟩
theorem co_yX7_restore : (Cond.code yX7_restore cX7_restore 2 (some .int)) ∈ lw_gd := List.mem_filter.mpr ⟨List.mem_of_getElem? (i := 752) (by decide +kernel), by decide +kernel⟩
theorem ml_R_law_66 : (Cond.methodLink R_law 66 yX7_link) ∈ lw_gd := List.mem_filter.mpr ⟨List.mem_of_getElem? (i := 753) (by decide +kernel), by decide +kernel⟩
theorem im_yX7_link : (Cond.instanceMethod yX7_link) ∈ lw_gd := List.mem_filter.mpr ⟨List.mem_of_getElem? (i := 754) (by decide +kernel), by decide +kernel⟩
theorem se_yX7_link : (Cond.selects RX7 yX7_link yX7_link) ∈ lw_gd := List.mem_filter.mpr ⟨List.mem_of_getElem? (i := 755) (by decide +kernel), by decide +kernel⟩
theorem co_yX7_link : (Cond.code yX7_link cX7_link 3 (some .int)) ∈ lw_gd := List.mem_filter.mpr ⟨List.mem_of_getElem? (i := 756) (by decide +kernel), by decide +kernel⟩
theorem ml_RX7_153 : (Cond.methodLink RX7 153 yX7_spansOf) ∈ lw_gd := List.mem_filter.mpr ⟨List.mem_of_getElem? (i := 757) (by decide +kernel), by decide +kernel⟩
theorem im_yX7_spansOf : (Cond.instanceMethod yX7_spansOf) ∈ lw_gd := List.mem_filter.mpr ⟨List.mem_of_getElem? (i := 759) (by decide +kernel), by decide +kernel⟩
theorem co_yX7_spansOf : (Cond.code yX7_spansOf cX7_spansOf 5 (some .int)) ∈ lw_gd := List.mem_filter.mpr ⟨List.mem_of_getElem? (i := 760) (by decide +kernel), by decide +kernel⟩
theorem ml_RX7_72 : (Cond.methodLink RX7 72 yX7_covers) ∈ lw_gd := List.mem_filter.mpr ⟨List.mem_of_getElem? (i := 761) (by decide +kernel), by decide +kernel⟩
theorem im_yX7_covers : (Cond.instanceMethod yX7_covers) ∈ lw_gd := List.mem_filter.mpr ⟨List.mem_of_getElem? (i := 763) (by decide +kernel), by decide +kernel⟩
theorem co_yX7_covers : (Cond.code yX7_covers cX7_covers 5 (some .boolean)) ∈ lw_gd := List.mem_filter.mpr ⟨List.mem_of_getElem? (i := 764) (by decide +kernel), by decide +kernel⟩
theorem ml_RX7_68 : (Cond.methodLink RX7 68 yX7_begin) ∈ lw_gd := List.mem_filter.mpr ⟨List.mem_of_getElem? (i := 765) (by decide +kernel), by decide +kernel⟩
theorem sm_yX7_begin : (Cond.static yX7_begin) ∈ lw_gd := List.mem_filter.mpr ⟨List.mem_of_getElem? (i := 766) (by decide +kernel), by decide +kernel⟩
theorem co_yX7_begin : (Cond.code yX7_begin cX7_begin 2 (some .int)) ∈ lw_gd := List.mem_filter.mpr ⟨List.mem_of_getElem? (i := 767) (by decide +kernel), by decide +kernel⟩
theorem ml_RX7_64 : (Cond.methodLink RX7 64 yX7_spanLong) ∈ lw_gd := List.mem_filter.mpr ⟨List.mem_of_getElem? (i := 768) (by decide +kernel), by decide +kernel⟩
theorem sm_yX7_spanLong : (Cond.static yX7_spanLong) ∈ lw_gd := List.mem_filter.mpr ⟨List.mem_of_getElem? (i := 769) (by decide +kernel), by decide +kernel⟩
theorem co_yX7_spanLong : (Cond.code yX7_spanLong cX7_spanLong 1 (some .int)) ∈ lw_gd := List.mem_filter.mpr ⟨List.mem_of_getElem? (i := 770) (by decide +kernel), by decide +kernel⟩
theorem ml_RX7_156 : (Cond.methodLink RX7 156 yX7_momentsNeeded) ∈ lw_gd := List.mem_filter.mpr ⟨List.mem_of_getElem? (i := 771) (by decide +kernel), by decide +kernel⟩
theorem im_yX7_momentsNeeded : (Cond.instanceMethod yX7_momentsNeeded) ∈ lw_gd := List.mem_filter.mpr ⟨List.mem_of_getElem? (i := 773) (by decide +kernel), by decide +kernel⟩
theorem co_yX7_momentsNeeded : (Cond.code yX7_momentsNeeded cX7_momentsNeeded 4 (some .int)) ∈ lw_gd := List.mem_filter.mpr ⟨List.mem_of_getElem? (i := 774) (by decide +kernel), by decide +kernel⟩
theorem ml_RX7_149 : (Cond.methodLink RX7 149 yX7_isNeeded) ∈ lw_gd := List.mem_filter.mpr ⟨List.mem_of_getElem? (i := 775) (by decide +kernel), by decide +kernel⟩
theorem im_yX7_isNeeded : (Cond.instanceMethod yX7_isNeeded) ∈ lw_gd := List.mem_filter.mpr ⟨List.mem_of_getElem? (i := 777) (by decide +kernel), by decide +kernel⟩
theorem co_yX7_isNeeded : (Cond.code yX7_isNeeded cX7_isNeeded 4 (some .boolean)) ∈ lw_gd := List.mem_filter.mpr ⟨List.mem_of_getElem? (i := 778) (by decide +kernel), by decide +kernel⟩
theorem kl_RX7_58 : (Cond.constantLong RX7 58 (-1)) ∈ lw_gd := List.mem_filter.mpr ⟨List.mem_of_getElem? (i := 779) (by decide +kernel), by decide +kernel⟩
theorem ml_RX7_60 : (Cond.methodLink RX7 60 yX7_join) ∈ lw_gd := List.mem_filter.mpr ⟨List.mem_of_getElem? (i := 780) (by decide +kernel), by decide +kernel⟩
theorem im_yX7_join : (Cond.instanceMethod yX7_join) ∈ lw_gd := List.mem_filter.mpr ⟨List.mem_of_getElem? (i := 782) (by decide +kernel), by decide +kernel⟩
theorem co_yX7_join : (Cond.code yX7_join cX7_join 5 (some .boolean)) ∈ lw_gd := List.mem_filter.mpr ⟨List.mem_of_getElem? (i := 783) (by decide +kernel), by decide +kernel⟩
theorem ml_RX7_54 : (Cond.methodLink RX7 54 yX7_reach) ∈ lw_gd := List.mem_filter.mpr ⟨List.mem_of_getElem? (i := 784) (by decide +kernel), by decide +kernel⟩
theorem im_yX7_reach : (Cond.instanceMethod yX7_reach) ∈ lw_gd := List.mem_filter.mpr ⟨List.mem_of_getElem? (i := 786) (by decide +kernel), by decide +kernel⟩
theorem co_yX7_reach : (Cond.code yX7_reach cX7_reach 9 (some .int)) ∈ lw_gd := List.mem_filter.mpr ⟨List.mem_of_getElem? (i := 787) (by decide +kernel), by decide +kernel⟩
theorem ml_R_law_70 : (Cond.methodLink R_law 70 yX7_joined) ∈ lw_gd := List.mem_filter.mpr ⟨List.mem_of_getElem? (i := 788) (by decide +kernel), by decide +kernel⟩
theorem im_yX7_joined : (Cond.instanceMethod yX7_joined) ∈ lw_gd := List.mem_filter.mpr ⟨List.mem_of_getElem? (i := 789) (by decide +kernel), by decide +kernel⟩
theorem se_yX7_joined : (Cond.selects RX7 yX7_joined yX7_joined) ∈ lw_gd := List.mem_filter.mpr ⟨List.mem_of_getElem? (i := 790) (by decide +kernel), by decide +kernel⟩
theorem co_yX7_joined : (Cond.code yX7_joined cX7_joined 4 (some .int)) ∈ lw_gd := List.mem_filter.mpr ⟨List.mem_of_getElem? (i := 791) (by decide +kernel), by decide +kernel⟩
theorem ml_R_law_74 : (Cond.methodLink R_law 74 yX7_moment) ∈ lw_gd := List.mem_filter.mpr ⟨List.mem_of_getElem? (i := 792) (by decide +kernel), by decide +kernel⟩
theorem im_yX7_moment : (Cond.instanceMethod yX7_moment) ∈ lw_gd := List.mem_filter.mpr ⟨List.mem_of_getElem? (i := 793) (by decide +kernel), by decide +kernel⟩
theorem se_yX7_moment : (Cond.selects RX7 yX7_moment yX7_moment) ∈ lw_gd := List.mem_filter.mpr ⟨List.mem_of_getElem? (i := 794) (by decide +kernel), by decide +kernel⟩
theorem co_yX7_moment : (Cond.code yX7_moment cX7_moment 5 (some .int)) ∈ lw_gd := List.mem_filter.mpr ⟨List.mem_of_getElem? (i := 795) (by decide +kernel), by decide +kernel⟩
theorem ml_RX7_79 : (Cond.methodLink RX7 79 yX7_parts) ∈ lw_gd := List.mem_filter.mpr ⟨List.mem_of_getElem? (i := 796) (by decide +kernel), by decide +kernel⟩
theorem im_yX7_parts : (Cond.instanceMethod yX7_parts) ∈ lw_gd := List.mem_filter.mpr ⟨List.mem_of_getElem? (i := 798) (by decide +kernel), by decide +kernel⟩
theorem co_yX7_parts : (Cond.code yX7_parts cX7_parts 6 (some .int)) ∈ lw_gd := List.mem_filter.mpr ⟨List.mem_of_getElem? (i := 799) (by decide +kernel), by decide +kernel⟩
theorem ml_RX7_159 : (Cond.methodLink RX7 159 yX7_isOdd) ∈ lw_gd := List.mem_filter.mpr ⟨List.mem_of_getElem? (i := 800) (by decide +kernel), by decide +kernel⟩
theorem im_yX7_isOdd : (Cond.instanceMethod yX7_isOdd) ∈ lw_gd := List.mem_filter.mpr ⟨List.mem_of_getElem? (i := 802) (by decide +kernel), by decide +kernel⟩
theorem co_yX7_isOdd : (Cond.code yX7_isOdd cX7_isOdd 13 (some .boolean)) ∈ lw_gd := List.mem_filter.mpr ⟨List.mem_of_getElem? (i := 803) (by decide +kernel), by decide +kernel⟩
theorem ml_RX7_163 : (Cond.methodLink RX7 163 yX7_greatestPart) ∈ lw_gd := List.mem_filter.mpr ⟨List.mem_of_getElem? (i := 804) (by decide +kernel), by decide +kernel⟩
theorem im_yX7_greatestPart : (Cond.instanceMethod yX7_greatestPart) ∈ lw_gd := List.mem_filter.mpr ⟨List.mem_of_getElem? (i := 806) (by decide +kernel), by decide +kernel⟩
theorem co_yX7_greatestPart : (Cond.code yX7_greatestPart cX7_greatestPart 6 (some .int)) ∈ lw_gd := List.mem_filter.mpr ⟨List.mem_of_getElem? (i := 807) (by decide +kernel), by decide +kernel⟩
theorem ml_RX7_166 : (Cond.methodLink RX7 166 yX7_neededAt) ∈ lw_gd := List.mem_filter.mpr ⟨List.mem_of_getElem? (i := 808) (by decide +kernel), by decide +kernel⟩
theorem im_yX7_neededAt : (Cond.instanceMethod yX7_neededAt) ∈ lw_gd := List.mem_filter.mpr ⟨List.mem_of_getElem? (i := 810) (by decide +kernel), by decide +kernel⟩
theorem co_yX7_neededAt : (Cond.code yX7_neededAt cX7_neededAt 5 (some .int)) ∈ lw_gd := List.mem_filter.mpr ⟨List.mem_of_getElem? (i := 811) (by decide +kernel), by decide +kernel⟩
theorem ml_RX7_169 : (Cond.methodLink RX7 169 yX7_alone) ∈ lw_gd := List.mem_filter.mpr ⟨List.mem_of_getElem? (i := 812) (by decide +kernel), by decide +kernel⟩
theorem im_yX7_alone : (Cond.instanceMethod yX7_alone) ∈ lw_gd := List.mem_filter.mpr ⟨List.mem_of_getElem? (i := 814) (by decide +kernel), by decide +kernel⟩
theorem co_yX7_alone : (Cond.code yX7_alone cX7_alone 5 (some .int)) ∈ lw_gd := List.mem_filter.mpr ⟨List.mem_of_getElem? (i := 815) (by decide +kernel), by decide +kernel⟩
theorem ml_R_law_78 : (Cond.methodLink R_law 78 yX7_part) ∈ lw_gd := List.mem_filter.mpr ⟨List.mem_of_getElem? (i := 816) (by decide +kernel), by decide +kernel⟩
theorem im_yX7_part : (Cond.instanceMethod yX7_part) ∈ lw_gd := List.mem_filter.mpr ⟨List.mem_of_getElem? (i := 817) (by decide +kernel), by decide +kernel⟩
theorem se_yX7_part : (Cond.selects RX7 yX7_part yX7_part) ∈ lw_gd := List.mem_filter.mpr ⟨List.mem_of_getElem? (i := 818) (by decide +kernel), by decide +kernel⟩
theorem co_yX7_part : (Cond.code yX7_part cX7_part 5 (some .int)) ∈ lw_gd := List.mem_filter.mpr ⟨List.mem_of_getElem? (i := 819) (by decide +kernel), by decide +kernel⟩
theorem ml_R_law_82 : (Cond.methodLink R_law 82 yX7_needed) ∈ lw_gd := List.mem_filter.mpr ⟨List.mem_of_getElem? (i := 820) (by decide +kernel), by decide +kernel⟩
theorem im_yX7_needed : (Cond.instanceMethod yX7_needed) ∈ lw_gd := List.mem_filter.mpr ⟨List.mem_of_getElem? (i := 821) (by decide +kernel), by decide +kernel⟩
theorem se_yX7_needed : (Cond.selects RX7 yX7_needed yX7_needed) ∈ lw_gd := List.mem_filter.mpr ⟨List.mem_of_getElem? (i := 822) (by decide +kernel), by decide +kernel⟩
theorem co_yX7_needed : (Cond.code yX7_needed cX7_needed 3 (some .int)) ∈ lw_gd := List.mem_filter.mpr ⟨List.mem_of_getElem? (i := 823) (by decide +kernel), by decide +kernel⟩
theorem ml_R_law_86 : (Cond.methodLink R_law 86 yX7_together) ∈ lw_gd := List.mem_filter.mpr ⟨List.mem_of_getElem? (i := 824) (by decide +kernel), by decide +kernel⟩
theorem im_yX7_together : (Cond.instanceMethod yX7_together) ∈ lw_gd := List.mem_filter.mpr ⟨List.mem_of_getElem? (i := 825) (by decide +kernel), by decide +kernel⟩
theorem se_yX7_together : (Cond.selects RX7 yX7_together yX7_together) ∈ lw_gd := List.mem_filter.mpr ⟨List.mem_of_getElem? (i := 826) (by decide +kernel), by decide +kernel⟩
theorem co_yX7_together : (Cond.code yX7_together cX7_together 12 (some .int)) ∈ lw_gd := List.mem_filter.mpr ⟨List.mem_of_getElem? (i := 827) (by decide +kernel), by decide +kernel⟩
theorem ml_R_law_90 : (Cond.methodLink R_law 90 yX7_odd) ∈ lw_gd := List.mem_filter.mpr ⟨List.mem_of_getElem? (i := 828) (by decide +kernel), by decide +kernel⟩
theorem im_yX7_odd : (Cond.instanceMethod yX7_odd) ∈ lw_gd := List.mem_filter.mpr ⟨List.mem_of_getElem? (i := 829) (by decide +kernel), by decide +kernel⟩
theorem se_yX7_odd : (Cond.selects RX7 yX7_odd yX7_odd) ∈ lw_gd := List.mem_filter.mpr ⟨List.mem_of_getElem? (i := 830) (by decide +kernel), by decide +kernel⟩
theorem co_yX7_odd : (Cond.code yX7_odd cX7_odd 3 (some .int)) ∈ lw_gd := List.mem_filter.mpr ⟨List.mem_of_getElem? (i := 831) (by decide +kernel), by decide +kernel⟩
theorem ml_R_law_94 : (Cond.methodLink R_law 94 yX7_span) ∈ lw_gd := List.mem_filter.mpr ⟨List.mem_of_getElem? (i := 832) (by decide +kernel), by decide +kernel⟩
theorem im_yX7_span : (Cond.instanceMethod yX7_span) ∈ lw_gd := List.mem_filter.mpr ⟨List.mem_of_getElem? (i := 833) (by decide +kernel), by decide +kernel⟩
theorem se_yX7_span : (Cond.selects RX7 yX7_span yX7_span) ∈ lw_gd := List.mem_filter.mpr ⟨List.mem_of_getElem? (i := 834) (by decide +kernel), by decide +kernel⟩
theorem co_yX7_span : (Cond.code yX7_span cX7_span 4 (some .int)) ∈ lw_gd := List.mem_filter.mpr ⟨List.mem_of_getElem? (i := 835) (by decide +kernel), by decide +kernel⟩
theorem kl_RX7_172 : (Cond.constantLong RX7 172 (6)) ∈ lw_gd := List.mem_filter.mpr ⟨List.mem_of_getElem? (i := 836) (by decide +kernel), by decide +kernel⟩
theorem kl_RX7_174 : (Cond.constantLong RX7 174 (4)) ∈ lw_gd := List.mem_filter.mpr ⟨List.mem_of_getElem? (i := 837) (by decide +kernel), by decide +kernel⟩
theorem ml_RX7_176 : (Cond.methodLink RX7 176 yX7_laidAt) ∈ lw_gd := List.mem_filter.mpr ⟨List.mem_of_getElem? (i := 838) (by decide +kernel), by decide +kernel⟩
theorem im_yX7_laidAt : (Cond.instanceMethod yX7_laidAt) ∈ lw_gd := List.mem_filter.mpr ⟨List.mem_of_getElem? (i := 840) (by decide +kernel), by decide +kernel⟩
theorem co_yX7_laidAt : (Cond.code yX7_laidAt cX7_laidAt 6 (some .long)) ∈ lw_gd := List.mem_filter.mpr ⟨List.mem_of_getElem? (i := 841) (by decide +kernel), by decide +kernel⟩
theorem ml_RX7_179 : (Cond.methodLink RX7 179 yX7_madeAt) ∈ lw_gd := List.mem_filter.mpr ⟨List.mem_of_getElem? (i := 842) (by decide +kernel), by decide +kernel⟩
theorem im_yX7_madeAt : (Cond.instanceMethod yX7_madeAt) ∈ lw_gd := List.mem_filter.mpr ⟨List.mem_of_getElem? (i := 844) (by decide +kernel), by decide +kernel⟩
theorem co_yX7_madeAt : (Cond.code yX7_madeAt cX7_madeAt 3 (some .int)) ∈ lw_gd := List.mem_filter.mpr ⟨List.mem_of_getElem? (i := 845) (by decide +kernel), by decide +kernel⟩
theorem ml_RX7_75 : (Cond.methodLink RX7 75 yX7_livingAll) ∈ lw_gd := List.mem_filter.mpr ⟨List.mem_of_getElem? (i := 846) (by decide +kernel), by decide +kernel⟩
theorem im_yX7_livingAll : (Cond.instanceMethod yX7_livingAll) ∈ lw_gd := List.mem_filter.mpr ⟨List.mem_of_getElem? (i := 848) (by decide +kernel), by decide +kernel⟩
theorem co_yX7_livingAll : (Cond.code yX7_livingAll cX7_livingAll 6 (some .long)) ∈ lw_gd := List.mem_filter.mpr ⟨List.mem_of_getElem? (i := 849) (by decide +kernel), by decide +kernel⟩
theorem ml_R_law_98 : (Cond.methodLink R_law 98 yX7_count) ∈ lw_gd := List.mem_filter.mpr ⟨List.mem_of_getElem? (i := 850) (by decide +kernel), by decide +kernel⟩
theorem im_yX7_count : (Cond.instanceMethod yX7_count) ∈ lw_gd := List.mem_filter.mpr ⟨List.mem_of_getElem? (i := 851) (by decide +kernel), by decide +kernel⟩
theorem se_yX7_count : (Cond.selects RX7 yX7_count yX7_count) ∈ lw_gd := List.mem_filter.mpr ⟨List.mem_of_getElem? (i := 852) (by decide +kernel), by decide +kernel⟩
theorem co_yX7_count : (Cond.code yX7_count cX7_count 2 (some .int)) ∈ lw_gd := List.mem_filter.mpr ⟨List.mem_of_getElem? (i := 853) (by decide +kernel), by decide +kernel⟩
theorem ml_RX7_182 : (Cond.methodLink RX7 182 yX7_ofSpans) ∈ lw_gd := List.mem_filter.mpr ⟨List.mem_of_getElem? (i := 854) (by decide +kernel), by decide +kernel⟩
theorem im_yX7_ofSpans : (Cond.instanceMethod yX7_ofSpans) ∈ lw_gd := List.mem_filter.mpr ⟨List.mem_of_getElem? (i := 856) (by decide +kernel), by decide +kernel⟩
theorem co_yX7_ofSpans : (Cond.code yX7_ofSpans cX7_ofSpans 6 (some .int)) ∈ lw_gd := List.mem_filter.mpr ⟨List.mem_of_getElem? (i := 857) (by decide +kernel), by decide +kernel⟩
theorem ml_RX7_185 : (Cond.methodLink RX7 185 yX7_ofMoments) ∈ lw_gd := List.mem_filter.mpr ⟨List.mem_of_getElem? (i := 858) (by decide +kernel), by decide +kernel⟩
theorem im_yX7_ofMoments : (Cond.instanceMethod yX7_ofMoments) ∈ lw_gd := List.mem_filter.mpr ⟨List.mem_of_getElem? (i := 860) (by decide +kernel), by decide +kernel⟩
theorem co_yX7_ofMoments : (Cond.code yX7_ofMoments cX7_ofMoments 9 (some .int)) ∈ lw_gd := List.mem_filter.mpr ⟨List.mem_of_getElem? (i := 861) (by decide +kernel), by decide +kernel⟩
theorem se_yX1_dropOldest : (Cond.selects RX1 yX1_dropOldest yX1_dropOldest) ∈ lw_gd := List.mem_filter.mpr ⟨List.mem_of_getElem? (i := 0) (by decide +kernel), by decide +kernel⟩
theorem se_yX3_readLink : (Cond.selects RX3 yX3_readLink yX3_readLink) ∈ lw_gd := List.mem_filter.mpr ⟨List.mem_of_getElem? (i := 1) (by decide +kernel), by decide +kernel⟩
theorem se_yX3_readNumber : (Cond.selects RX3 yX3_readNumber yX3_readNumber) ∈ lw_gd := List.mem_filter.mpr ⟨List.mem_of_getElem? (i := 2) (by decide +kernel), by decide +kernel⟩
theorem se_yX3_digitAt : (Cond.selects RX3 yX3_digitAt yX3_digitAt) ∈ lw_gd := List.mem_filter.mpr ⟨List.mem_of_getElem? (i := 3) (by decide +kernel), by decide +kernel⟩
theorem se_yX3_readSign : (Cond.selects RX3 yX3_readSign yX3_readSign) ∈ lw_gd := List.mem_filter.mpr ⟨List.mem_of_getElem? (i := 4) (by decide +kernel), by decide +kernel⟩
theorem se_yX3_refuseLastDigit : (Cond.selects RX3 yX3_refuseLastDigit yX3_refuseLastDigit) ∈ lw_gd := List.mem_filter.mpr ⟨List.mem_of_getElem? (i := 5) (by decide +kernel), by decide +kernel⟩
theorem se_yX4_coversAll : (Cond.selects RX4 yX4_coversAll yX4_coversAll) ∈ lw_gd := List.mem_filter.mpr ⟨List.mem_of_getElem? (i := 6) (by decide +kernel), by decide +kernel⟩
theorem se_yX5_joinWithout : (Cond.selects RX5 yX5_joinWithout yX5_joinWithout) ∈ lw_gd := List.mem_filter.mpr ⟨List.mem_of_getElem? (i := 7) (by decide +kernel), by decide +kernel⟩
theorem se_yX2_takeOff : (Cond.selects RX2 yX2_takeOff yX2_takeOff) ∈ lw_gd := List.mem_filter.mpr ⟨List.mem_of_getElem? (i := 8) (by decide +kernel), by decide +kernel⟩
theorem se_yX2_has : (Cond.selects RX2 yX2_has yX2_has) ∈ lw_gd := List.mem_filter.mpr ⟨List.mem_of_getElem? (i := 9) (by decide +kernel), by decide +kernel⟩
theorem se_yX2_topOf : (Cond.selects RX2 yX2_topOf yX2_topOf) ∈ lw_gd := List.mem_filter.mpr ⟨List.mem_of_getElem? (i := 10) (by decide +kernel), by decide +kernel⟩
theorem se_yX0_joinLaid : (Cond.selects RX0 yX0_joinLaid yX0_joinLaid) ∈ lw_gd := List.mem_filter.mpr ⟨List.mem_of_getElem? (i := 11) (by decide +kernel), by decide +kernel⟩
theorem se_yX6_countOnWay : (Cond.selects RX6 yX6_countOnWay yX6_countOnWay) ∈ lw_gd := List.mem_filter.mpr ⟨List.mem_of_getElem? (i := 12) (by decide +kernel), by decide +kernel⟩
theorem se_yX7_remember : (Cond.selects RX7 yX7_remember yX7_remember) ∈ lw_gd := List.mem_filter.mpr ⟨List.mem_of_getElem? (i := 13) (by decide +kernel), by decide +kernel⟩
theorem se_yX7_adds : (Cond.selects RX7 yX7_adds yX7_adds) ∈ lw_gd := List.mem_filter.mpr ⟨List.mem_of_getElem? (i := 14) (by decide +kernel), by decide +kernel⟩
theorem se_yX7_acted : (Cond.selects RX7 yX7_acted yX7_acted) ∈ lw_gd := List.mem_filter.mpr ⟨List.mem_of_getElem? (i := 15) (by decide +kernel), by decide +kernel⟩
theorem se_yX7_isLink : (Cond.selects RX7 yX7_isLink yX7_isLink) ∈ lw_gd := List.mem_filter.mpr ⟨List.mem_of_getElem? (i := 16) (by decide +kernel), by decide +kernel⟩
theorem se_yX7_takesOut : (Cond.selects RX7 yX7_takesOut yX7_takesOut) ∈ lw_gd := List.mem_filter.mpr ⟨List.mem_of_getElem? (i := 17) (by decide +kernel), by decide +kernel⟩
theorem se_yX7_livesAt : (Cond.selects RX7 yX7_livesAt yX7_livesAt) ∈ lw_gd := List.mem_filter.mpr ⟨List.mem_of_getElem? (i := 18) (by decide +kernel), by decide +kernel⟩
theorem se_yX7_lives : (Cond.selects RX7 yX7_lives yX7_lives) ∈ lw_gd := List.mem_filter.mpr ⟨List.mem_of_getElem? (i := 19) (by decide +kernel), by decide +kernel⟩
theorem se_yX7_livingAt : (Cond.selects RX7 yX7_livingAt yX7_livingAt) ∈ lw_gd := List.mem_filter.mpr ⟨List.mem_of_getElem? (i := 20) (by decide +kernel), by decide +kernel⟩
theorem se_yX7_fault : (Cond.selects RX7 yX7_fault yX7_fault) ∈ lw_gd := List.mem_filter.mpr ⟨List.mem_of_getElem? (i := 21) (by decide +kernel), by decide +kernel⟩
theorem se_yX7_readsLink : (Cond.selects RX7 yX7_readsLink yX7_readsLink) ∈ lw_gd := List.mem_filter.mpr ⟨List.mem_of_getElem? (i := 22) (by decide +kernel), by decide +kernel⟩
theorem se_yX7_readsNumber : (Cond.selects RX7 yX7_readsNumber yX7_readsNumber) ∈ lw_gd := List.mem_filter.mpr ⟨List.mem_of_getElem? (i := 23) (by decide +kernel), by decide +kernel⟩
theorem se_yX7_isHere : (Cond.selects RX7 yX7_isHere yX7_isHere) ∈ lw_gd := List.mem_filter.mpr ⟨List.mem_of_getElem? (i := 24) (by decide +kernel), by decide +kernel⟩
theorem se_yX7_takes : (Cond.selects RX7 yX7_takes yX7_takes) ∈ lw_gd := List.mem_filter.mpr ⟨List.mem_of_getElem? (i := 25) (by decide +kernel), by decide +kernel⟩
theorem se_yX7_isTold : (Cond.selects RX7 yX7_isTold yX7_isTold) ∈ lw_gd := List.mem_filter.mpr ⟨List.mem_of_getElem? (i := 26) (by decide +kernel), by decide +kernel⟩
theorem se_yX7_spansOf : (Cond.selects RX7 yX7_spansOf yX7_spansOf) ∈ lw_gd := List.mem_filter.mpr ⟨List.mem_of_getElem? (i := 27) (by decide +kernel), by decide +kernel⟩
theorem se_yX7_covers : (Cond.selects RX7 yX7_covers yX7_covers) ∈ lw_gd := List.mem_filter.mpr ⟨List.mem_of_getElem? (i := 28) (by decide +kernel), by decide +kernel⟩
theorem se_yX7_momentsNeeded : (Cond.selects RX7 yX7_momentsNeeded yX7_momentsNeeded) ∈ lw_gd := List.mem_filter.mpr ⟨List.mem_of_getElem? (i := 29) (by decide +kernel), by decide +kernel⟩
theorem se_yX7_isNeeded : (Cond.selects RX7 yX7_isNeeded yX7_isNeeded) ∈ lw_gd := List.mem_filter.mpr ⟨List.mem_of_getElem? (i := 30) (by decide +kernel), by decide +kernel⟩
theorem se_yX7_join : (Cond.selects RX7 yX7_join yX7_join) ∈ lw_gd := List.mem_filter.mpr ⟨List.mem_of_getElem? (i := 31) (by decide +kernel), by decide +kernel⟩
theorem se_yX7_reach : (Cond.selects RX7 yX7_reach yX7_reach) ∈ lw_gd := List.mem_filter.mpr ⟨List.mem_of_getElem? (i := 32) (by decide +kernel), by decide +kernel⟩
theorem se_yX7_parts : (Cond.selects RX7 yX7_parts yX7_parts) ∈ lw_gd := List.mem_filter.mpr ⟨List.mem_of_getElem? (i := 33) (by decide +kernel), by decide +kernel⟩
theorem se_yX7_isOdd : (Cond.selects RX7 yX7_isOdd yX7_isOdd) ∈ lw_gd := List.mem_filter.mpr ⟨List.mem_of_getElem? (i := 34) (by decide +kernel), by decide +kernel⟩
theorem se_yX7_greatestPart : (Cond.selects RX7 yX7_greatestPart yX7_greatestPart) ∈ lw_gd := List.mem_filter.mpr ⟨List.mem_of_getElem? (i := 35) (by decide +kernel), by decide +kernel⟩
theorem se_yX7_neededAt : (Cond.selects RX7 yX7_neededAt yX7_neededAt) ∈ lw_gd := List.mem_filter.mpr ⟨List.mem_of_getElem? (i := 36) (by decide +kernel), by decide +kernel⟩
theorem se_yX7_alone : (Cond.selects RX7 yX7_alone yX7_alone) ∈ lw_gd := List.mem_filter.mpr ⟨List.mem_of_getElem? (i := 37) (by decide +kernel), by decide +kernel⟩
theorem se_yX7_laidAt : (Cond.selects RX7 yX7_laidAt yX7_laidAt) ∈ lw_gd := List.mem_filter.mpr ⟨List.mem_of_getElem? (i := 38) (by decide +kernel), by decide +kernel⟩
theorem se_yX7_madeAt : (Cond.selects RX7 yX7_madeAt yX7_madeAt) ∈ lw_gd := List.mem_filter.mpr ⟨List.mem_of_getElem? (i := 39) (by decide +kernel), by decide +kernel⟩
theorem se_yX7_livingAll : (Cond.selects RX7 yX7_livingAll yX7_livingAll) ∈ lw_gd := List.mem_filter.mpr ⟨List.mem_of_getElem? (i := 40) (by decide +kernel), by decide +kernel⟩
theorem se_yX7_ofSpans : (Cond.selects RX7 yX7_ofSpans yX7_ofSpans) ∈ lw_gd := List.mem_filter.mpr ⟨List.mem_of_getElem? (i := 41) (by decide +kernel), by decide +kernel⟩
theorem se_yX7_ofMoments : (Cond.selects RX7 yX7_ofMoments yX7_ofMoments) ∈ lw_gd := List.mem_filter.mpr ⟨List.mem_of_getElem? (i := 42) (by decide +kernel), by decide +kernel⟩
end
section
theorem dX0_init_0 : decode cX0_init 0 = .ok (.aload_n 0, 1) := by decide +kernel
theorem dX0_init_1 : decode cX0_init 1 = .ok (.invokespecial 3, 3) := by decide +kernel
theorem dX0_init_4 : decode cX0_init 4 = .ok (.aload_n 0, 1) := by decide +kernel
theorem dX0_init_5 : decode cX0_init 5 = .ok (.new 9, 3) := by decide +kernel
theorem dX0_init_8 : decode cX0_init 8 = .ok (.dup, 1) := by decide +kernel
theorem dX0_init_9 : decode cX0_init 9 = .ok (.bipush 16, 2) := by decide +kernel
theorem dX0_init_11 : decode cX0_init 11 = .ok (.invokespecial 11, 3) := by decide +kernel
theorem dX0_init_14 : decode cX0_init 14 = .ok (.putfield 14, 3) := by decide +kernel
theorem dX0_init_17 : decode cX0_init 17 = .ok (.aload_n 0, 1) := by decide +kernel
theorem dX0_init_18 : decode cX0_init 18 = .ok (.bipush 7, 2) := by decide +kernel
theorem dX0_init_20 : decode cX0_init 20 = .ok (.newarray .int, 2) := by decide +kernel
theorem dX0_init_22 : decode cX0_init 22 = .ok (.putfield 20, 3) := by decide +kernel
theorem dX0_init_25 : decode cX0_init 25 = .ok (.return_, 1) := by decide +kernel
theorem dX0_laidHere_0 : decode cX0_laidHere 0 = .ok (.aload_n 0, 1) := by decide +kernel
theorem dX0_laidHere_1 : decode cX0_laidHere 1 = .ok (.getfield 24, 3) := by decide +kernel
theorem dX0_laidHere_4 : decode cX0_laidHere 4 = .ok (.ireturn, 1) := by decide +kernel
theorem dX0_madeHere_0 : decode cX0_madeHere 0 = .ok (.aload_n 0, 1) := by decide +kernel
theorem dX0_madeHere_1 : decode cX0_madeHere 1 = .ok (.getfield 28, 3) := by decide +kernel
theorem dX0_madeHere_4 : decode cX0_madeHere 4 = .ok (.ireturn, 1) := by decide +kernel
theorem dX0_madeInAll_0 : decode cX0_madeInAll 0 = .ok (.aload_n 0, 1) := by decide +kernel
theorem dX0_madeInAll_1 : decode cX0_madeInAll 1 = .ok (.getfield 31, 3) := by decide +kernel
theorem dX0_madeInAll_4 : decode cX0_madeInAll 4 = .ok (.ireturn, 1) := by decide +kernel
theorem dX0_idleInAll_0 : decode cX0_idleInAll 0 = .ok (.aload_n 0, 1) := by decide +kernel
theorem dX0_idleInAll_1 : decode cX0_idleInAll 1 = .ok (.getfield 34, 3) := by decide +kernel
theorem dX0_idleInAll_4 : decode cX0_idleInAll 4 = .ok (.aload_n 0, 1) := by decide +kernel
theorem dX0_idleInAll_5 : decode cX0_idleInAll 5 = .ok (.getfield 31, 3) := by decide +kernel
theorem dX0_idleInAll_8 : decode cX0_idleInAll 8 = .ok (.isub, 1) := by decide +kernel
theorem dX0_idleInAll_9 : decode cX0_idleInAll 9 = .ok (.ireturn, 1) := by decide +kernel
theorem dX0_mostStanding_0 : decode cX0_mostStanding 0 = .ok (.aload_n 0, 1) := by decide +kernel
theorem dX0_mostStanding_1 : decode cX0_mostStanding 1 = .ok (.getfield 37, 3) := by decide +kernel
theorem dX0_mostStanding_4 : decode cX0_mostStanding 4 = .ok (.ireturn, 1) := by decide +kernel
theorem dX0_goAll_0 : decode cX0_goAll 0 = .ok (.aload_n 0, 1) := by decide +kernel
theorem dX0_goAll_1 : decode cX0_goAll 1 = .ok (.iconst 0, 1) := by decide +kernel
theorem dX0_goAll_2 : decode cX0_goAll 2 = .ok (.putfield 34, 3) := by decide +kernel
theorem dX0_goAll_5 : decode cX0_goAll 5 = .ok (.aload_n 0, 1) := by decide +kernel
theorem dX0_goAll_6 : decode cX0_goAll 6 = .ok (.iconst 0, 1) := by decide +kernel
theorem dX0_goAll_7 : decode cX0_goAll 7 = .ok (.putfield 31, 3) := by decide +kernel
theorem dX0_goAll_10 : decode cX0_goAll 10 = .ok (.aload_n 0, 1) := by decide +kernel
theorem dX0_goAll_11 : decode cX0_goAll 11 = .ok (.iconst 0, 1) := by decide +kernel
theorem dX0_goAll_12 : decode cX0_goAll 12 = .ok (.putfield 37, 3) := by decide +kernel
theorem dX0_goAll_15 : decode cX0_goAll 15 = .ok (.iconst 0, 1) := by decide +kernel
theorem dX0_goAll_16 : decode cX0_goAll 16 = .ok (.istore_n 2, 1) := by decide +kernel
theorem dX0_goAll_17 : decode cX0_goAll 17 = .ok (.iload_n 2, 1) := by decide +kernel
theorem dX0_goAll_18 : decode cX0_goAll 18 = .ok (.bipush 64, 2) := by decide +kernel
theorem dX0_goAll_20 : decode cX0_goAll 20 = .ok (.if_icmp .ge 83, 3) := by decide +kernel
theorem dX0_goAll_23 : decode cX0_goAll 23 = .ok (.iconst 0, 1) := by decide +kernel
theorem dX0_goAll_24 : decode cX0_goAll 24 = .ok (.istore_n 3, 1) := by decide +kernel
theorem dX0_goAll_25 : decode cX0_goAll 25 = .ok (.iload_n 3, 1) := by decide +kernel
theorem dX0_goAll_26 : decode cX0_goAll 26 = .ok (.bipush 6, 2) := by decide +kernel
theorem dX0_goAll_28 : decode cX0_goAll 28 = .ok (.if_icmp .gt 69, 3) := by decide +kernel
theorem dX0_goAll_31 : decode cX0_goAll 31 = .ok (.iload_n 2, 1) := by decide +kernel
theorem dX0_goAll_32 : decode cX0_goAll 32 = .ok (.iload_n 3, 1) := by decide +kernel
theorem dX0_goAll_33 : decode cX0_goAll 33 = .ok (.invokestatic 40, 3) := by decide +kernel
theorem dX0_goAll_36 : decode cX0_goAll 36 = .ok (.iload_n 2, 1) := by decide +kernel
theorem dX0_goAll_37 : decode cX0_goAll 37 = .ok (.if_icmp .ne 54, 3) := by decide +kernel
theorem dX0_goAll_40 : decode cX0_goAll 40 = .ok (.aload_n 0, 1) := by decide +kernel
theorem dX0_goAll_41 : decode cX0_goAll 41 = .ok (.aload_n 1, 1) := by decide +kernel
theorem dX0_goAll_42 : decode cX0_goAll 42 = .ok (.iload_n 2, 1) := by decide +kernel
theorem dX0_goAll_43 : decode cX0_goAll 43 = .ok (.iload_n 3, 1) := by decide +kernel
theorem dX0_goAll_44 : decode cX0_goAll 44 = .ok (.invokevirtual 44, 3) := by decide +kernel
theorem dX0_goAll_47 : decode cX0_goAll 47 = .ok (.aload_n 0, 1) := by decide +kernel
theorem dX0_goAll_48 : decode cX0_goAll 48 = .ok (.dup, 1) := by decide +kernel
theorem dX0_goAll_49 : decode cX0_goAll 49 = .ok (.getfield 34, 3) := by decide +kernel
theorem dX0_goAll_52 : decode cX0_goAll 52 = .ok (.aload_n 0, 1) := by decide +kernel
theorem dX0_goAll_53 : decode cX0_goAll 53 = .ok (.getfield 24, 3) := by decide +kernel
theorem dX0_goAll_56 : decode cX0_goAll 56 = .ok (.iadd, 1) := by decide +kernel
theorem dX0_goAll_57 : decode cX0_goAll 57 = .ok (.putfield 34, 3) := by decide +kernel
theorem dX0_goAll_60 : decode cX0_goAll 60 = .ok (.aload_n 0, 1) := by decide +kernel
theorem dX0_goAll_61 : decode cX0_goAll 61 = .ok (.dup, 1) := by decide +kernel
theorem dX0_goAll_62 : decode cX0_goAll 62 = .ok (.getfield 31, 3) := by decide +kernel
theorem dX0_goAll_65 : decode cX0_goAll 65 = .ok (.aload_n 0, 1) := by decide +kernel
theorem dX0_goAll_66 : decode cX0_goAll 66 = .ok (.getfield 28, 3) := by decide +kernel
theorem dX0_goAll_69 : decode cX0_goAll 69 = .ok (.iadd, 1) := by decide +kernel
theorem dX0_goAll_70 : decode cX0_goAll 70 = .ok (.putfield 31, 3) := by decide +kernel
theorem dX0_goAll_73 : decode cX0_goAll 73 = .ok (.aload_n 0, 1) := by decide +kernel
theorem dX0_goAll_74 : decode cX0_goAll 74 = .ok (.aload_n 0, 1) := by decide +kernel
theorem dX0_goAll_75 : decode cX0_goAll 75 = .ok (.getfield 37, 3) := by decide +kernel
theorem dX0_goAll_78 : decode cX0_goAll 78 = .ok (.aload_n 0, 1) := by decide +kernel
theorem dX0_goAll_79 : decode cX0_goAll 79 = .ok (.getfield 14, 3) := by decide +kernel
theorem dX0_goAll_82 : decode cX0_goAll 82 = .ok (.invokevirtual 48, 3) := by decide +kernel
theorem dX0_goAll_85 : decode cX0_goAll 85 = .ok (.invokestatic 52, 3) := by decide +kernel
theorem dX0_goAll_88 : decode cX0_goAll 88 = .ok (.putfield 37, 3) := by decide +kernel
theorem dX0_goAll_91 : decode cX0_goAll 91 = .ok (.iinc 3 1, 3) := by decide +kernel
theorem dX0_goAll_94 : decode cX0_goAll 94 = .ok (.goto (-69), 3) := by decide +kernel
theorem dX0_goAll_97 : decode cX0_goAll 97 = .ok (.iinc 2 1, 3) := by decide +kernel
theorem dX0_goAll_100 : decode cX0_goAll 100 = .ok (.goto (-83), 3) := by decide +kernel
theorem dX0_goAll_103 : decode cX0_goAll 103 = .ok (.return_, 1) := by decide +kernel
theorem dX0_goTo_0 : decode cX0_goTo 0 = .ok (.iconst 0, 1) := by decide +kernel
theorem dX0_goTo_1 : decode cX0_goTo 1 = .ok (.istore 4, 2) := by decide +kernel
theorem dX0_goTo_3 : decode cX0_goTo 3 = .ok (.iload 4, 2) := by decide +kernel
theorem dX0_goTo_5 : decode cX0_goTo 5 = .ok (.iload_n 3, 1) := by decide +kernel
theorem dX0_goTo_6 : decode cX0_goTo 6 = .ok (.if_icmp .gt 22, 3) := by decide +kernel
theorem dX0_goTo_9 : decode cX0_goTo 9 = .ok (.aload_n 0, 1) := by decide +kernel
theorem dX0_goTo_10 : decode cX0_goTo 10 = .ok (.aload_n 1, 1) := by decide +kernel
theorem dX0_goTo_11 : decode cX0_goTo 11 = .ok (.iload_n 2, 1) := by decide +kernel
theorem dX0_goTo_12 : decode cX0_goTo 12 = .ok (.iload 4, 2) := by decide +kernel
theorem dX0_goTo_14 : decode cX0_goTo 14 = .ok (.invokestatic 40, 3) := by decide +kernel
theorem dX0_goTo_17 : decode cX0_goTo 17 = .ok (.iload 4, 2) := by decide +kernel
theorem dX0_goTo_19 : decode cX0_goTo 19 = .ok (.invokevirtual 44, 3) := by decide +kernel
theorem dX0_goTo_22 : decode cX0_goTo 22 = .ok (.iinc 4 1, 3) := by decide +kernel
theorem dX0_goTo_25 : decode cX0_goTo 25 = .ok (.goto (-22), 3) := by decide +kernel
theorem dX0_goTo_28 : decode cX0_goTo 28 = .ok (.return_, 1) := by decide +kernel
theorem dX0_joinLaid_0 : decode cX0_joinLaid 0 = .ok (.iload_n 3, 1) := by decide +kernel
theorem dX0_joinLaid_1 : decode cX0_joinLaid 1 = .ok (.ifCond .lt 9, 3) := by decide +kernel
theorem dX0_joinLaid_4 : decode cX0_joinLaid 4 = .ok (.iload_n 3, 1) := by decide +kernel
theorem dX0_joinLaid_5 : decode cX0_joinLaid 5 = .ok (.bipush 6, 2) := by decide +kernel
theorem dX0_joinLaid_7 : decode cX0_joinLaid 7 = .ok (.if_icmp .le 4, 3) := by decide +kernel
theorem dX0_joinLaid_10 : decode cX0_joinLaid 10 = .ok (.return_, 1) := by decide +kernel
theorem dX0_joinLaid_11 : decode cX0_joinLaid 11 = .ok (.iload_n 3, 1) := by decide +kernel
theorem dX0_joinLaid_12 : decode cX0_joinLaid 12 = .ok (.ifCond .ne 7, 3) := by decide +kernel
theorem dX0_joinLaid_15 : decode cX0_joinLaid 15 = .ok (.iconst 0, 1) := by decide +kernel
theorem dX0_joinLaid_16 : decode cX0_joinLaid 16 = .ok (.goto 11, 3) := by decide +kernel
theorem dX0_joinLaid_19 : decode cX0_joinLaid 19 = .ok (.aload_n 0, 1) := by decide +kernel
theorem dX0_joinLaid_20 : decode cX0_joinLaid 20 = .ok (.getfield 20, 3) := by decide +kernel
theorem dX0_joinLaid_23 : decode cX0_joinLaid 23 = .ok (.iload_n 3, 1) := by decide +kernel
theorem dX0_joinLaid_24 : decode cX0_joinLaid 24 = .ok (.iconst 1, 1) := by decide +kernel
theorem dX0_joinLaid_25 : decode cX0_joinLaid 25 = .ok (.isub, 1) := by decide +kernel
theorem dX0_joinLaid_26 : decode cX0_joinLaid 26 = .ok (.iaload, 1) := by decide +kernel
theorem dX0_joinLaid_27 : decode cX0_joinLaid 27 = .ok (.istore 4, 2) := by decide +kernel
theorem dX0_joinLaid_29 : decode cX0_joinLaid 29 = .ok (.aload_n 0, 1) := by decide +kernel
theorem dX0_joinLaid_30 : decode cX0_joinLaid 30 = .ok (.getfield 14, 3) := by decide +kernel
theorem dX0_joinLaid_33 : decode cX0_joinLaid 33 = .ok (.iload 4, 2) := by decide +kernel
theorem dX0_joinLaid_35 : decode cX0_joinLaid 35 = .ok (.invokevirtual 57, 3) := by decide +kernel
theorem dX0_joinLaid_38 : decode cX0_joinLaid 38 = .ok (.aload_n 0, 1) := by decide +kernel
theorem dX0_joinLaid_39 : decode cX0_joinLaid 39 = .ok (.iconst 0, 1) := by decide +kernel
theorem dX0_joinLaid_40 : decode cX0_joinLaid 40 = .ok (.putfield 24, 3) := by decide +kernel
theorem dX0_joinLaid_43 : decode cX0_joinLaid 43 = .ok (.iconst 0, 1) := by decide +kernel
theorem dX0_joinLaid_44 : decode cX0_joinLaid 44 = .ok (.istore 5, 2) := by decide +kernel
theorem dX0_joinLaid_46 : decode cX0_joinLaid 46 = .ok (.iload 5, 2) := by decide +kernel
theorem dX0_joinLaid_48 : decode cX0_joinLaid 48 = .ok (.aload_n 1, 1) := by decide +kernel
theorem dX0_joinLaid_49 : decode cX0_joinLaid 49 = .ok (.invokevirtual 60, 3) := by decide +kernel
theorem dX0_joinLaid_52 : decode cX0_joinLaid 52 = .ok (.if_icmp .ge 49, 3) := by decide +kernel
theorem dX0_joinLaid_55 : decode cX0_joinLaid 55 = .ok (.aload_n 1, 1) := by decide +kernel
theorem dX0_joinLaid_56 : decode cX0_joinLaid 56 = .ok (.iload 5, 2) := by decide +kernel
theorem dX0_joinLaid_58 : decode cX0_joinLaid 58 = .ok (.iload_n 2, 1) := by decide +kernel
theorem dX0_joinLaid_59 : decode cX0_joinLaid 59 = .ok (.iload_n 3, 1) := by decide +kernel
theorem dX0_joinLaid_60 : decode cX0_joinLaid 60 = .ok (.invokevirtual 65, 3) := by decide +kernel
theorem dX0_joinLaid_63 : decode cX0_joinLaid 63 = .ok (.ifCond .eq 32, 3) := by decide +kernel
theorem dX0_joinLaid_66 : decode cX0_joinLaid 66 = .ok (.aload_n 0, 1) := by decide +kernel
theorem dX0_joinLaid_67 : decode cX0_joinLaid 67 = .ok (.dup, 1) := by decide +kernel
theorem dX0_joinLaid_68 : decode cX0_joinLaid 68 = .ok (.getfield 24, 3) := by decide +kernel
theorem dX0_joinLaid_71 : decode cX0_joinLaid 71 = .ok (.iconst 1, 1) := by decide +kernel
theorem dX0_joinLaid_72 : decode cX0_joinLaid 72 = .ok (.iadd, 1) := by decide +kernel
theorem dX0_joinLaid_73 : decode cX0_joinLaid 73 = .ok (.putfield 24, 3) := by decide +kernel
theorem dX0_joinLaid_76 : decode cX0_joinLaid 76 = .ok (.aload_n 0, 1) := by decide +kernel
theorem dX0_joinLaid_77 : decode cX0_joinLaid 77 = .ok (.getfield 14, 3) := by decide +kernel
theorem dX0_joinLaid_80 : decode cX0_joinLaid 80 = .ok (.aload_n 1, 1) := by decide +kernel
theorem dX0_joinLaid_81 : decode cX0_joinLaid 81 = .ok (.iload 5, 2) := by decide +kernel
theorem dX0_joinLaid_83 : decode cX0_joinLaid 83 = .ok (.invokevirtual 69, 3) := by decide +kernel
theorem dX0_joinLaid_86 : decode cX0_joinLaid 86 = .ok (.aload_n 1, 1) := by decide +kernel
theorem dX0_joinLaid_87 : decode cX0_joinLaid 87 = .ok (.iload 5, 2) := by decide +kernel
theorem dX0_joinLaid_89 : decode cX0_joinLaid 89 = .ok (.invokevirtual 73, 3) := by decide +kernel
theorem dX0_joinLaid_92 : decode cX0_joinLaid 92 = .ok (.invokevirtual 76, 3) := by decide +kernel
theorem dX0_joinLaid_95 : decode cX0_joinLaid 95 = .ok (.iinc 5 1, 3) := by decide +kernel
theorem dX0_joinLaid_98 : decode cX0_joinLaid 98 = .ok (.goto (-52), 3) := by decide +kernel
theorem dX0_joinLaid_101 : decode cX0_joinLaid 101 = .ok (.aload_n 0, 1) := by decide +kernel
theorem dX0_joinLaid_102 : decode cX0_joinLaid 102 = .ok (.getfield 20, 3) := by decide +kernel
theorem dX0_joinLaid_105 : decode cX0_joinLaid 105 = .ok (.iload_n 3, 1) := by decide +kernel
theorem dX0_joinLaid_106 : decode cX0_joinLaid 106 = .ok (.aload_n 0, 1) := by decide +kernel
theorem dX0_joinLaid_107 : decode cX0_joinLaid 107 = .ok (.getfield 14, 3) := by decide +kernel
theorem dX0_joinLaid_110 : decode cX0_joinLaid 110 = .ok (.invokevirtual 48, 3) := by decide +kernel
theorem dX0_joinLaid_113 : decode cX0_joinLaid 113 = .ok (.iastore, 1) := by decide +kernel
theorem dX0_joinLaid_114 : decode cX0_joinLaid 114 = .ok (.aload_n 0, 1) := by decide +kernel
theorem dX0_joinLaid_115 : decode cX0_joinLaid 115 = .ok (.aload_n 0, 1) := by decide +kernel
theorem dX0_joinLaid_116 : decode cX0_joinLaid 116 = .ok (.getfield 14, 3) := by decide +kernel
theorem dX0_joinLaid_119 : decode cX0_joinLaid 119 = .ok (.invokevirtual 48, 3) := by decide +kernel
theorem dX0_joinLaid_122 : decode cX0_joinLaid 122 = .ok (.iload 4, 2) := by decide +kernel
theorem dX0_joinLaid_124 : decode cX0_joinLaid 124 = .ok (.isub, 1) := by decide +kernel
theorem dX0_joinLaid_125 : decode cX0_joinLaid 125 = .ok (.putfield 28, 3) := by decide +kernel
theorem dX0_joinLaid_128 : decode cX0_joinLaid 128 = .ok (.return_, 1) := by decide +kernel
theorem dX1_init_0 : decode cX1_init 0 = .ok (.aload_n 0, 1) := by decide +kernel
theorem dX1_init_1 : decode cX1_init 1 = .ok (.invokespecial 3, 3) := by decide +kernel
theorem dX1_init_4 : decode cX1_init 4 = .ok (.aload_n 0, 1) := by decide +kernel
theorem dX1_init_5 : decode cX1_init 5 = .ok (.iconst 4, 1) := by decide +kernel
theorem dX1_init_6 : decode cX1_init 6 = .ok (.anewarray 9, 3) := by decide +kernel
theorem dX1_init_9 : decode cX1_init 9 = .ok (.putfield 11, 3) := by decide +kernel
theorem dX1_init_12 : decode cX1_init 12 = .ok (.iconst 0, 1) := by decide +kernel
theorem dX1_init_13 : decode cX1_init 13 = .ok (.istore_n 1, 1) := by decide +kernel
theorem dX1_init_14 : decode cX1_init 14 = .ok (.iload_n 1, 1) := by decide +kernel
theorem dX1_init_15 : decode cX1_init 15 = .ok (.iconst 4, 1) := by decide +kernel
theorem dX1_init_16 : decode cX1_init 16 = .ok (.if_icmp .ge 22, 3) := by decide +kernel
theorem dX1_init_19 : decode cX1_init 19 = .ok (.aload_n 0, 1) := by decide +kernel
theorem dX1_init_20 : decode cX1_init 20 = .ok (.getfield 11, 3) := by decide +kernel
theorem dX1_init_23 : decode cX1_init 23 = .ok (.iload_n 1, 1) := by decide +kernel
theorem dX1_init_24 : decode cX1_init 24 = .ok (.new 9, 3) := by decide +kernel
theorem dX1_init_27 : decode cX1_init 27 = .ok (.dup, 1) := by decide +kernel
theorem dX1_init_28 : decode cX1_init 28 = .ok (.invokespecial 17, 3) := by decide +kernel
theorem dX1_init_31 : decode cX1_init 31 = .ok (.aastore, 1) := by decide +kernel
theorem dX1_init_32 : decode cX1_init 32 = .ok (.iinc 1 1, 3) := by decide +kernel
theorem dX1_init_35 : decode cX1_init 35 = .ok (.goto (-21), 3) := by decide +kernel
theorem dX1_init_38 : decode cX1_init 38 = .ok (.return_, 1) := by decide +kernel
theorem dX1_size_0 : decode cX1_size 0 = .ok (.aload_n 0, 1) := by decide +kernel
theorem dX1_size_1 : decode cX1_size 1 = .ok (.getfield 18, 3) := by decide +kernel
theorem dX1_size_4 : decode cX1_size 4 = .ok (.ireturn, 1) := by decide +kernel
theorem dX1_remember_0 : decode cX1_remember 0 = .ok (.aload_n 0, 1) := by decide +kernel
theorem dX1_remember_1 : decode cX1_remember 1 = .ok (.getfield 18, 3) := by decide +kernel
theorem dX1_remember_4 : decode cX1_remember 4 = .ok (.iconst 4, 1) := by decide +kernel
theorem dX1_remember_5 : decode cX1_remember 5 = .ok (.if_icmp .lt 7, 3) := by decide +kernel
theorem dX1_remember_8 : decode cX1_remember 8 = .ok (.aload_n 0, 1) := by decide +kernel
theorem dX1_remember_9 : decode cX1_remember 9 = .ok (.invokevirtual 22, 3) := by decide +kernel
theorem dX1_remember_12 : decode cX1_remember 12 = .ok (.aload_n 0, 1) := by decide +kernel
theorem dX1_remember_13 : decode cX1_remember 13 = .ok (.getfield 11, 3) := by decide +kernel
theorem dX1_remember_16 : decode cX1_remember 16 = .ok (.aload_n 0, 1) := by decide +kernel
theorem dX1_remember_17 : decode cX1_remember 17 = .ok (.getfield 18, 3) := by decide +kernel
theorem dX1_remember_20 : decode cX1_remember 20 = .ok (.aaload, 1) := by decide +kernel
theorem dX1_remember_21 : decode cX1_remember 21 = .ok (.astore_n 2, 1) := by decide +kernel
theorem dX1_remember_22 : decode cX1_remember 22 = .ok (.aload_n 2, 1) := by decide +kernel
theorem dX1_remember_23 : decode cX1_remember 23 = .ok (.ifnull 18, 3) := by decide +kernel
theorem dX1_remember_26 : decode cX1_remember 26 = .ok (.aload_n 2, 1) := by decide +kernel
theorem dX1_remember_27 : decode cX1_remember 27 = .ok (.aload_n 1, 1) := by decide +kernel
theorem dX1_remember_28 : decode cX1_remember 28 = .ok (.invokevirtual 25, 3) := by decide +kernel
theorem dX1_remember_31 : decode cX1_remember 31 = .ok (.aload_n 0, 1) := by decide +kernel
theorem dX1_remember_32 : decode cX1_remember 32 = .ok (.dup, 1) := by decide +kernel
theorem dX1_remember_33 : decode cX1_remember 33 = .ok (.getfield 18, 3) := by decide +kernel
theorem dX1_remember_36 : decode cX1_remember 36 = .ok (.iconst 1, 1) := by decide +kernel
theorem dX1_remember_37 : decode cX1_remember 37 = .ok (.iadd, 1) := by decide +kernel
theorem dX1_remember_38 : decode cX1_remember 38 = .ok (.putfield 18, 3) := by decide +kernel
theorem dX1_remember_41 : decode cX1_remember 41 = .ok (.return_, 1) := by decide +kernel
theorem dX1_dropOldest_0 : decode cX1_dropOldest 0 = .ok (.aload_n 0, 1) := by decide +kernel
theorem dX1_dropOldest_1 : decode cX1_dropOldest 1 = .ok (.getfield 11, 3) := by decide +kernel
theorem dX1_dropOldest_4 : decode cX1_dropOldest 4 = .ok (.iconst 0, 1) := by decide +kernel
theorem dX1_dropOldest_5 : decode cX1_dropOldest 5 = .ok (.aaload, 1) := by decide +kernel
theorem dX1_dropOldest_6 : decode cX1_dropOldest 6 = .ok (.astore_n 1, 1) := by decide +kernel
theorem dX1_dropOldest_7 : decode cX1_dropOldest 7 = .ok (.iconst 1, 1) := by decide +kernel
theorem dX1_dropOldest_8 : decode cX1_dropOldest 8 = .ok (.istore_n 2, 1) := by decide +kernel
theorem dX1_dropOldest_9 : decode cX1_dropOldest 9 = .ok (.iload_n 2, 1) := by decide +kernel
theorem dX1_dropOldest_10 : decode cX1_dropOldest 10 = .ok (.iconst 4, 1) := by decide +kernel
theorem dX1_dropOldest_11 : decode cX1_dropOldest 11 = .ok (.if_icmp .ge 23, 3) := by decide +kernel
theorem dX1_dropOldest_14 : decode cX1_dropOldest 14 = .ok (.aload_n 0, 1) := by decide +kernel
theorem dX1_dropOldest_15 : decode cX1_dropOldest 15 = .ok (.getfield 11, 3) := by decide +kernel
theorem dX1_dropOldest_18 : decode cX1_dropOldest 18 = .ok (.iload_n 2, 1) := by decide +kernel
theorem dX1_dropOldest_19 : decode cX1_dropOldest 19 = .ok (.iconst 1, 1) := by decide +kernel
theorem dX1_dropOldest_20 : decode cX1_dropOldest 20 = .ok (.isub, 1) := by decide +kernel
theorem dX1_dropOldest_21 : decode cX1_dropOldest 21 = .ok (.aload_n 0, 1) := by decide +kernel
theorem dX1_dropOldest_22 : decode cX1_dropOldest 22 = .ok (.getfield 11, 3) := by decide +kernel
theorem dX1_dropOldest_25 : decode cX1_dropOldest 25 = .ok (.iload_n 2, 1) := by decide +kernel
theorem dX1_dropOldest_26 : decode cX1_dropOldest 26 = .ok (.aaload, 1) := by decide +kernel
theorem dX1_dropOldest_27 : decode cX1_dropOldest 27 = .ok (.aastore, 1) := by decide +kernel
theorem dX1_dropOldest_28 : decode cX1_dropOldest 28 = .ok (.iinc 2 1, 3) := by decide +kernel
theorem dX1_dropOldest_31 : decode cX1_dropOldest 31 = .ok (.goto (-22), 3) := by decide +kernel
theorem dX1_dropOldest_34 : decode cX1_dropOldest 34 = .ok (.aload_n 0, 1) := by decide +kernel
theorem dX1_dropOldest_35 : decode cX1_dropOldest 35 = .ok (.getfield 11, 3) := by decide +kernel
theorem dX1_dropOldest_38 : decode cX1_dropOldest 38 = .ok (.iconst 3, 1) := by decide +kernel
theorem dX1_dropOldest_39 : decode cX1_dropOldest 39 = .ok (.aload_n 1, 1) := by decide +kernel
theorem dX1_dropOldest_40 : decode cX1_dropOldest 40 = .ok (.aastore, 1) := by decide +kernel
theorem dX1_dropOldest_41 : decode cX1_dropOldest 41 = .ok (.aload_n 0, 1) := by decide +kernel
theorem dX1_dropOldest_42 : decode cX1_dropOldest 42 = .ok (.iconst 3, 1) := by decide +kernel
theorem dX1_dropOldest_43 : decode cX1_dropOldest 43 = .ok (.putfield 18, 3) := by decide +kernel
theorem dX1_dropOldest_46 : decode cX1_dropOldest 46 = .ok (.return_, 1) := by decide +kernel
theorem dX1_goBack_0 : decode cX1_goBack 0 = .ok (.aload_n 0, 1) := by decide +kernel
theorem dX1_goBack_1 : decode cX1_goBack 1 = .ok (.getfield 18, 3) := by decide +kernel
theorem dX1_goBack_4 : decode cX1_goBack 4 = .ok (.iconst 1, 1) := by decide +kernel
theorem dX1_goBack_5 : decode cX1_goBack 5 = .ok (.if_icmp .ge 4, 3) := by decide +kernel
theorem dX1_goBack_8 : decode cX1_goBack 8 = .ok (.return_, 1) := by decide +kernel
theorem dX1_goBack_9 : decode cX1_goBack 9 = .ok (.aload_n 0, 1) := by decide +kernel
theorem dX1_goBack_10 : decode cX1_goBack 10 = .ok (.dup, 1) := by decide +kernel
theorem dX1_goBack_11 : decode cX1_goBack 11 = .ok (.getfield 18, 3) := by decide +kernel
theorem dX1_goBack_14 : decode cX1_goBack 14 = .ok (.iconst 1, 1) := by decide +kernel
theorem dX1_goBack_15 : decode cX1_goBack 15 = .ok (.isub, 1) := by decide +kernel
theorem dX1_goBack_16 : decode cX1_goBack 16 = .ok (.putfield 18, 3) := by decide +kernel
theorem dX1_goBack_19 : decode cX1_goBack 19 = .ok (.aload_n 0, 1) := by decide +kernel
theorem dX1_goBack_20 : decode cX1_goBack 20 = .ok (.getfield 11, 3) := by decide +kernel
theorem dX1_goBack_23 : decode cX1_goBack 23 = .ok (.aload_n 0, 1) := by decide +kernel
theorem dX1_goBack_24 : decode cX1_goBack 24 = .ok (.getfield 18, 3) := by decide +kernel
theorem dX1_goBack_27 : decode cX1_goBack 27 = .ok (.aaload, 1) := by decide +kernel
theorem dX1_goBack_28 : decode cX1_goBack 28 = .ok (.astore_n 2, 1) := by decide +kernel
theorem dX1_goBack_29 : decode cX1_goBack 29 = .ok (.aload_n 2, 1) := by decide +kernel
theorem dX1_goBack_30 : decode cX1_goBack 30 = .ok (.ifnull 8, 3) := by decide +kernel
theorem dX1_goBack_33 : decode cX1_goBack 33 = .ok (.aload_n 1, 1) := by decide +kernel
theorem dX1_goBack_34 : decode cX1_goBack 34 = .ok (.aload_n 2, 1) := by decide +kernel
theorem dX1_goBack_35 : decode cX1_goBack 35 = .ok (.invokevirtual 25, 3) := by decide +kernel
theorem dX1_goBack_38 : decode cX1_goBack 38 = .ok (.return_, 1) := by decide +kernel
theorem dX2_init_0 : decode cX2_init 0 = .ok (.aload_n 0, 1) := by decide +kernel
theorem dX2_init_1 : decode cX2_init 1 = .ok (.invokespecial 1, 3) := by decide +kernel
theorem dX2_init_4 : decode cX2_init 4 = .ok (.iload_n 1, 1) := by decide +kernel
theorem dX2_init_5 : decode cX2_init 5 = .ok (.iconst 0, 1) := by decide +kernel
theorem dX2_init_6 : decode cX2_init 6 = .ok (.invokestatic 7, 3) := by decide +kernel
theorem dX2_init_9 : decode cX2_init 9 = .ok (.istore_n 2, 1) := by decide +kernel
theorem dX2_init_10 : decode cX2_init 10 = .ok (.aload_n 0, 1) := by decide +kernel
theorem dX2_init_11 : decode cX2_init 11 = .ok (.iload_n 2, 1) := by decide +kernel
theorem dX2_init_12 : decode cX2_init 12 = .ok (.newarray .int, 2) := by decide +kernel
theorem dX2_init_14 : decode cX2_init 14 = .ok (.putfield 13, 3) := by decide +kernel
theorem dX2_init_17 : decode cX2_init 17 = .ok (.aload_n 0, 1) := by decide +kernel
theorem dX2_init_18 : decode cX2_init 18 = .ok (.iload_n 2, 1) := by decide +kernel
theorem dX2_init_19 : decode cX2_init 19 = .ok (.newarray .int, 2) := by decide +kernel
theorem dX2_init_21 : decode cX2_init 21 = .ok (.putfield 19, 3) := by decide +kernel
theorem dX2_init_24 : decode cX2_init 24 = .ok (.aload_n 0, 1) := by decide +kernel
theorem dX2_init_25 : decode cX2_init 25 = .ok (.iload_n 2, 1) := by decide +kernel
theorem dX2_init_26 : decode cX2_init 26 = .ok (.newarray .int, 2) := by decide +kernel
theorem dX2_init_28 : decode cX2_init 28 = .ok (.putfield 22, 3) := by decide +kernel
theorem dX2_init_31 : decode cX2_init 31 = .ok (.iconst 0, 1) := by decide +kernel
theorem dX2_init_32 : decode cX2_init 32 = .ok (.istore_n 3, 1) := by decide +kernel
theorem dX2_init_33 : decode cX2_init 33 = .ok (.iload_n 3, 1) := by decide +kernel
theorem dX2_init_34 : decode cX2_init 34 = .ok (.iload_n 2, 1) := by decide +kernel
theorem dX2_init_35 : decode cX2_init 35 = .ok (.if_icmp .ge 23, 3) := by decide +kernel
theorem dX2_init_38 : decode cX2_init 38 = .ok (.aload_n 0, 1) := by decide +kernel
theorem dX2_init_39 : decode cX2_init 39 = .ok (.getfield 13, 3) := by decide +kernel
theorem dX2_init_42 : decode cX2_init 42 = .ok (.iload_n 3, 1) := by decide +kernel
theorem dX2_init_43 : decode cX2_init 43 = .ok (.iload_n 3, 1) := by decide +kernel
theorem dX2_init_44 : decode cX2_init 44 = .ok (.iastore, 1) := by decide +kernel
theorem dX2_init_45 : decode cX2_init 45 = .ok (.aload_n 0, 1) := by decide +kernel
theorem dX2_init_46 : decode cX2_init 46 = .ok (.getfield 19, 3) := by decide +kernel
theorem dX2_init_49 : decode cX2_init 49 = .ok (.iload_n 3, 1) := by decide +kernel
theorem dX2_init_50 : decode cX2_init 50 = .ok (.iconst 1, 1) := by decide +kernel
theorem dX2_init_51 : decode cX2_init 51 = .ok (.iastore, 1) := by decide +kernel
theorem dX2_init_52 : decode cX2_init 52 = .ok (.iinc 3 1, 3) := by decide +kernel
theorem dX2_init_55 : decode cX2_init 55 = .ok (.goto (-22), 3) := by decide +kernel
theorem dX2_init_58 : decode cX2_init 58 = .ok (.return_, 1) := by decide +kernel
theorem dX2_standing_0 : decode cX2_standing 0 = .ok (.aload_n 0, 1) := by decide +kernel
theorem dX2_standing_1 : decode cX2_standing 1 = .ok (.getfield 25, 3) := by decide +kernel
theorem dX2_standing_4 : decode cX2_standing 4 = .ok (.ireturn, 1) := by decide +kernel
theorem dX2_has_0 : decode cX2_has 0 = .ok (.iload_n 1, 1) := by decide +kernel
theorem dX2_has_1 : decode cX2_has 1 = .ok (.ifCond .lt 16, 3) := by decide +kernel
theorem dX2_has_4 : decode cX2_has 4 = .ok (.iload_n 1, 1) := by decide +kernel
theorem dX2_has_5 : decode cX2_has 5 = .ok (.aload_n 0, 1) := by decide +kernel
theorem dX2_has_6 : decode cX2_has 6 = .ok (.getfield 13, 3) := by decide +kernel
theorem dX2_has_9 : decode cX2_has 9 = .ok (.arraylength, 1) := by decide +kernel
theorem dX2_has_10 : decode cX2_has 10 = .ok (.if_icmp .ge 7, 3) := by decide +kernel
theorem dX2_has_13 : decode cX2_has 13 = .ok (.iconst 1, 1) := by decide +kernel
theorem dX2_has_14 : decode cX2_has 14 = .ok (.goto 4, 3) := by decide +kernel
theorem dX2_has_17 : decode cX2_has 17 = .ok (.iconst 0, 1) := by decide +kernel
theorem dX2_has_18 : decode cX2_has 18 = .ok (.ireturn, 1) := by decide +kernel
theorem dX2_topOf_0 : decode cX2_topOf 0 = .ok (.iload_n 1, 1) := by decide +kernel
theorem dX2_topOf_1 : decode cX2_topOf 1 = .ok (.istore_n 2, 1) := by decide +kernel
theorem dX2_topOf_2 : decode cX2_topOf 2 = .ok (.iconst 0, 1) := by decide +kernel
theorem dX2_topOf_3 : decode cX2_topOf 3 = .ok (.istore_n 3, 1) := by decide +kernel
theorem dX2_topOf_4 : decode cX2_topOf 4 = .ok (.iload_n 3, 1) := by decide +kernel
theorem dX2_topOf_5 : decode cX2_topOf 5 = .ok (.aload_n 0, 1) := by decide +kernel
theorem dX2_topOf_6 : decode cX2_topOf 6 = .ok (.getfield 13, 3) := by decide +kernel
theorem dX2_topOf_9 : decode cX2_topOf 9 = .ok (.arraylength, 1) := by decide +kernel
theorem dX2_topOf_10 : decode cX2_topOf 10 = .ok (.if_icmp .ge 34, 3) := by decide +kernel
theorem dX2_topOf_13 : decode cX2_topOf 13 = .ok (.aload_n 0, 1) := by decide +kernel
theorem dX2_topOf_14 : decode cX2_topOf 14 = .ok (.iload_n 2, 1) := by decide +kernel
theorem dX2_topOf_15 : decode cX2_topOf 15 = .ok (.invokevirtual 29, 3) := by decide +kernel
theorem dX2_topOf_18 : decode cX2_topOf 18 = .ok (.ifCond .eq 26, 3) := by decide +kernel
theorem dX2_topOf_21 : decode cX2_topOf 21 = .ok (.aload_n 0, 1) := by decide +kernel
theorem dX2_topOf_22 : decode cX2_topOf 22 = .ok (.getfield 13, 3) := by decide +kernel
theorem dX2_topOf_25 : decode cX2_topOf 25 = .ok (.iload_n 2, 1) := by decide +kernel
theorem dX2_topOf_26 : decode cX2_topOf 26 = .ok (.iaload, 1) := by decide +kernel
theorem dX2_topOf_27 : decode cX2_topOf 27 = .ok (.iload_n 2, 1) := by decide +kernel
theorem dX2_topOf_28 : decode cX2_topOf 28 = .ok (.if_icmp .eq 16, 3) := by decide +kernel
theorem dX2_topOf_31 : decode cX2_topOf 31 = .ok (.aload_n 0, 1) := by decide +kernel
theorem dX2_topOf_32 : decode cX2_topOf 32 = .ok (.getfield 13, 3) := by decide +kernel
theorem dX2_topOf_35 : decode cX2_topOf 35 = .ok (.iload_n 2, 1) := by decide +kernel
theorem dX2_topOf_36 : decode cX2_topOf 36 = .ok (.iaload, 1) := by decide +kernel
theorem dX2_topOf_37 : decode cX2_topOf 37 = .ok (.istore_n 2, 1) := by decide +kernel
theorem dX2_topOf_38 : decode cX2_topOf 38 = .ok (.iinc 3 1, 3) := by decide +kernel
theorem dX2_topOf_41 : decode cX2_topOf 41 = .ok (.goto (-37), 3) := by decide +kernel
theorem dX2_topOf_44 : decode cX2_topOf 44 = .ok (.iload_n 2, 1) := by decide +kernel
theorem dX2_topOf_45 : decode cX2_topOf 45 = .ok (.ireturn, 1) := by decide +kernel
theorem dX2_areJoined_0 : decode cX2_areJoined 0 = .ok (.aload_n 0, 1) := by decide +kernel
theorem dX2_areJoined_1 : decode cX2_areJoined 1 = .ok (.iload_n 1, 1) := by decide +kernel
theorem dX2_areJoined_2 : decode cX2_areJoined 2 = .ok (.invokevirtual 33, 3) := by decide +kernel
theorem dX2_areJoined_5 : decode cX2_areJoined 5 = .ok (.aload_n 0, 1) := by decide +kernel
theorem dX2_areJoined_6 : decode cX2_areJoined 6 = .ok (.iload_n 2, 1) := by decide +kernel
theorem dX2_areJoined_7 : decode cX2_areJoined 7 = .ok (.invokevirtual 33, 3) := by decide +kernel
theorem dX2_areJoined_10 : decode cX2_areJoined 10 = .ok (.if_icmp .ne 7, 3) := by decide +kernel
theorem dX2_areJoined_13 : decode cX2_areJoined 13 = .ok (.iconst 1, 1) := by decide +kernel
theorem dX2_areJoined_14 : decode cX2_areJoined 14 = .ok (.goto 4, 3) := by decide +kernel
theorem dX2_areJoined_17 : decode cX2_areJoined 17 = .ok (.iconst 0, 1) := by decide +kernel
theorem dX2_areJoined_18 : decode cX2_areJoined 18 = .ok (.ireturn, 1) := by decide +kernel
theorem dX2_partSize_0 : decode cX2_partSize 0 = .ok (.aload_n 0, 1) := by decide +kernel
theorem dX2_partSize_1 : decode cX2_partSize 1 = .ok (.iload_n 1, 1) := by decide +kernel
theorem dX2_partSize_2 : decode cX2_partSize 2 = .ok (.invokevirtual 33, 3) := by decide +kernel
theorem dX2_partSize_5 : decode cX2_partSize 5 = .ok (.istore_n 2, 1) := by decide +kernel
theorem dX2_partSize_6 : decode cX2_partSize 6 = .ok (.aload_n 0, 1) := by decide +kernel
theorem dX2_partSize_7 : decode cX2_partSize 7 = .ok (.iload_n 2, 1) := by decide +kernel
theorem dX2_partSize_8 : decode cX2_partSize 8 = .ok (.invokevirtual 29, 3) := by decide +kernel
theorem dX2_partSize_11 : decode cX2_partSize 11 = .ok (.ifCond .eq 12, 3) := by decide +kernel
theorem dX2_partSize_14 : decode cX2_partSize 14 = .ok (.aload_n 0, 1) := by decide +kernel
theorem dX2_partSize_15 : decode cX2_partSize 15 = .ok (.getfield 19, 3) := by decide +kernel
theorem dX2_partSize_18 : decode cX2_partSize 18 = .ok (.iload_n 2, 1) := by decide +kernel
theorem dX2_partSize_19 : decode cX2_partSize 19 = .ok (.iaload, 1) := by decide +kernel
theorem dX2_partSize_20 : decode cX2_partSize 20 = .ok (.goto 4, 3) := by decide +kernel
theorem dX2_partSize_23 : decode cX2_partSize 23 = .ok (.iconst 0, 1) := by decide +kernel
theorem dX2_partSize_24 : decode cX2_partSize 24 = .ok (.ireturn, 1) := by decide +kernel
theorem dX2_join_0 : decode cX2_join 0 = .ok (.aload_n 0, 1) := by decide +kernel
theorem dX2_join_1 : decode cX2_join 1 = .ok (.iload_n 1, 1) := by decide +kernel
theorem dX2_join_2 : decode cX2_join 2 = .ok (.invokevirtual 33, 3) := by decide +kernel
theorem dX2_join_5 : decode cX2_join 5 = .ok (.istore_n 3, 1) := by decide +kernel
theorem dX2_join_6 : decode cX2_join 6 = .ok (.aload_n 0, 1) := by decide +kernel
theorem dX2_join_7 : decode cX2_join 7 = .ok (.iload_n 2, 1) := by decide +kernel
theorem dX2_join_8 : decode cX2_join 8 = .ok (.invokevirtual 33, 3) := by decide +kernel
theorem dX2_join_11 : decode cX2_join 11 = .ok (.istore 4, 2) := by decide +kernel
theorem dX2_join_13 : decode cX2_join 13 = .ok (.aload_n 0, 1) := by decide +kernel
theorem dX2_join_14 : decode cX2_join 14 = .ok (.iload_n 3, 1) := by decide +kernel
theorem dX2_join_15 : decode cX2_join 15 = .ok (.invokevirtual 29, 3) := by decide +kernel
theorem dX2_join_18 : decode cX2_join 18 = .ok (.ifCond .eq 30, 3) := by decide +kernel
theorem dX2_join_21 : decode cX2_join 21 = .ok (.aload_n 0, 1) := by decide +kernel
theorem dX2_join_22 : decode cX2_join 22 = .ok (.iload 4, 2) := by decide +kernel
theorem dX2_join_24 : decode cX2_join 24 = .ok (.invokevirtual 29, 3) := by decide +kernel
theorem dX2_join_27 : decode cX2_join 27 = .ok (.ifCond .eq 21, 3) := by decide +kernel
theorem dX2_join_30 : decode cX2_join 30 = .ok (.iload_n 3, 1) := by decide +kernel
theorem dX2_join_31 : decode cX2_join 31 = .ok (.iload 4, 2) := by decide +kernel
theorem dX2_join_33 : decode cX2_join 33 = .ok (.if_icmp .eq 15, 3) := by decide +kernel
theorem dX2_join_36 : decode cX2_join 36 = .ok (.aload_n 0, 1) := by decide +kernel
theorem dX2_join_37 : decode cX2_join 37 = .ok (.getfield 25, 3) := by decide +kernel
theorem dX2_join_40 : decode cX2_join 40 = .ok (.aload_n 0, 1) := by decide +kernel
theorem dX2_join_41 : decode cX2_join 41 = .ok (.getfield 22, 3) := by decide +kernel
theorem dX2_join_44 : decode cX2_join 44 = .ok (.arraylength, 1) := by decide +kernel
theorem dX2_join_45 : decode cX2_join 45 = .ok (.if_icmp .lt 4, 3) := by decide +kernel
theorem dX2_join_48 : decode cX2_join 48 = .ok (.return_, 1) := by decide +kernel
theorem dX2_join_49 : decode cX2_join 49 = .ok (.aload_n 0, 1) := by decide +kernel
theorem dX2_join_50 : decode cX2_join 50 = .ok (.getfield 19, 3) := by decide +kernel
theorem dX2_join_53 : decode cX2_join 53 = .ok (.iload_n 3, 1) := by decide +kernel
theorem dX2_join_54 : decode cX2_join 54 = .ok (.iaload, 1) := by decide +kernel
theorem dX2_join_55 : decode cX2_join 55 = .ok (.aload_n 0, 1) := by decide +kernel
theorem dX2_join_56 : decode cX2_join 56 = .ok (.getfield 19, 3) := by decide +kernel
theorem dX2_join_59 : decode cX2_join 59 = .ok (.iload 4, 2) := by decide +kernel
theorem dX2_join_61 : decode cX2_join 61 = .ok (.iaload, 1) := by decide +kernel
theorem dX2_join_62 : decode cX2_join 62 = .ok (.if_icmp .ge 13, 3) := by decide +kernel
theorem dX2_join_65 : decode cX2_join 65 = .ok (.iload_n 3, 1) := by decide +kernel
theorem dX2_join_66 : decode cX2_join 66 = .ok (.istore 5, 2) := by decide +kernel
theorem dX2_join_68 : decode cX2_join 68 = .ok (.iload 4, 2) := by decide +kernel
theorem dX2_join_70 : decode cX2_join 70 = .ok (.istore_n 3, 1) := by decide +kernel
theorem dX2_join_71 : decode cX2_join 71 = .ok (.iload 5, 2) := by decide +kernel
theorem dX2_join_73 : decode cX2_join 73 = .ok (.istore 4, 2) := by decide +kernel
theorem dX2_join_75 : decode cX2_join 75 = .ok (.aload_n 0, 1) := by decide +kernel
theorem dX2_join_76 : decode cX2_join 76 = .ok (.getfield 13, 3) := by decide +kernel
theorem dX2_join_79 : decode cX2_join 79 = .ok (.iload 4, 2) := by decide +kernel
theorem dX2_join_81 : decode cX2_join 81 = .ok (.iload_n 3, 1) := by decide +kernel
theorem dX2_join_82 : decode cX2_join 82 = .ok (.iastore, 1) := by decide +kernel
theorem dX2_join_83 : decode cX2_join 83 = .ok (.aload_n 0, 1) := by decide +kernel
theorem dX2_join_84 : decode cX2_join 84 = .ok (.getfield 19, 3) := by decide +kernel
theorem dX2_join_87 : decode cX2_join 87 = .ok (.iload_n 3, 1) := by decide +kernel
theorem dX2_join_88 : decode cX2_join 88 = .ok (.dup2, 1) := by decide +kernel
theorem dX2_join_89 : decode cX2_join 89 = .ok (.iaload, 1) := by decide +kernel
theorem dX2_join_90 : decode cX2_join 90 = .ok (.aload_n 0, 1) := by decide +kernel
theorem dX2_join_91 : decode cX2_join 91 = .ok (.getfield 19, 3) := by decide +kernel
theorem dX2_join_94 : decode cX2_join 94 = .ok (.iload 4, 2) := by decide +kernel
theorem dX2_join_96 : decode cX2_join 96 = .ok (.iaload, 1) := by decide +kernel
theorem dX2_join_97 : decode cX2_join 97 = .ok (.iadd, 1) := by decide +kernel
theorem dX2_join_98 : decode cX2_join 98 = .ok (.iastore, 1) := by decide +kernel
theorem dX2_join_99 : decode cX2_join 99 = .ok (.aload_n 0, 1) := by decide +kernel
theorem dX2_join_100 : decode cX2_join 100 = .ok (.getfield 22, 3) := by decide +kernel
theorem dX2_join_103 : decode cX2_join 103 = .ok (.aload_n 0, 1) := by decide +kernel
theorem dX2_join_104 : decode cX2_join 104 = .ok (.getfield 25, 3) := by decide +kernel
theorem dX2_join_107 : decode cX2_join 107 = .ok (.iload 4, 2) := by decide +kernel
theorem dX2_join_109 : decode cX2_join 109 = .ok (.iastore, 1) := by decide +kernel
theorem dX2_join_110 : decode cX2_join 110 = .ok (.aload_n 0, 1) := by decide +kernel
theorem dX2_join_111 : decode cX2_join 111 = .ok (.dup, 1) := by decide +kernel
theorem dX2_join_112 : decode cX2_join 112 = .ok (.getfield 25, 3) := by decide +kernel
theorem dX2_join_115 : decode cX2_join 115 = .ok (.iconst 1, 1) := by decide +kernel
theorem dX2_join_116 : decode cX2_join 116 = .ok (.iadd, 1) := by decide +kernel
theorem dX2_join_117 : decode cX2_join 117 = .ok (.putfield 25, 3) := by decide +kernel
theorem dX2_join_120 : decode cX2_join 120 = .ok (.return_, 1) := by decide +kernel
theorem dX2_takeBackTo_0 : decode cX2_takeBackTo 0 = .ok (.iload_n 1, 1) := by decide +kernel
theorem dX2_takeBackTo_1 : decode cX2_takeBackTo 1 = .ok (.iconst 0, 1) := by decide +kernel
theorem dX2_takeBackTo_2 : decode cX2_takeBackTo 2 = .ok (.invokestatic 7, 3) := by decide +kernel
theorem dX2_takeBackTo_5 : decode cX2_takeBackTo 5 = .ok (.istore_n 2, 1) := by decide +kernel
theorem dX2_takeBackTo_6 : decode cX2_takeBackTo 6 = .ok (.aload_n 0, 1) := by decide +kernel
theorem dX2_takeBackTo_7 : decode cX2_takeBackTo 7 = .ok (.getfield 25, 3) := by decide +kernel
theorem dX2_takeBackTo_10 : decode cX2_takeBackTo 10 = .ok (.iload_n 2, 1) := by decide +kernel
theorem dX2_takeBackTo_11 : decode cX2_takeBackTo 11 = .ok (.if_icmp .le 41, 3) := by decide +kernel
theorem dX2_takeBackTo_14 : decode cX2_takeBackTo 14 = .ok (.aload_n 0, 1) := by decide +kernel
theorem dX2_takeBackTo_15 : decode cX2_takeBackTo 15 = .ok (.getfield 25, 3) := by decide +kernel
theorem dX2_takeBackTo_18 : decode cX2_takeBackTo 18 = .ok (.aload_n 0, 1) := by decide +kernel
theorem dX2_takeBackTo_19 : decode cX2_takeBackTo 19 = .ok (.getfield 22, 3) := by decide +kernel
theorem dX2_takeBackTo_22 : decode cX2_takeBackTo 22 = .ok (.arraylength, 1) := by decide +kernel
theorem dX2_takeBackTo_23 : decode cX2_takeBackTo 23 = .ok (.if_icmp .gt 29, 3) := by decide +kernel
theorem dX2_takeBackTo_26 : decode cX2_takeBackTo 26 = .ok (.aload_n 0, 1) := by decide +kernel
theorem dX2_takeBackTo_27 : decode cX2_takeBackTo 27 = .ok (.dup, 1) := by decide +kernel
theorem dX2_takeBackTo_28 : decode cX2_takeBackTo 28 = .ok (.getfield 25, 3) := by decide +kernel
theorem dX2_takeBackTo_31 : decode cX2_takeBackTo 31 = .ok (.iconst 1, 1) := by decide +kernel
theorem dX2_takeBackTo_32 : decode cX2_takeBackTo 32 = .ok (.isub, 1) := by decide +kernel
theorem dX2_takeBackTo_33 : decode cX2_takeBackTo 33 = .ok (.putfield 25, 3) := by decide +kernel
theorem dX2_takeBackTo_36 : decode cX2_takeBackTo 36 = .ok (.aload_n 0, 1) := by decide +kernel
theorem dX2_takeBackTo_37 : decode cX2_takeBackTo 37 = .ok (.aload_n 0, 1) := by decide +kernel
theorem dX2_takeBackTo_38 : decode cX2_takeBackTo 38 = .ok (.getfield 22, 3) := by decide +kernel
theorem dX2_takeBackTo_41 : decode cX2_takeBackTo 41 = .ok (.aload_n 0, 1) := by decide +kernel
theorem dX2_takeBackTo_42 : decode cX2_takeBackTo 42 = .ok (.getfield 25, 3) := by decide +kernel
theorem dX2_takeBackTo_45 : decode cX2_takeBackTo 45 = .ok (.iaload, 1) := by decide +kernel
theorem dX2_takeBackTo_46 : decode cX2_takeBackTo 46 = .ok (.invokevirtual 37, 3) := by decide +kernel
theorem dX2_takeBackTo_49 : decode cX2_takeBackTo 49 = .ok (.goto (-43), 3) := by decide +kernel
theorem dX2_takeBackTo_52 : decode cX2_takeBackTo 52 = .ok (.return_, 1) := by decide +kernel
theorem dX2_takeOff_0 : decode cX2_takeOff 0 = .ok (.aload_n 0, 1) := by decide +kernel
theorem dX2_takeOff_1 : decode cX2_takeOff 1 = .ok (.iload_n 1, 1) := by decide +kernel
theorem dX2_takeOff_2 : decode cX2_takeOff 2 = .ok (.invokevirtual 29, 3) := by decide +kernel
theorem dX2_takeOff_5 : decode cX2_takeOff 5 = .ok (.ifCond .ne 4, 3) := by decide +kernel
theorem dX2_takeOff_8 : decode cX2_takeOff 8 = .ok (.return_, 1) := by decide +kernel
theorem dX2_takeOff_9 : decode cX2_takeOff 9 = .ok (.aload_n 0, 1) := by decide +kernel
theorem dX2_takeOff_10 : decode cX2_takeOff 10 = .ok (.getfield 13, 3) := by decide +kernel
theorem dX2_takeOff_13 : decode cX2_takeOff 13 = .ok (.iload_n 1, 1) := by decide +kernel
theorem dX2_takeOff_14 : decode cX2_takeOff 14 = .ok (.iaload, 1) := by decide +kernel
theorem dX2_takeOff_15 : decode cX2_takeOff 15 = .ok (.istore_n 2, 1) := by decide +kernel
theorem dX2_takeOff_16 : decode cX2_takeOff 16 = .ok (.aload_n 0, 1) := by decide +kernel
theorem dX2_takeOff_17 : decode cX2_takeOff 17 = .ok (.iload_n 2, 1) := by decide +kernel
theorem dX2_takeOff_18 : decode cX2_takeOff 18 = .ok (.invokevirtual 29, 3) := by decide +kernel
theorem dX2_takeOff_21 : decode cX2_takeOff 21 = .ok (.ifCond .eq 25, 3) := by decide +kernel
theorem dX2_takeOff_24 : decode cX2_takeOff 24 = .ok (.aload_n 0, 1) := by decide +kernel
theorem dX2_takeOff_25 : decode cX2_takeOff 25 = .ok (.getfield 19, 3) := by decide +kernel
theorem dX2_takeOff_28 : decode cX2_takeOff 28 = .ok (.iload_n 2, 1) := by decide +kernel
theorem dX2_takeOff_29 : decode cX2_takeOff 29 = .ok (.dup2, 1) := by decide +kernel
theorem dX2_takeOff_30 : decode cX2_takeOff 30 = .ok (.iaload, 1) := by decide +kernel
theorem dX2_takeOff_31 : decode cX2_takeOff 31 = .ok (.aload_n 0, 1) := by decide +kernel
theorem dX2_takeOff_32 : decode cX2_takeOff 32 = .ok (.getfield 19, 3) := by decide +kernel
theorem dX2_takeOff_35 : decode cX2_takeOff 35 = .ok (.iload_n 1, 1) := by decide +kernel
theorem dX2_takeOff_36 : decode cX2_takeOff 36 = .ok (.iaload, 1) := by decide +kernel
theorem dX2_takeOff_37 : decode cX2_takeOff 37 = .ok (.isub, 1) := by decide +kernel
theorem dX2_takeOff_38 : decode cX2_takeOff 38 = .ok (.iastore, 1) := by decide +kernel
theorem dX2_takeOff_39 : decode cX2_takeOff 39 = .ok (.aload_n 0, 1) := by decide +kernel
theorem dX2_takeOff_40 : decode cX2_takeOff 40 = .ok (.getfield 13, 3) := by decide +kernel
theorem dX2_takeOff_43 : decode cX2_takeOff 43 = .ok (.iload_n 1, 1) := by decide +kernel
theorem dX2_takeOff_44 : decode cX2_takeOff 44 = .ok (.iload_n 1, 1) := by decide +kernel
theorem dX2_takeOff_45 : decode cX2_takeOff 45 = .ok (.iastore, 1) := by decide +kernel
theorem dX2_takeOff_46 : decode cX2_takeOff 46 = .ok (.return_, 1) := by decide +kernel
theorem dX3_init_0 : decode cX3_init 0 = .ok (.aload_n 0, 1) := by decide +kernel
theorem dX3_init_1 : decode cX3_init 1 = .ok (.invokespecial 3, 3) := by decide +kernel
theorem dX3_init_4 : decode cX3_init 4 = .ok (.aload_n 0, 1) := by decide +kernel
theorem dX3_init_5 : decode cX3_init 5 = .ok (.bipush 60, 2) := by decide +kernel
theorem dX3_init_7 : decode cX3_init 7 = .ok (.newarray .char, 2) := by decide +kernel
theorem dX3_init_9 : decode cX3_init 9 = .ok (.putfield 9, 3) := by decide +kernel
theorem dX3_init_12 : decode cX3_init 12 = .ok (.return_, 1) := by decide +kernel
theorem dX3_length_0 : decode cX3_length 0 = .ok (.aload_n 0, 1) := by decide +kernel
theorem dX3_length_1 : decode cX3_length 1 = .ok (.getfield 15, 3) := by decide +kernel
theorem dX3_length_4 : decode cX3_length 4 = .ok (.ireturn, 1) := by decide +kernel
theorem dX3_empty_0 : decode cX3_empty 0 = .ok (.aload_n 0, 1) := by decide +kernel
theorem dX3_empty_1 : decode cX3_empty 1 = .ok (.iconst 0, 1) := by decide +kernel
theorem dX3_empty_2 : decode cX3_empty 2 = .ok (.putfield 15, 3) := by decide +kernel
theorem dX3_empty_5 : decode cX3_empty 5 = .ok (.return_, 1) := by decide +kernel
theorem dX3_append_0 : decode cX3_append 0 = .ok (.aload_n 0, 1) := by decide +kernel
theorem dX3_append_1 : decode cX3_append 1 = .ok (.getfield 15, 3) := by decide +kernel
theorem dX3_append_4 : decode cX3_append 4 = .ok (.bipush 60, 2) := by decide +kernel
theorem dX3_append_6 : decode cX3_append 6 = .ok (.if_icmp .ge 23, 3) := by decide +kernel
theorem dX3_append_9 : decode cX3_append 9 = .ok (.aload_n 0, 1) := by decide +kernel
theorem dX3_append_10 : decode cX3_append 10 = .ok (.getfield 9, 3) := by decide +kernel
theorem dX3_append_13 : decode cX3_append 13 = .ok (.aload_n 0, 1) := by decide +kernel
theorem dX3_append_14 : decode cX3_append 14 = .ok (.getfield 15, 3) := by decide +kernel
theorem dX3_append_17 : decode cX3_append 17 = .ok (.iload_n 1, 1) := by decide +kernel
theorem dX3_append_18 : decode cX3_append 18 = .ok (.castore, 1) := by decide +kernel
theorem dX3_append_19 : decode cX3_append 19 = .ok (.aload_n 0, 1) := by decide +kernel
theorem dX3_append_20 : decode cX3_append 20 = .ok (.dup, 1) := by decide +kernel
theorem dX3_append_21 : decode cX3_append 21 = .ok (.getfield 15, 3) := by decide +kernel
theorem dX3_append_24 : decode cX3_append 24 = .ok (.iconst 1, 1) := by decide +kernel
theorem dX3_append_25 : decode cX3_append 25 = .ok (.iadd, 1) := by decide +kernel
theorem dX3_append_26 : decode cX3_append 26 = .ok (.putfield 15, 3) := by decide +kernel
theorem dX3_append_29 : decode cX3_append 29 = .ok (.return_, 1) := by decide +kernel
theorem dX3_readInto_0 : decode cX3_readInto 0 = .ok (.aload_n 1, 1) := by decide +kernel
theorem dX3_readInto_1 : decode cX3_readInto 1 = .ok (.invokevirtual 19, 3) := by decide +kernel
theorem dX3_readInto_4 : decode cX3_readInto 4 = .ok (.aload_n 0, 1) := by decide +kernel
theorem dX3_readInto_5 : decode cX3_readInto 5 = .ok (.iconst 0, 1) := by decide +kernel
theorem dX3_readInto_6 : decode cX3_readInto 6 = .ok (.putfield 24, 3) := by decide +kernel
theorem dX3_readInto_9 : decode cX3_readInto 9 = .ok (.iconst 0, 1) := by decide +kernel
theorem dX3_readInto_10 : decode cX3_readInto 10 = .ok (.istore_n 2, 1) := by decide +kernel
theorem dX3_readInto_11 : decode cX3_readInto 11 = .ok (.iload_n 2, 1) := by decide +kernel
theorem dX3_readInto_12 : decode cX3_readInto 12 = .ok (.bipush 60, 2) := by decide +kernel
theorem dX3_readInto_14 : decode cX3_readInto 14 = .ok (.if_icmp .ge 49, 3) := by decide +kernel
theorem dX3_readInto_17 : decode cX3_readInto 17 = .ok (.aload_n 0, 1) := by decide +kernel
theorem dX3_readInto_18 : decode cX3_readInto 18 = .ok (.aload_n 1, 1) := by decide +kernel
theorem dX3_readInto_19 : decode cX3_readInto 19 = .ok (.invokevirtual 27, 3) := by decide +kernel
theorem dX3_readInto_22 : decode cX3_readInto 22 = .ok (.ifCond .ne 8, 3) := by decide +kernel
theorem dX3_readInto_25 : decode cX3_readInto 25 = .ok (.aload_n 0, 1) := by decide +kernel
theorem dX3_readInto_26 : decode cX3_readInto 26 = .ok (.getfield 24, 3) := by decide +kernel
theorem dX3_readInto_29 : decode cX3_readInto 29 = .ok (.ireturn, 1) := by decide +kernel
theorem dX3_readInto_30 : decode cX3_readInto 30 = .ok (.aload_n 0, 1) := by decide +kernel
theorem dX3_readInto_31 : decode cX3_readInto 31 = .ok (.getfield 24, 3) := by decide +kernel
theorem dX3_readInto_34 : decode cX3_readInto 34 = .ok (.aload_n 0, 1) := by decide +kernel
theorem dX3_readInto_35 : decode cX3_readInto 35 = .ok (.getfield 15, 3) := by decide +kernel
theorem dX3_readInto_38 : decode cX3_readInto 38 = .ok (.if_icmp .ne 5, 3) := by decide +kernel
theorem dX3_readInto_41 : decode cX3_readInto 41 = .ok (.iconst (-1), 1) := by decide +kernel
theorem dX3_readInto_42 : decode cX3_readInto 42 = .ok (.ireturn, 1) := by decide +kernel
theorem dX3_readInto_43 : decode cX3_readInto 43 = .ok (.aload_n 0, 1) := by decide +kernel
theorem dX3_readInto_44 : decode cX3_readInto 44 = .ok (.bipush 44, 2) := by decide +kernel
theorem dX3_readInto_46 : decode cX3_readInto 46 = .ok (.invokevirtual 31, 3) := by decide +kernel
theorem dX3_readInto_49 : decode cX3_readInto 49 = .ok (.ifCond .ne 8, 3) := by decide +kernel
theorem dX3_readInto_52 : decode cX3_readInto 52 = .ok (.aload_n 0, 1) := by decide +kernel
theorem dX3_readInto_53 : decode cX3_readInto 53 = .ok (.getfield 24, 3) := by decide +kernel
theorem dX3_readInto_56 : decode cX3_readInto 56 = .ok (.ireturn, 1) := by decide +kernel
theorem dX3_readInto_57 : decode cX3_readInto 57 = .ok (.iinc 2 1, 3) := by decide +kernel
theorem dX3_readInto_60 : decode cX3_readInto 60 = .ok (.goto (-49), 3) := by decide +kernel
theorem dX3_readInto_63 : decode cX3_readInto 63 = .ok (.aload_n 0, 1) := by decide +kernel
theorem dX3_readInto_64 : decode cX3_readInto 64 = .ok (.getfield 24, 3) := by decide +kernel
theorem dX3_readInto_67 : decode cX3_readInto 67 = .ok (.ireturn, 1) := by decide +kernel
theorem dX3_readLink_0 : decode cX3_readLink 0 = .ok (.aload_n 0, 1) := by decide +kernel
theorem dX3_readLink_1 : decode cX3_readLink 1 = .ok (.bipush 15, 2) := by decide +kernel
theorem dX3_readLink_3 : decode cX3_readLink 3 = .ok (.invokevirtual 35, 3) := by decide +kernel
theorem dX3_readLink_6 : decode cX3_readLink 6 = .ok (.istore_n 2, 1) := by decide +kernel
theorem dX3_readLink_7 : decode cX3_readLink 7 = .ok (.iload_n 2, 1) := by decide +kernel
theorem dX3_readLink_8 : decode cX3_readLink 8 = .ok (.iconst (-1), 1) := by decide +kernel
theorem dX3_readLink_9 : decode cX3_readLink 9 = .ok (.if_icmp .eq 12, 3) := by decide +kernel
theorem dX3_readLink_12 : decode cX3_readLink 12 = .ok (.aload_n 0, 1) := by decide +kernel
theorem dX3_readLink_13 : decode cX3_readLink 13 = .ok (.bipush 45, 2) := by decide +kernel
theorem dX3_readLink_15 : decode cX3_readLink 15 = .ok (.invokevirtual 31, 3) := by decide +kernel
theorem dX3_readLink_18 : decode cX3_readLink 18 = .ok (.ifCond .ne 5, 3) := by decide +kernel
theorem dX3_readLink_21 : decode cX3_readLink 21 = .ok (.iconst 0, 1) := by decide +kernel
theorem dX3_readLink_22 : decode cX3_readLink 22 = .ok (.ireturn, 1) := by decide +kernel
theorem dX3_readLink_23 : decode cX3_readLink 23 = .ok (.aload_n 0, 1) := by decide +kernel
theorem dX3_readLink_24 : decode cX3_readLink 24 = .ok (.bipush 15, 2) := by decide +kernel
theorem dX3_readLink_26 : decode cX3_readLink 26 = .ok (.invokevirtual 35, 3) := by decide +kernel
theorem dX3_readLink_29 : decode cX3_readLink 29 = .ok (.istore_n 3, 1) := by decide +kernel
theorem dX3_readLink_30 : decode cX3_readLink 30 = .ok (.iload_n 3, 1) := by decide +kernel
theorem dX3_readLink_31 : decode cX3_readLink 31 = .ok (.iconst (-1), 1) := by decide +kernel
theorem dX3_readLink_32 : decode cX3_readLink 32 = .ok (.if_icmp .ne 5, 3) := by decide +kernel
theorem dX3_readLink_35 : decode cX3_readLink 35 = .ok (.iconst 0, 1) := by decide +kernel
theorem dX3_readLink_36 : decode cX3_readLink 36 = .ok (.ireturn, 1) := by decide +kernel
theorem dX3_readLink_37 : decode cX3_readLink 37 = .ok (.iload_n 3, 1) := by decide +kernel
theorem dX3_readLink_38 : decode cX3_readLink 38 = .ok (.iload_n 2, 1) := by decide +kernel
theorem dX3_readLink_39 : decode cX3_readLink 39 = .ok (.if_icmp .ne 8, 3) := by decide +kernel
theorem dX3_readLink_42 : decode cX3_readLink 42 = .ok (.aload_n 0, 1) := by decide +kernel
theorem dX3_readLink_43 : decode cX3_readLink 43 = .ok (.invokevirtual 39, 3) := by decide +kernel
theorem dX3_readLink_46 : decode cX3_readLink 46 = .ok (.ireturn, 1) := by decide +kernel
theorem dX3_readLink_47 : decode cX3_readLink 47 = .ok (.aload_n 0, 1) := by decide +kernel
theorem dX3_readLink_48 : decode cX3_readLink 48 = .ok (.bipush 64, 2) := by decide +kernel
theorem dX3_readLink_50 : decode cX3_readLink 50 = .ok (.invokevirtual 31, 3) := by decide +kernel
theorem dX3_readLink_53 : decode cX3_readLink 53 = .ok (.ifCond .ne 5, 3) := by decide +kernel
theorem dX3_readLink_56 : decode cX3_readLink 56 = .ok (.iconst 0, 1) := by decide +kernel
theorem dX3_readLink_57 : decode cX3_readLink 57 = .ok (.ireturn, 1) := by decide +kernel
theorem dX3_readLink_58 : decode cX3_readLink 58 = .ok (.aload_n 0, 1) := by decide +kernel
theorem dX3_readLink_59 : decode cX3_readLink 59 = .ok (.bipush 63, 2) := by decide +kernel
theorem dX3_readLink_61 : decode cX3_readLink 61 = .ok (.invokevirtual 35, 3) := by decide +kernel
theorem dX3_readLink_64 : decode cX3_readLink 64 = .ok (.istore 4, 2) := by decide +kernel
theorem dX3_readLink_66 : decode cX3_readLink 66 = .ok (.iload 4, 2) := by decide +kernel
theorem dX3_readLink_68 : decode cX3_readLink 68 = .ok (.iconst (-1), 1) := by decide +kernel
theorem dX3_readLink_69 : decode cX3_readLink 69 = .ok (.if_icmp .eq 12, 3) := by decide +kernel
theorem dX3_readLink_72 : decode cX3_readLink 72 = .ok (.aload_n 0, 1) := by decide +kernel
theorem dX3_readLink_73 : decode cX3_readLink 73 = .ok (.bipush 58, 2) := by decide +kernel
theorem dX3_readLink_75 : decode cX3_readLink 75 = .ok (.invokevirtual 31, 3) := by decide +kernel
theorem dX3_readLink_78 : decode cX3_readLink 78 = .ok (.ifCond .ne 5, 3) := by decide +kernel
theorem dX3_readLink_81 : decode cX3_readLink 81 = .ok (.iconst 0, 1) := by decide +kernel
theorem dX3_readLink_82 : decode cX3_readLink 82 = .ok (.ireturn, 1) := by decide +kernel
theorem dX3_readLink_83 : decode cX3_readLink 83 = .ok (.aload_n 0, 1) := by decide +kernel
theorem dX3_readLink_84 : decode cX3_readLink 84 = .ok (.bipush 64, 2) := by decide +kernel
theorem dX3_readLink_86 : decode cX3_readLink 86 = .ok (.invokevirtual 35, 3) := by decide +kernel
theorem dX3_readLink_89 : decode cX3_readLink 89 = .ok (.istore 5, 2) := by decide +kernel
theorem dX3_readLink_91 : decode cX3_readLink 91 = .ok (.iload 5, 2) := by decide +kernel
theorem dX3_readLink_93 : decode cX3_readLink 93 = .ok (.iconst (-1), 1) := by decide +kernel
theorem dX3_readLink_94 : decode cX3_readLink 94 = .ok (.if_icmp .ne 5, 3) := by decide +kernel
theorem dX3_readLink_97 : decode cX3_readLink 97 = .ok (.iconst 0, 1) := by decide +kernel
theorem dX3_readLink_98 : decode cX3_readLink 98 = .ok (.ireturn, 1) := by decide +kernel
theorem dX3_readLink_99 : decode cX3_readLink 99 = .ok (.iload 5, 2) := by decide +kernel
theorem dX3_readLink_101 : decode cX3_readLink 101 = .ok (.iload 4, 2) := by decide +kernel
theorem dX3_readLink_103 : decode cX3_readLink 103 = .ok (.if_icmp .gt 8, 3) := by decide +kernel
theorem dX3_readLink_106 : decode cX3_readLink 106 = .ok (.aload_n 0, 1) := by decide +kernel
theorem dX3_readLink_107 : decode cX3_readLink 107 = .ok (.invokevirtual 39, 3) := by decide +kernel
theorem dX3_readLink_110 : decode cX3_readLink 110 = .ok (.ireturn, 1) := by decide +kernel
theorem dX3_readLink_111 : decode cX3_readLink 111 = .ok (.aload_n 1, 1) := by decide +kernel
theorem dX3_readLink_112 : decode cX3_readLink 112 = .ok (.iload_n 2, 1) := by decide +kernel
theorem dX3_readLink_113 : decode cX3_readLink 113 = .ok (.iload_n 3, 1) := by decide +kernel
theorem dX3_readLink_114 : decode cX3_readLink 114 = .ok (.iload 4, 2) := by decide +kernel
theorem dX3_readLink_116 : decode cX3_readLink 116 = .ok (.iload 5, 2) := by decide +kernel
theorem dX3_readLink_118 : decode cX3_readLink 118 = .ok (.invokevirtual 43, 3) := by decide +kernel
theorem dX3_readLink_121 : decode cX3_readLink 121 = .ok (.iconst 1, 1) := by decide +kernel
theorem dX3_readLink_122 : decode cX3_readLink 122 = .ok (.ireturn, 1) := by decide +kernel
theorem dX3_refuseLastDigit_0 : decode cX3_refuseLastDigit 0 = .ok (.aload_n 0, 1) := by decide +kernel
theorem dX3_refuseLastDigit_1 : decode cX3_refuseLastDigit 1 = .ok (.dup, 1) := by decide +kernel
theorem dX3_refuseLastDigit_2 : decode cX3_refuseLastDigit 2 = .ok (.getfield 24, 3) := by decide +kernel
theorem dX3_refuseLastDigit_5 : decode cX3_refuseLastDigit 5 = .ok (.iconst 1, 1) := by decide +kernel
theorem dX3_refuseLastDigit_6 : decode cX3_refuseLastDigit 6 = .ok (.isub, 1) := by decide +kernel
theorem dX3_refuseLastDigit_7 : decode cX3_refuseLastDigit 7 = .ok (.putfield 24, 3) := by decide +kernel
theorem dX3_refuseLastDigit_10 : decode cX3_refuseLastDigit 10 = .ok (.iconst 0, 1) := by decide +kernel
theorem dX3_refuseLastDigit_11 : decode cX3_refuseLastDigit 11 = .ok (.ireturn, 1) := by decide +kernel
theorem dX3_readSign_0 : decode cX3_readSign 0 = .ok (.aload_n 0, 1) := by decide +kernel
theorem dX3_readSign_1 : decode cX3_readSign 1 = .ok (.getfield 24, 3) := by decide +kernel
theorem dX3_readSign_4 : decode cX3_readSign 4 = .ok (.ifCond .lt 27, 3) := by decide +kernel
theorem dX3_readSign_7 : decode cX3_readSign 7 = .ok (.aload_n 0, 1) := by decide +kernel
theorem dX3_readSign_8 : decode cX3_readSign 8 = .ok (.getfield 24, 3) := by decide +kernel
theorem dX3_readSign_11 : decode cX3_readSign 11 = .ok (.aload_n 0, 1) := by decide +kernel
theorem dX3_readSign_12 : decode cX3_readSign 12 = .ok (.getfield 15, 3) := by decide +kernel
theorem dX3_readSign_15 : decode cX3_readSign 15 = .ok (.if_icmp .ge 16, 3) := by decide +kernel
theorem dX3_readSign_18 : decode cX3_readSign 18 = .ok (.aload_n 0, 1) := by decide +kernel
theorem dX3_readSign_19 : decode cX3_readSign 19 = .ok (.getfield 9, 3) := by decide +kernel
theorem dX3_readSign_22 : decode cX3_readSign 22 = .ok (.aload_n 0, 1) := by decide +kernel
theorem dX3_readSign_23 : decode cX3_readSign 23 = .ok (.getfield 24, 3) := by decide +kernel
theorem dX3_readSign_26 : decode cX3_readSign 26 = .ok (.caload, 1) := by decide +kernel
theorem dX3_readSign_27 : decode cX3_readSign 27 = .ok (.iload_n 1, 1) := by decide +kernel
theorem dX3_readSign_28 : decode cX3_readSign 28 = .ok (.if_icmp .eq 5, 3) := by decide +kernel
theorem dX3_readSign_31 : decode cX3_readSign 31 = .ok (.iconst 0, 1) := by decide +kernel
theorem dX3_readSign_32 : decode cX3_readSign 32 = .ok (.ireturn, 1) := by decide +kernel
theorem dX3_readSign_33 : decode cX3_readSign 33 = .ok (.aload_n 0, 1) := by decide +kernel
theorem dX3_readSign_34 : decode cX3_readSign 34 = .ok (.dup, 1) := by decide +kernel
theorem dX3_readSign_35 : decode cX3_readSign 35 = .ok (.getfield 24, 3) := by decide +kernel
theorem dX3_readSign_38 : decode cX3_readSign 38 = .ok (.iconst 1, 1) := by decide +kernel
theorem dX3_readSign_39 : decode cX3_readSign 39 = .ok (.iadd, 1) := by decide +kernel
theorem dX3_readSign_40 : decode cX3_readSign 40 = .ok (.putfield 24, 3) := by decide +kernel
theorem dX3_readSign_43 : decode cX3_readSign 43 = .ok (.iconst 1, 1) := by decide +kernel
theorem dX3_readSign_44 : decode cX3_readSign 44 = .ok (.ireturn, 1) := by decide +kernel
theorem dX3_readNumber_0 : decode cX3_readNumber 0 = .ok (.aload_n 0, 1) := by decide +kernel
theorem dX3_readNumber_1 : decode cX3_readNumber 1 = .ok (.aload_n 0, 1) := by decide +kernel
theorem dX3_readNumber_2 : decode cX3_readNumber 2 = .ok (.getfield 24, 3) := by decide +kernel
theorem dX3_readNumber_5 : decode cX3_readNumber 5 = .ok (.invokevirtual 47, 3) := by decide +kernel
theorem dX3_readNumber_8 : decode cX3_readNumber 8 = .ok (.istore_n 2, 1) := by decide +kernel
theorem dX3_readNumber_9 : decode cX3_readNumber 9 = .ok (.iload_n 2, 1) := by decide +kernel
theorem dX3_readNumber_10 : decode cX3_readNumber 10 = .ok (.iconst (-1), 1) := by decide +kernel
theorem dX3_readNumber_11 : decode cX3_readNumber 11 = .ok (.if_icmp .ne 5, 3) := by decide +kernel
theorem dX3_readNumber_14 : decode cX3_readNumber 14 = .ok (.iconst (-1), 1) := by decide +kernel
theorem dX3_readNumber_15 : decode cX3_readNumber 15 = .ok (.ireturn, 1) := by decide +kernel
theorem dX3_readNumber_16 : decode cX3_readNumber 16 = .ok (.aload_n 0, 1) := by decide +kernel
theorem dX3_readNumber_17 : decode cX3_readNumber 17 = .ok (.dup, 1) := by decide +kernel
theorem dX3_readNumber_18 : decode cX3_readNumber 18 = .ok (.getfield 24, 3) := by decide +kernel
theorem dX3_readNumber_21 : decode cX3_readNumber 21 = .ok (.iconst 1, 1) := by decide +kernel
theorem dX3_readNumber_22 : decode cX3_readNumber 22 = .ok (.iadd, 1) := by decide +kernel
theorem dX3_readNumber_23 : decode cX3_readNumber 23 = .ok (.putfield 24, 3) := by decide +kernel
theorem dX3_readNumber_26 : decode cX3_readNumber 26 = .ok (.aload_n 0, 1) := by decide +kernel
theorem dX3_readNumber_27 : decode cX3_readNumber 27 = .ok (.aload_n 0, 1) := by decide +kernel
theorem dX3_readNumber_28 : decode cX3_readNumber 28 = .ok (.getfield 24, 3) := by decide +kernel
theorem dX3_readNumber_31 : decode cX3_readNumber 31 = .ok (.invokevirtual 47, 3) := by decide +kernel
theorem dX3_readNumber_34 : decode cX3_readNumber 34 = .ok (.istore_n 3, 1) := by decide +kernel
theorem dX3_readNumber_35 : decode cX3_readNumber 35 = .ok (.bipush 10, 2) := by decide +kernel
theorem dX3_readNumber_37 : decode cX3_readNumber 37 = .ok (.iload_n 2, 1) := by decide +kernel
theorem dX3_readNumber_38 : decode cX3_readNumber 38 = .ok (.imul, 1) := by decide +kernel
theorem dX3_readNumber_39 : decode cX3_readNumber 39 = .ok (.iload_n 3, 1) := by decide +kernel
theorem dX3_readNumber_40 : decode cX3_readNumber 40 = .ok (.iadd, 1) := by decide +kernel
theorem dX3_readNumber_41 : decode cX3_readNumber 41 = .ok (.istore 4, 2) := by decide +kernel
theorem dX3_readNumber_43 : decode cX3_readNumber 43 = .ok (.iload_n 2, 1) := by decide +kernel
theorem dX3_readNumber_44 : decode cX3_readNumber 44 = .ok (.ifCond .eq 14, 3) := by decide +kernel
theorem dX3_readNumber_47 : decode cX3_readNumber 47 = .ok (.iload_n 3, 1) := by decide +kernel
theorem dX3_readNumber_48 : decode cX3_readNumber 48 = .ok (.iconst (-1), 1) := by decide +kernel
theorem dX3_readNumber_49 : decode cX3_readNumber 49 = .ok (.if_icmp .eq 9, 3) := by decide +kernel
theorem dX3_readNumber_52 : decode cX3_readNumber 52 = .ok (.iload 4, 2) := by decide +kernel
theorem dX3_readNumber_54 : decode cX3_readNumber 54 = .ok (.iload_n 1, 1) := by decide +kernel
theorem dX3_readNumber_55 : decode cX3_readNumber 55 = .ok (.if_icmp .le 5, 3) := by decide +kernel
theorem dX3_readNumber_58 : decode cX3_readNumber 58 = .ok (.iload_n 2, 1) := by decide +kernel
theorem dX3_readNumber_59 : decode cX3_readNumber 59 = .ok (.ireturn, 1) := by decide +kernel
theorem dX3_readNumber_60 : decode cX3_readNumber 60 = .ok (.aload_n 0, 1) := by decide +kernel
theorem dX3_readNumber_61 : decode cX3_readNumber 61 = .ok (.dup, 1) := by decide +kernel
theorem dX3_readNumber_62 : decode cX3_readNumber 62 = .ok (.getfield 24, 3) := by decide +kernel
theorem dX3_readNumber_65 : decode cX3_readNumber 65 = .ok (.iconst 1, 1) := by decide +kernel
theorem dX3_readNumber_66 : decode cX3_readNumber 66 = .ok (.iadd, 1) := by decide +kernel
theorem dX3_readNumber_67 : decode cX3_readNumber 67 = .ok (.putfield 24, 3) := by decide +kernel
theorem dX3_readNumber_70 : decode cX3_readNumber 70 = .ok (.iload 4, 2) := by decide +kernel
theorem dX3_readNumber_72 : decode cX3_readNumber 72 = .ok (.ireturn, 1) := by decide +kernel
theorem dX3_digitAt_0 : decode cX3_digitAt 0 = .ok (.iload_n 1, 1) := by decide +kernel
theorem dX3_digitAt_1 : decode cX3_digitAt 1 = .ok (.ifCond .lt 11, 3) := by decide +kernel
theorem dX3_digitAt_4 : decode cX3_digitAt 4 = .ok (.iload_n 1, 1) := by decide +kernel
theorem dX3_digitAt_5 : decode cX3_digitAt 5 = .ok (.aload_n 0, 1) := by decide +kernel
theorem dX3_digitAt_6 : decode cX3_digitAt 6 = .ok (.getfield 15, 3) := by decide +kernel
theorem dX3_digitAt_9 : decode cX3_digitAt 9 = .ok (.if_icmp .lt 5, 3) := by decide +kernel
theorem dX3_digitAt_12 : decode cX3_digitAt 12 = .ok (.iconst (-1), 1) := by decide +kernel
theorem dX3_digitAt_13 : decode cX3_digitAt 13 = .ok (.ireturn, 1) := by decide +kernel
theorem dX3_digitAt_14 : decode cX3_digitAt 14 = .ok (.aload_n 0, 1) := by decide +kernel
theorem dX3_digitAt_15 : decode cX3_digitAt 15 = .ok (.getfield 9, 3) := by decide +kernel
theorem dX3_digitAt_18 : decode cX3_digitAt 18 = .ok (.iload_n 1, 1) := by decide +kernel
theorem dX3_digitAt_19 : decode cX3_digitAt 19 = .ok (.caload, 1) := by decide +kernel
theorem dX3_digitAt_20 : decode cX3_digitAt 20 = .ok (.istore_n 2, 1) := by decide +kernel
theorem dX3_digitAt_21 : decode cX3_digitAt 21 = .ok (.iload_n 2, 1) := by decide +kernel
theorem dX3_digitAt_22 : decode cX3_digitAt 22 = .ok (.bipush 48, 2) := by decide +kernel
theorem dX3_digitAt_24 : decode cX3_digitAt 24 = .ok (.if_icmp .lt 16, 3) := by decide +kernel
theorem dX3_digitAt_27 : decode cX3_digitAt 27 = .ok (.iload_n 2, 1) := by decide +kernel
theorem dX3_digitAt_28 : decode cX3_digitAt 28 = .ok (.bipush 57, 2) := by decide +kernel
theorem dX3_digitAt_30 : decode cX3_digitAt 30 = .ok (.if_icmp .gt 10, 3) := by decide +kernel
theorem dX3_digitAt_33 : decode cX3_digitAt 33 = .ok (.iload_n 2, 1) := by decide +kernel
theorem dX3_digitAt_34 : decode cX3_digitAt 34 = .ok (.bipush 48, 2) := by decide +kernel
theorem dX3_digitAt_36 : decode cX3_digitAt 36 = .ok (.isub, 1) := by decide +kernel
theorem dX3_digitAt_37 : decode cX3_digitAt 37 = .ok (.goto 4, 3) := by decide +kernel
theorem dX3_digitAt_40 : decode cX3_digitAt 40 = .ok (.iconst (-1), 1) := by decide +kernel
theorem dX3_digitAt_41 : decode cX3_digitAt 41 = .ok (.ireturn, 1) := by decide +kernel
theorem dX4_init_0 : decode cX4_init 0 = .ok (.aload_n 0, 1) := by decide +kernel
theorem dX4_init_1 : decode cX4_init 1 = .ok (.invokespecial 3, 3) := by decide +kernel
theorem dX4_init_4 : decode cX4_init 4 = .ok (.aload_n 0, 1) := by decide +kernel
theorem dX4_init_5 : decode cX4_init 5 = .ok (.bipush 40, 2) := by decide +kernel
theorem dX4_init_7 : decode cX4_init 7 = .ok (.newarray .int, 2) := by decide +kernel
theorem dX4_init_9 : decode cX4_init 9 = .ok (.putfield 9, 3) := by decide +kernel
theorem dX4_init_12 : decode cX4_init 12 = .ok (.aload_n 0, 1) := by decide +kernel
theorem dX4_init_13 : decode cX4_init 13 = .ok (.bipush 40, 2) := by decide +kernel
theorem dX4_init_15 : decode cX4_init 15 = .ok (.newarray .int, 2) := by decide +kernel
theorem dX4_init_17 : decode cX4_init 17 = .ok (.putfield 15, 3) := by decide +kernel
theorem dX4_init_20 : decode cX4_init 20 = .ok (.aload_n 0, 1) := by decide +kernel
theorem dX4_init_21 : decode cX4_init 21 = .ok (.bipush 40, 2) := by decide +kernel
theorem dX4_init_23 : decode cX4_init 23 = .ok (.newarray .int, 2) := by decide +kernel
theorem dX4_init_25 : decode cX4_init 25 = .ok (.putfield 18, 3) := by decide +kernel
theorem dX4_init_28 : decode cX4_init 28 = .ok (.aload_n 0, 1) := by decide +kernel
theorem dX4_init_29 : decode cX4_init 29 = .ok (.bipush 40, 2) := by decide +kernel
theorem dX4_init_31 : decode cX4_init 31 = .ok (.newarray .int, 2) := by decide +kernel
theorem dX4_init_33 : decode cX4_init 33 = .ok (.putfield 21, 3) := by decide +kernel
theorem dX4_init_36 : decode cX4_init 36 = .ok (.return_, 1) := by decide +kernel
theorem dX4_size_0 : decode cX4_size 0 = .ok (.aload_n 0, 1) := by decide +kernel
theorem dX4_size_1 : decode cX4_size 1 = .ok (.getfield 24, 3) := by decide +kernel
theorem dX4_size_4 : decode cX4_size 4 = .ok (.ireturn, 1) := by decide +kernel
theorem dX4_room_0 : decode cX4_room 0 = .ok (.bipush 40, 2) := by decide +kernel
theorem dX4_room_2 : decode cX4_room 2 = .ok (.aload_n 0, 1) := by decide +kernel
theorem dX4_room_3 : decode cX4_room 3 = .ok (.getfield 24, 3) := by decide +kernel
theorem dX4_room_6 : decode cX4_room 6 = .ok (.isub, 1) := by decide +kernel
theorem dX4_room_7 : decode cX4_room 7 = .ok (.ireturn, 1) := by decide +kernel
theorem dX4_has_0 : decode cX4_has 0 = .ok (.iload_n 1, 1) := by decide +kernel
theorem dX4_has_1 : decode cX4_has 1 = .ok (.ifCond .lt 15, 3) := by decide +kernel
theorem dX4_has_4 : decode cX4_has 4 = .ok (.iload_n 1, 1) := by decide +kernel
theorem dX4_has_5 : decode cX4_has 5 = .ok (.aload_n 0, 1) := by decide +kernel
theorem dX4_has_6 : decode cX4_has 6 = .ok (.getfield 24, 3) := by decide +kernel
theorem dX4_has_9 : decode cX4_has 9 = .ok (.if_icmp .ge 7, 3) := by decide +kernel
theorem dX4_has_12 : decode cX4_has 12 = .ok (.iconst 1, 1) := by decide +kernel
theorem dX4_has_13 : decode cX4_has 13 = .ok (.goto 4, 3) := by decide +kernel
theorem dX4_has_16 : decode cX4_has 16 = .ok (.iconst 0, 1) := by decide +kernel
theorem dX4_has_17 : decode cX4_has 17 = .ok (.ireturn, 1) := by decide +kernel
theorem dX4_oneOf_0 : decode cX4_oneOf 0 = .ok (.aload_n 0, 1) := by decide +kernel
theorem dX4_oneOf_1 : decode cX4_oneOf 1 = .ok (.iload_n 1, 1) := by decide +kernel
theorem dX4_oneOf_2 : decode cX4_oneOf 2 = .ok (.invokevirtual 28, 3) := by decide +kernel
theorem dX4_oneOf_5 : decode cX4_oneOf 5 = .ok (.ifCond .eq 12, 3) := by decide +kernel
theorem dX4_oneOf_8 : decode cX4_oneOf 8 = .ok (.aload_n 0, 1) := by decide +kernel
theorem dX4_oneOf_9 : decode cX4_oneOf 9 = .ok (.getfield 9, 3) := by decide +kernel
theorem dX4_oneOf_12 : decode cX4_oneOf 12 = .ok (.iload_n 1, 1) := by decide +kernel
theorem dX4_oneOf_13 : decode cX4_oneOf 13 = .ok (.iaload, 1) := by decide +kernel
theorem dX4_oneOf_14 : decode cX4_oneOf 14 = .ok (.goto 4, 3) := by decide +kernel
theorem dX4_oneOf_17 : decode cX4_oneOf 17 = .ok (.iconst 0, 1) := by decide +kernel
theorem dX4_oneOf_18 : decode cX4_oneOf 18 = .ok (.ireturn, 1) := by decide +kernel
theorem dX4_otherOf_0 : decode cX4_otherOf 0 = .ok (.aload_n 0, 1) := by decide +kernel
theorem dX4_otherOf_1 : decode cX4_otherOf 1 = .ok (.iload_n 1, 1) := by decide +kernel
theorem dX4_otherOf_2 : decode cX4_otherOf 2 = .ok (.invokevirtual 28, 3) := by decide +kernel
theorem dX4_otherOf_5 : decode cX4_otherOf 5 = .ok (.ifCond .eq 12, 3) := by decide +kernel
theorem dX4_otherOf_8 : decode cX4_otherOf 8 = .ok (.aload_n 0, 1) := by decide +kernel
theorem dX4_otherOf_9 : decode cX4_otherOf 9 = .ok (.getfield 15, 3) := by decide +kernel
theorem dX4_otherOf_12 : decode cX4_otherOf 12 = .ok (.iload_n 1, 1) := by decide +kernel
theorem dX4_otherOf_13 : decode cX4_otherOf 13 = .ok (.iaload, 1) := by decide +kernel
theorem dX4_otherOf_14 : decode cX4_otherOf 14 = .ok (.goto 4, 3) := by decide +kernel
theorem dX4_otherOf_17 : decode cX4_otherOf 17 = .ok (.iconst 0, 1) := by decide +kernel
theorem dX4_otherOf_18 : decode cX4_otherOf 18 = .ok (.ireturn, 1) := by decide +kernel
theorem dX4_fromOf_0 : decode cX4_fromOf 0 = .ok (.aload_n 0, 1) := by decide +kernel
theorem dX4_fromOf_1 : decode cX4_fromOf 1 = .ok (.iload_n 1, 1) := by decide +kernel
theorem dX4_fromOf_2 : decode cX4_fromOf 2 = .ok (.invokevirtual 28, 3) := by decide +kernel
theorem dX4_fromOf_5 : decode cX4_fromOf 5 = .ok (.ifCond .eq 12, 3) := by decide +kernel
theorem dX4_fromOf_8 : decode cX4_fromOf 8 = .ok (.aload_n 0, 1) := by decide +kernel
theorem dX4_fromOf_9 : decode cX4_fromOf 9 = .ok (.getfield 18, 3) := by decide +kernel
theorem dX4_fromOf_12 : decode cX4_fromOf 12 = .ok (.iload_n 1, 1) := by decide +kernel
theorem dX4_fromOf_13 : decode cX4_fromOf 13 = .ok (.iaload, 1) := by decide +kernel
theorem dX4_fromOf_14 : decode cX4_fromOf 14 = .ok (.goto 4, 3) := by decide +kernel
theorem dX4_fromOf_17 : decode cX4_fromOf 17 = .ok (.iconst 0, 1) := by decide +kernel
theorem dX4_fromOf_18 : decode cX4_fromOf 18 = .ok (.ireturn, 1) := by decide +kernel
theorem dX4_toOf_0 : decode cX4_toOf 0 = .ok (.aload_n 0, 1) := by decide +kernel
theorem dX4_toOf_1 : decode cX4_toOf 1 = .ok (.iload_n 1, 1) := by decide +kernel
theorem dX4_toOf_2 : decode cX4_toOf 2 = .ok (.invokevirtual 28, 3) := by decide +kernel
theorem dX4_toOf_5 : decode cX4_toOf 5 = .ok (.ifCond .eq 12, 3) := by decide +kernel
theorem dX4_toOf_8 : decode cX4_toOf 8 = .ok (.aload_n 0, 1) := by decide +kernel
theorem dX4_toOf_9 : decode cX4_toOf 9 = .ok (.getfield 21, 3) := by decide +kernel
theorem dX4_toOf_12 : decode cX4_toOf 12 = .ok (.iload_n 1, 1) := by decide +kernel
theorem dX4_toOf_13 : decode cX4_toOf 13 = .ok (.iaload, 1) := by decide +kernel
theorem dX4_toOf_14 : decode cX4_toOf 14 = .ok (.goto 4, 3) := by decide +kernel
theorem dX4_toOf_17 : decode cX4_toOf 17 = .ok (.iconst 0, 1) := by decide +kernel
theorem dX4_toOf_18 : decode cX4_toOf 18 = .ok (.ireturn, 1) := by decide +kernel
theorem dX4_livesAt_0 : decode cX4_livesAt 0 = .ok (.aload_n 0, 1) := by decide +kernel
theorem dX4_livesAt_1 : decode cX4_livesAt 1 = .ok (.iload_n 1, 1) := by decide +kernel
theorem dX4_livesAt_2 : decode cX4_livesAt 2 = .ok (.invokevirtual 28, 3) := by decide +kernel
theorem dX4_livesAt_5 : decode cX4_livesAt 5 = .ok (.ifCond .eq 27, 3) := by decide +kernel
theorem dX4_livesAt_8 : decode cX4_livesAt 8 = .ok (.aload_n 0, 1) := by decide +kernel
theorem dX4_livesAt_9 : decode cX4_livesAt 9 = .ok (.getfield 18, 3) := by decide +kernel
theorem dX4_livesAt_12 : decode cX4_livesAt 12 = .ok (.iload_n 1, 1) := by decide +kernel
theorem dX4_livesAt_13 : decode cX4_livesAt 13 = .ok (.iaload, 1) := by decide +kernel
theorem dX4_livesAt_14 : decode cX4_livesAt 14 = .ok (.iload_n 2, 1) := by decide +kernel
theorem dX4_livesAt_15 : decode cX4_livesAt 15 = .ok (.if_icmp .gt 17, 3) := by decide +kernel
theorem dX4_livesAt_18 : decode cX4_livesAt 18 = .ok (.iload_n 2, 1) := by decide +kernel
theorem dX4_livesAt_19 : decode cX4_livesAt 19 = .ok (.aload_n 0, 1) := by decide +kernel
theorem dX4_livesAt_20 : decode cX4_livesAt 20 = .ok (.getfield 21, 3) := by decide +kernel
theorem dX4_livesAt_23 : decode cX4_livesAt 23 = .ok (.iload_n 1, 1) := by decide +kernel
theorem dX4_livesAt_24 : decode cX4_livesAt 24 = .ok (.iaload, 1) := by decide +kernel
theorem dX4_livesAt_25 : decode cX4_livesAt 25 = .ok (.if_icmp .ge 7, 3) := by decide +kernel
theorem dX4_livesAt_28 : decode cX4_livesAt 28 = .ok (.iconst 1, 1) := by decide +kernel
theorem dX4_livesAt_29 : decode cX4_livesAt 29 = .ok (.goto 4, 3) := by decide +kernel
theorem dX4_livesAt_32 : decode cX4_livesAt 32 = .ok (.iconst 0, 1) := by decide +kernel
theorem dX4_livesAt_33 : decode cX4_livesAt 33 = .ok (.ireturn, 1) := by decide +kernel
theorem dX4_livingAt_0 : decode cX4_livingAt 0 = .ok (.iconst 0, 1) := by decide +kernel
theorem dX4_livingAt_1 : decode cX4_livingAt 1 = .ok (.istore_n 2, 1) := by decide +kernel
theorem dX4_livingAt_2 : decode cX4_livingAt 2 = .ok (.iconst 0, 1) := by decide +kernel
theorem dX4_livingAt_3 : decode cX4_livingAt 3 = .ok (.istore_n 3, 1) := by decide +kernel
theorem dX4_livingAt_4 : decode cX4_livingAt 4 = .ok (.iload_n 3, 1) := by decide +kernel
theorem dX4_livingAt_5 : decode cX4_livingAt 5 = .ok (.aload_n 0, 1) := by decide +kernel
theorem dX4_livingAt_6 : decode cX4_livingAt 6 = .ok (.getfield 24, 3) := by decide +kernel
theorem dX4_livingAt_9 : decode cX4_livingAt 9 = .ok (.if_icmp .ge 21, 3) := by decide +kernel
theorem dX4_livingAt_12 : decode cX4_livingAt 12 = .ok (.aload_n 0, 1) := by decide +kernel
theorem dX4_livingAt_13 : decode cX4_livingAt 13 = .ok (.iload_n 3, 1) := by decide +kernel
theorem dX4_livingAt_14 : decode cX4_livingAt 14 = .ok (.iload_n 1, 1) := by decide +kernel
theorem dX4_livingAt_15 : decode cX4_livingAt 15 = .ok (.invokevirtual 32, 3) := by decide +kernel
theorem dX4_livingAt_18 : decode cX4_livingAt 18 = .ok (.ifCond .eq 6, 3) := by decide +kernel
theorem dX4_livingAt_21 : decode cX4_livingAt 21 = .ok (.iinc 2 1, 3) := by decide +kernel
theorem dX4_livingAt_24 : decode cX4_livingAt 24 = .ok (.iinc 3 1, 3) := by decide +kernel
theorem dX4_livingAt_27 : decode cX4_livingAt 27 = .ok (.goto (-23), 3) := by decide +kernel
theorem dX4_livingAt_30 : decode cX4_livingAt 30 = .ok (.iload_n 2, 1) := by decide +kernel
theorem dX4_livingAt_31 : decode cX4_livingAt 31 = .ok (.ireturn, 1) := by decide +kernel
theorem dX4_coversAll_0 : decode cX4_coversAll 0 = .ok (.aload_n 0, 1) := by decide +kernel
theorem dX4_coversAll_1 : decode cX4_coversAll 1 = .ok (.iload_n 1, 1) := by decide +kernel
theorem dX4_coversAll_2 : decode cX4_coversAll 2 = .ok (.invokevirtual 28, 3) := by decide +kernel
theorem dX4_coversAll_5 : decode cX4_coversAll 5 = .ok (.ifCond .eq 29, 3) := by decide +kernel
theorem dX4_coversAll_8 : decode cX4_coversAll 8 = .ok (.aload_n 0, 1) := by decide +kernel
theorem dX4_coversAll_9 : decode cX4_coversAll 9 = .ok (.getfield 18, 3) := by decide +kernel
theorem dX4_coversAll_12 : decode cX4_coversAll 12 = .ok (.iload_n 1, 1) := by decide +kernel
theorem dX4_coversAll_13 : decode cX4_coversAll 13 = .ok (.iaload, 1) := by decide +kernel
theorem dX4_coversAll_14 : decode cX4_coversAll 14 = .ok (.iload_n 2, 1) := by decide +kernel
theorem dX4_coversAll_15 : decode cX4_coversAll 15 = .ok (.if_icmp .gt 19, 3) := by decide +kernel
theorem dX4_coversAll_18 : decode cX4_coversAll 18 = .ok (.iload_n 2, 1) := by decide +kernel
theorem dX4_coversAll_19 : decode cX4_coversAll 19 = .ok (.iload_n 3, 1) := by decide +kernel
theorem dX4_coversAll_20 : decode cX4_coversAll 20 = .ok (.iadd, 1) := by decide +kernel
theorem dX4_coversAll_21 : decode cX4_coversAll 21 = .ok (.aload_n 0, 1) := by decide +kernel
theorem dX4_coversAll_22 : decode cX4_coversAll 22 = .ok (.getfield 21, 3) := by decide +kernel
theorem dX4_coversAll_25 : decode cX4_coversAll 25 = .ok (.iload_n 1, 1) := by decide +kernel
theorem dX4_coversAll_26 : decode cX4_coversAll 26 = .ok (.iaload, 1) := by decide +kernel
theorem dX4_coversAll_27 : decode cX4_coversAll 27 = .ok (.if_icmp .gt 7, 3) := by decide +kernel
theorem dX4_coversAll_30 : decode cX4_coversAll 30 = .ok (.iconst 1, 1) := by decide +kernel
theorem dX4_coversAll_31 : decode cX4_coversAll 31 = .ok (.goto 4, 3) := by decide +kernel
theorem dX4_coversAll_34 : decode cX4_coversAll 34 = .ok (.iconst 0, 1) := by decide +kernel
theorem dX4_coversAll_35 : decode cX4_coversAll 35 = .ok (.ireturn, 1) := by decide +kernel
theorem dX4_isLaidAt_0 : decode cX4_isLaidAt 0 = .ok (.aload_n 0, 1) := by decide +kernel
theorem dX4_isLaidAt_1 : decode cX4_isLaidAt 1 = .ok (.iload_n 1, 1) := by decide +kernel
theorem dX4_isLaidAt_2 : decode cX4_isLaidAt 2 = .ok (.iload_n 2, 1) := by decide +kernel
theorem dX4_isLaidAt_3 : decode cX4_isLaidAt 3 = .ok (.iload_n 3, 1) := by decide +kernel
theorem dX4_isLaidAt_4 : decode cX4_isLaidAt 4 = .ok (.invokestatic 36, 3) := by decide +kernel
theorem dX4_isLaidAt_7 : decode cX4_isLaidAt 7 = .ok (.invokevirtual 40, 3) := by decide +kernel
theorem dX4_isLaidAt_10 : decode cX4_isLaidAt 10 = .ok (.ifCond .ne 5, 3) := by decide +kernel
theorem dX4_isLaidAt_13 : decode cX4_isLaidAt 13 = .ok (.iconst 0, 1) := by decide +kernel
theorem dX4_isLaidAt_14 : decode cX4_isLaidAt 14 = .ok (.ireturn, 1) := by decide +kernel
theorem dX4_isLaidAt_15 : decode cX4_isLaidAt 15 = .ok (.iload_n 3, 1) := by decide +kernel
theorem dX4_isLaidAt_16 : decode cX4_isLaidAt 16 = .ok (.ifCond .eq 24, 3) := by decide +kernel
theorem dX4_isLaidAt_19 : decode cX4_isLaidAt 19 = .ok (.aload_n 0, 1) := by decide +kernel
theorem dX4_isLaidAt_20 : decode cX4_isLaidAt 20 = .ok (.iload_n 1, 1) := by decide +kernel
theorem dX4_isLaidAt_21 : decode cX4_isLaidAt 21 = .ok (.iload_n 2, 1) := by decide +kernel
theorem dX4_isLaidAt_22 : decode cX4_isLaidAt 22 = .ok (.iload_n 3, 1) := by decide +kernel
theorem dX4_isLaidAt_23 : decode cX4_isLaidAt 23 = .ok (.iconst 1, 1) := by decide +kernel
theorem dX4_isLaidAt_24 : decode cX4_isLaidAt 24 = .ok (.isub, 1) := by decide +kernel
theorem dX4_isLaidAt_25 : decode cX4_isLaidAt 25 = .ok (.invokestatic 44, 3) := by decide +kernel
theorem dX4_isLaidAt_28 : decode cX4_isLaidAt 28 = .ok (.iload_n 3, 1) := by decide +kernel
theorem dX4_isLaidAt_29 : decode cX4_isLaidAt 29 = .ok (.iconst 1, 1) := by decide +kernel
theorem dX4_isLaidAt_30 : decode cX4_isLaidAt 30 = .ok (.isub, 1) := by decide +kernel
theorem dX4_isLaidAt_31 : decode cX4_isLaidAt 31 = .ok (.invokestatic 36, 3) := by decide +kernel
theorem dX4_isLaidAt_34 : decode cX4_isLaidAt 34 = .ok (.invokevirtual 40, 3) := by decide +kernel
theorem dX4_isLaidAt_37 : decode cX4_isLaidAt 37 = .ok (.ifCond .ne 7, 3) := by decide +kernel
theorem dX4_isLaidAt_40 : decode cX4_isLaidAt 40 = .ok (.iconst 1, 1) := by decide +kernel
theorem dX4_isLaidAt_41 : decode cX4_isLaidAt 41 = .ok (.goto 4, 3) := by decide +kernel
theorem dX4_isLaidAt_44 : decode cX4_isLaidAt 44 = .ok (.iconst 0, 1) := by decide +kernel
theorem dX4_isLaidAt_45 : decode cX4_isLaidAt 45 = .ok (.ireturn, 1) := by decide +kernel
theorem dX4_spansOf_0 : decode cX4_spansOf 0 = .ok (.iconst 0, 1) := by decide +kernel
theorem dX4_spansOf_1 : decode cX4_spansOf 1 = .ok (.istore_n 2, 1) := by decide +kernel
theorem dX4_spansOf_2 : decode cX4_spansOf 2 = .ok (.iconst 0, 1) := by decide +kernel
theorem dX4_spansOf_3 : decode cX4_spansOf 3 = .ok (.istore_n 3, 1) := by decide +kernel
theorem dX4_spansOf_4 : decode cX4_spansOf 4 = .ok (.iload_n 3, 1) := by decide +kernel
theorem dX4_spansOf_5 : decode cX4_spansOf 5 = .ok (.bipush 64, 2) := by decide +kernel
theorem dX4_spansOf_7 : decode cX4_spansOf 7 = .ok (.if_icmp .ge 49, 3) := by decide +kernel
theorem dX4_spansOf_10 : decode cX4_spansOf 10 = .ok (.iconst 0, 1) := by decide +kernel
theorem dX4_spansOf_11 : decode cX4_spansOf 11 = .ok (.istore 4, 2) := by decide +kernel
theorem dX4_spansOf_13 : decode cX4_spansOf 13 = .ok (.iload 4, 2) := by decide +kernel
theorem dX4_spansOf_15 : decode cX4_spansOf 15 = .ok (.bipush 6, 2) := by decide +kernel
theorem dX4_spansOf_17 : decode cX4_spansOf 17 = .ok (.if_icmp .gt 33, 3) := by decide +kernel
theorem dX4_spansOf_20 : decode cX4_spansOf 20 = .ok (.iload_n 3, 1) := by decide +kernel
theorem dX4_spansOf_21 : decode cX4_spansOf 21 = .ok (.iload 4, 2) := by decide +kernel
theorem dX4_spansOf_23 : decode cX4_spansOf 23 = .ok (.invokestatic 44, 3) := by decide +kernel
theorem dX4_spansOf_26 : decode cX4_spansOf 26 = .ok (.iload_n 3, 1) := by decide +kernel
theorem dX4_spansOf_27 : decode cX4_spansOf 27 = .ok (.if_icmp .ne 17, 3) := by decide +kernel
theorem dX4_spansOf_30 : decode cX4_spansOf 30 = .ok (.aload_n 0, 1) := by decide +kernel
theorem dX4_spansOf_31 : decode cX4_spansOf 31 = .ok (.iload_n 1, 1) := by decide +kernel
theorem dX4_spansOf_32 : decode cX4_spansOf 32 = .ok (.iload_n 3, 1) := by decide +kernel
theorem dX4_spansOf_33 : decode cX4_spansOf 33 = .ok (.iload 4, 2) := by decide +kernel
theorem dX4_spansOf_35 : decode cX4_spansOf 35 = .ok (.invokevirtual 48, 3) := by decide +kernel
theorem dX4_spansOf_38 : decode cX4_spansOf 38 = .ok (.ifCond .eq 6, 3) := by decide +kernel
theorem dX4_spansOf_41 : decode cX4_spansOf 41 = .ok (.iinc 2 1, 3) := by decide +kernel
theorem dX4_spansOf_44 : decode cX4_spansOf 44 = .ok (.iinc 4 1, 3) := by decide +kernel
theorem dX4_spansOf_47 : decode cX4_spansOf 47 = .ok (.goto (-34), 3) := by decide +kernel
theorem dX4_spansOf_50 : decode cX4_spansOf 50 = .ok (.iinc 3 1, 3) := by decide +kernel
theorem dX4_spansOf_53 : decode cX4_spansOf 53 = .ok (.goto (-49), 3) := by decide +kernel
theorem dX4_spansOf_56 : decode cX4_spansOf 56 = .ok (.iload_n 2, 1) := by decide +kernel
theorem dX4_spansOf_57 : decode cX4_spansOf 57 = .ok (.ireturn, 1) := by decide +kernel
theorem dX4_empty_0 : decode cX4_empty 0 = .ok (.aload_n 0, 1) := by decide +kernel
theorem dX4_empty_1 : decode cX4_empty 1 = .ok (.iconst 0, 1) := by decide +kernel
theorem dX4_empty_2 : decode cX4_empty 2 = .ok (.putfield 24, 3) := by decide +kernel
theorem dX4_empty_5 : decode cX4_empty 5 = .ok (.return_, 1) := by decide +kernel
theorem dX4_add_0 : decode cX4_add 0 = .ok (.aload_n 0, 1) := by decide +kernel
theorem dX4_add_1 : decode cX4_add 1 = .ok (.invokevirtual 51, 3) := by decide +kernel
theorem dX4_add_4 : decode cX4_add 4 = .ok (.ifCond .le 54, 3) := by decide +kernel
theorem dX4_add_7 : decode cX4_add 7 = .ok (.aload_n 0, 1) := by decide +kernel
theorem dX4_add_8 : decode cX4_add 8 = .ok (.getfield 9, 3) := by decide +kernel
theorem dX4_add_11 : decode cX4_add 11 = .ok (.aload_n 0, 1) := by decide +kernel
theorem dX4_add_12 : decode cX4_add 12 = .ok (.getfield 24, 3) := by decide +kernel
theorem dX4_add_15 : decode cX4_add 15 = .ok (.iload_n 1, 1) := by decide +kernel
theorem dX4_add_16 : decode cX4_add 16 = .ok (.iastore, 1) := by decide +kernel
theorem dX4_add_17 : decode cX4_add 17 = .ok (.aload_n 0, 1) := by decide +kernel
theorem dX4_add_18 : decode cX4_add 18 = .ok (.getfield 15, 3) := by decide +kernel
theorem dX4_add_21 : decode cX4_add 21 = .ok (.aload_n 0, 1) := by decide +kernel
theorem dX4_add_22 : decode cX4_add 22 = .ok (.getfield 24, 3) := by decide +kernel
theorem dX4_add_25 : decode cX4_add 25 = .ok (.iload_n 2, 1) := by decide +kernel
theorem dX4_add_26 : decode cX4_add 26 = .ok (.iastore, 1) := by decide +kernel
theorem dX4_add_27 : decode cX4_add 27 = .ok (.aload_n 0, 1) := by decide +kernel
theorem dX4_add_28 : decode cX4_add 28 = .ok (.getfield 18, 3) := by decide +kernel
theorem dX4_add_31 : decode cX4_add 31 = .ok (.aload_n 0, 1) := by decide +kernel
theorem dX4_add_32 : decode cX4_add 32 = .ok (.getfield 24, 3) := by decide +kernel
theorem dX4_add_35 : decode cX4_add 35 = .ok (.iload_n 3, 1) := by decide +kernel
theorem dX4_add_36 : decode cX4_add 36 = .ok (.iastore, 1) := by decide +kernel
theorem dX4_add_37 : decode cX4_add 37 = .ok (.aload_n 0, 1) := by decide +kernel
theorem dX4_add_38 : decode cX4_add 38 = .ok (.getfield 21, 3) := by decide +kernel
theorem dX4_add_41 : decode cX4_add 41 = .ok (.aload_n 0, 1) := by decide +kernel
theorem dX4_add_42 : decode cX4_add 42 = .ok (.getfield 24, 3) := by decide +kernel
theorem dX4_add_45 : decode cX4_add 45 = .ok (.iload 4, 2) := by decide +kernel
theorem dX4_add_47 : decode cX4_add 47 = .ok (.iastore, 1) := by decide +kernel
theorem dX4_add_48 : decode cX4_add 48 = .ok (.aload_n 0, 1) := by decide +kernel
theorem dX4_add_49 : decode cX4_add 49 = .ok (.dup, 1) := by decide +kernel
theorem dX4_add_50 : decode cX4_add 50 = .ok (.getfield 24, 3) := by decide +kernel
theorem dX4_add_53 : decode cX4_add 53 = .ok (.iconst 1, 1) := by decide +kernel
theorem dX4_add_54 : decode cX4_add 54 = .ok (.iadd, 1) := by decide +kernel
theorem dX4_add_55 : decode cX4_add 55 = .ok (.putfield 24, 3) := by decide +kernel
theorem dX4_add_58 : decode cX4_add 58 = .ok (.return_, 1) := by decide +kernel
theorem dX4_addAll_0 : decode cX4_addAll 0 = .ok (.iconst 0, 1) := by decide +kernel
theorem dX4_addAll_1 : decode cX4_addAll 1 = .ok (.istore_n 2, 1) := by decide +kernel
theorem dX4_addAll_2 : decode cX4_addAll 2 = .ok (.iload_n 2, 1) := by decide +kernel
theorem dX4_addAll_3 : decode cX4_addAll 3 = .ok (.aload_n 1, 1) := by decide +kernel
theorem dX4_addAll_4 : decode cX4_addAll 4 = .ok (.getfield 24, 3) := by decide +kernel
theorem dX4_addAll_7 : decode cX4_addAll 7 = .ok (.if_icmp .ge 37, 3) := by decide +kernel
theorem dX4_addAll_10 : decode cX4_addAll 10 = .ok (.aload_n 0, 1) := by decide +kernel
theorem dX4_addAll_11 : decode cX4_addAll 11 = .ok (.aload_n 1, 1) := by decide +kernel
theorem dX4_addAll_12 : decode cX4_addAll 12 = .ok (.getfield 9, 3) := by decide +kernel
theorem dX4_addAll_15 : decode cX4_addAll 15 = .ok (.iload_n 2, 1) := by decide +kernel
theorem dX4_addAll_16 : decode cX4_addAll 16 = .ok (.iaload, 1) := by decide +kernel
theorem dX4_addAll_17 : decode cX4_addAll 17 = .ok (.aload_n 1, 1) := by decide +kernel
theorem dX4_addAll_18 : decode cX4_addAll 18 = .ok (.getfield 15, 3) := by decide +kernel
theorem dX4_addAll_21 : decode cX4_addAll 21 = .ok (.iload_n 2, 1) := by decide +kernel
theorem dX4_addAll_22 : decode cX4_addAll 22 = .ok (.iaload, 1) := by decide +kernel
theorem dX4_addAll_23 : decode cX4_addAll 23 = .ok (.aload_n 1, 1) := by decide +kernel
theorem dX4_addAll_24 : decode cX4_addAll 24 = .ok (.getfield 18, 3) := by decide +kernel
theorem dX4_addAll_27 : decode cX4_addAll 27 = .ok (.iload_n 2, 1) := by decide +kernel
theorem dX4_addAll_28 : decode cX4_addAll 28 = .ok (.iaload, 1) := by decide +kernel
theorem dX4_addAll_29 : decode cX4_addAll 29 = .ok (.aload_n 1, 1) := by decide +kernel
theorem dX4_addAll_30 : decode cX4_addAll 30 = .ok (.getfield 21, 3) := by decide +kernel
theorem dX4_addAll_33 : decode cX4_addAll 33 = .ok (.iload_n 2, 1) := by decide +kernel
theorem dX4_addAll_34 : decode cX4_addAll 34 = .ok (.iaload, 1) := by decide +kernel
theorem dX4_addAll_35 : decode cX4_addAll 35 = .ok (.invokevirtual 55, 3) := by decide +kernel
theorem dX4_addAll_38 : decode cX4_addAll 38 = .ok (.iinc 2 1, 3) := by decide +kernel
theorem dX4_addAll_41 : decode cX4_addAll 41 = .ok (.goto (-39), 3) := by decide +kernel
theorem dX4_addAll_44 : decode cX4_addAll 44 = .ok (.return_, 1) := by decide +kernel
theorem dX4_take_0 : decode cX4_take 0 = .ok (.aload_n 0, 1) := by decide +kernel
theorem dX4_take_1 : decode cX4_take 1 = .ok (.invokevirtual 59, 3) := by decide +kernel
theorem dX4_take_4 : decode cX4_take 4 = .ok (.aload_n 0, 1) := by decide +kernel
theorem dX4_take_5 : decode cX4_take 5 = .ok (.aload_n 1, 1) := by decide +kernel
theorem dX4_take_6 : decode cX4_take 6 = .ok (.invokevirtual 62, 3) := by decide +kernel
theorem dX4_take_9 : decode cX4_take 9 = .ok (.return_, 1) := by decide +kernel
theorem dX4_live_0 : decode cX4_live 0 = .ok (.aload_n 0, 1) := by decide +kernel
theorem dX4_live_1 : decode cX4_live 1 = .ok (.iload_n 1, 1) := by decide +kernel
theorem dX4_live_2 : decode cX4_live 2 = .ok (.invokevirtual 28, 3) := by decide +kernel
theorem dX4_live_5 : decode cX4_live 5 = .ok (.ifCond .eq 17, 3) := by decide +kernel
theorem dX4_live_8 : decode cX4_live 8 = .ok (.aload_n 0, 1) := by decide +kernel
theorem dX4_live_9 : decode cX4_live 9 = .ok (.getfield 18, 3) := by decide +kernel
theorem dX4_live_12 : decode cX4_live 12 = .ok (.iload_n 1, 1) := by decide +kernel
theorem dX4_live_13 : decode cX4_live 13 = .ok (.iload_n 2, 1) := by decide +kernel
theorem dX4_live_14 : decode cX4_live 14 = .ok (.iastore, 1) := by decide +kernel
theorem dX4_live_15 : decode cX4_live 15 = .ok (.aload_n 0, 1) := by decide +kernel
theorem dX4_live_16 : decode cX4_live 16 = .ok (.getfield 21, 3) := by decide +kernel
theorem dX4_live_19 : decode cX4_live 19 = .ok (.iload_n 1, 1) := by decide +kernel
theorem dX4_live_20 : decode cX4_live 20 = .ok (.iload_n 3, 1) := by decide +kernel
theorem dX4_live_21 : decode cX4_live 21 = .ok (.iastore, 1) := by decide +kernel
theorem dX4_live_22 : decode cX4_live 22 = .ok (.return_, 1) := by decide +kernel
theorem dX4_removeAt_0 : decode cX4_removeAt 0 = .ok (.aload_n 0, 1) := by decide +kernel
theorem dX4_removeAt_1 : decode cX4_removeAt 1 = .ok (.iload_n 1, 1) := by decide +kernel
theorem dX4_removeAt_2 : decode cX4_removeAt 2 = .ok (.invokevirtual 28, 3) := by decide +kernel
theorem dX4_removeAt_5 : decode cX4_removeAt 5 = .ok (.ifCond .ne 4, 3) := by decide +kernel
theorem dX4_removeAt_8 : decode cX4_removeAt 8 = .ok (.return_, 1) := by decide +kernel
theorem dX4_removeAt_9 : decode cX4_removeAt 9 = .ok (.iload_n 1, 1) := by decide +kernel
theorem dX4_removeAt_10 : decode cX4_removeAt 10 = .ok (.iconst 1, 1) := by decide +kernel
theorem dX4_removeAt_11 : decode cX4_removeAt 11 = .ok (.iadd, 1) := by decide +kernel
theorem dX4_removeAt_12 : decode cX4_removeAt 12 = .ok (.istore_n 2, 1) := by decide +kernel
theorem dX4_removeAt_13 : decode cX4_removeAt 13 = .ok (.iload_n 2, 1) := by decide +kernel
theorem dX4_removeAt_14 : decode cX4_removeAt 14 = .ok (.aload_n 0, 1) := by decide +kernel
theorem dX4_removeAt_15 : decode cX4_removeAt 15 = .ok (.getfield 24, 3) := by decide +kernel
theorem dX4_removeAt_18 : decode cX4_removeAt 18 = .ok (.if_icmp .ge 65, 3) := by decide +kernel
theorem dX4_removeAt_21 : decode cX4_removeAt 21 = .ok (.aload_n 0, 1) := by decide +kernel
theorem dX4_removeAt_22 : decode cX4_removeAt 22 = .ok (.getfield 9, 3) := by decide +kernel
theorem dX4_removeAt_25 : decode cX4_removeAt 25 = .ok (.iload_n 2, 1) := by decide +kernel
theorem dX4_removeAt_26 : decode cX4_removeAt 26 = .ok (.iconst 1, 1) := by decide +kernel
theorem dX4_removeAt_27 : decode cX4_removeAt 27 = .ok (.isub, 1) := by decide +kernel
theorem dX4_removeAt_28 : decode cX4_removeAt 28 = .ok (.aload_n 0, 1) := by decide +kernel
theorem dX4_removeAt_29 : decode cX4_removeAt 29 = .ok (.getfield 9, 3) := by decide +kernel
theorem dX4_removeAt_32 : decode cX4_removeAt 32 = .ok (.iload_n 2, 1) := by decide +kernel
theorem dX4_removeAt_33 : decode cX4_removeAt 33 = .ok (.iaload, 1) := by decide +kernel
theorem dX4_removeAt_34 : decode cX4_removeAt 34 = .ok (.iastore, 1) := by decide +kernel
theorem dX4_removeAt_35 : decode cX4_removeAt 35 = .ok (.aload_n 0, 1) := by decide +kernel
theorem dX4_removeAt_36 : decode cX4_removeAt 36 = .ok (.getfield 15, 3) := by decide +kernel
theorem dX4_removeAt_39 : decode cX4_removeAt 39 = .ok (.iload_n 2, 1) := by decide +kernel
theorem dX4_removeAt_40 : decode cX4_removeAt 40 = .ok (.iconst 1, 1) := by decide +kernel
theorem dX4_removeAt_41 : decode cX4_removeAt 41 = .ok (.isub, 1) := by decide +kernel
theorem dX4_removeAt_42 : decode cX4_removeAt 42 = .ok (.aload_n 0, 1) := by decide +kernel
theorem dX4_removeAt_43 : decode cX4_removeAt 43 = .ok (.getfield 15, 3) := by decide +kernel
theorem dX4_removeAt_46 : decode cX4_removeAt 46 = .ok (.iload_n 2, 1) := by decide +kernel
theorem dX4_removeAt_47 : decode cX4_removeAt 47 = .ok (.iaload, 1) := by decide +kernel
theorem dX4_removeAt_48 : decode cX4_removeAt 48 = .ok (.iastore, 1) := by decide +kernel
theorem dX4_removeAt_49 : decode cX4_removeAt 49 = .ok (.aload_n 0, 1) := by decide +kernel
theorem dX4_removeAt_50 : decode cX4_removeAt 50 = .ok (.getfield 18, 3) := by decide +kernel
theorem dX4_removeAt_53 : decode cX4_removeAt 53 = .ok (.iload_n 2, 1) := by decide +kernel
theorem dX4_removeAt_54 : decode cX4_removeAt 54 = .ok (.iconst 1, 1) := by decide +kernel
theorem dX4_removeAt_55 : decode cX4_removeAt 55 = .ok (.isub, 1) := by decide +kernel
theorem dX4_removeAt_56 : decode cX4_removeAt 56 = .ok (.aload_n 0, 1) := by decide +kernel
theorem dX4_removeAt_57 : decode cX4_removeAt 57 = .ok (.getfield 18, 3) := by decide +kernel
theorem dX4_removeAt_60 : decode cX4_removeAt 60 = .ok (.iload_n 2, 1) := by decide +kernel
theorem dX4_removeAt_61 : decode cX4_removeAt 61 = .ok (.iaload, 1) := by decide +kernel
theorem dX4_removeAt_62 : decode cX4_removeAt 62 = .ok (.iastore, 1) := by decide +kernel
theorem dX4_removeAt_63 : decode cX4_removeAt 63 = .ok (.aload_n 0, 1) := by decide +kernel
theorem dX4_removeAt_64 : decode cX4_removeAt 64 = .ok (.getfield 21, 3) := by decide +kernel
theorem dX4_removeAt_67 : decode cX4_removeAt 67 = .ok (.iload_n 2, 1) := by decide +kernel
theorem dX4_removeAt_68 : decode cX4_removeAt 68 = .ok (.iconst 1, 1) := by decide +kernel
theorem dX4_removeAt_69 : decode cX4_removeAt 69 = .ok (.isub, 1) := by decide +kernel
theorem dX4_removeAt_70 : decode cX4_removeAt 70 = .ok (.aload_n 0, 1) := by decide +kernel
theorem dX4_removeAt_71 : decode cX4_removeAt 71 = .ok (.getfield 21, 3) := by decide +kernel
theorem dX4_removeAt_74 : decode cX4_removeAt 74 = .ok (.iload_n 2, 1) := by decide +kernel
theorem dX4_removeAt_75 : decode cX4_removeAt 75 = .ok (.iaload, 1) := by decide +kernel
theorem dX4_removeAt_76 : decode cX4_removeAt 76 = .ok (.iastore, 1) := by decide +kernel
theorem dX4_removeAt_77 : decode cX4_removeAt 77 = .ok (.iinc 2 1, 3) := by decide +kernel
theorem dX4_removeAt_80 : decode cX4_removeAt 80 = .ok (.goto (-67), 3) := by decide +kernel
theorem dX4_removeAt_83 : decode cX4_removeAt 83 = .ok (.aload_n 0, 1) := by decide +kernel
theorem dX4_removeAt_84 : decode cX4_removeAt 84 = .ok (.dup, 1) := by decide +kernel
theorem dX4_removeAt_85 : decode cX4_removeAt 85 = .ok (.getfield 24, 3) := by decide +kernel
theorem dX4_removeAt_88 : decode cX4_removeAt 88 = .ok (.iconst 1, 1) := by decide +kernel
theorem dX4_removeAt_89 : decode cX4_removeAt 89 = .ok (.isub, 1) := by decide +kernel
theorem dX4_removeAt_90 : decode cX4_removeAt 90 = .ok (.putfield 24, 3) := by decide +kernel
theorem dX4_removeAt_93 : decode cX4_removeAt 93 = .ok (.return_, 1) := by decide +kernel
theorem dX4_removeLivingAt_0 : decode cX4_removeLivingAt 0 = .ok (.aload_n 0, 1) := by decide +kernel
theorem dX4_removeLivingAt_1 : decode cX4_removeLivingAt 1 = .ok (.getfield 24, 3) := by decide +kernel
theorem dX4_removeLivingAt_4 : decode cX4_removeLivingAt 4 = .ok (.iconst 1, 1) := by decide +kernel
theorem dX4_removeLivingAt_5 : decode cX4_removeLivingAt 5 = .ok (.isub, 1) := by decide +kernel
theorem dX4_removeLivingAt_6 : decode cX4_removeLivingAt 6 = .ok (.istore_n 2, 1) := by decide +kernel
theorem dX4_removeLivingAt_7 : decode cX4_removeLivingAt 7 = .ok (.iload_n 2, 1) := by decide +kernel
theorem dX4_removeLivingAt_8 : decode cX4_removeLivingAt 8 = .ok (.ifCond .lt 23, 3) := by decide +kernel
theorem dX4_removeLivingAt_11 : decode cX4_removeLivingAt 11 = .ok (.aload_n 0, 1) := by decide +kernel
theorem dX4_removeLivingAt_12 : decode cX4_removeLivingAt 12 = .ok (.iload_n 2, 1) := by decide +kernel
theorem dX4_removeLivingAt_13 : decode cX4_removeLivingAt 13 = .ok (.iload_n 1, 1) := by decide +kernel
theorem dX4_removeLivingAt_14 : decode cX4_removeLivingAt 14 = .ok (.invokevirtual 32, 3) := by decide +kernel
theorem dX4_removeLivingAt_17 : decode cX4_removeLivingAt 17 = .ok (.ifCond .eq 8, 3) := by decide +kernel
theorem dX4_removeLivingAt_20 : decode cX4_removeLivingAt 20 = .ok (.aload_n 0, 1) := by decide +kernel
theorem dX4_removeLivingAt_21 : decode cX4_removeLivingAt 21 = .ok (.iload_n 2, 1) := by decide +kernel
theorem dX4_removeLivingAt_22 : decode cX4_removeLivingAt 22 = .ok (.invokevirtual 66, 3) := by decide +kernel
theorem dX4_removeLivingAt_25 : decode cX4_removeLivingAt 25 = .ok (.iinc 2 (-1), 3) := by decide +kernel
theorem dX4_removeLivingAt_28 : decode cX4_removeLivingAt 28 = .ok (.goto (-21), 3) := by decide +kernel
theorem dX4_removeLivingAt_31 : decode cX4_removeLivingAt 31 = .ok (.return_, 1) := by decide +kernel
theorem dX5_init_0 : decode cX5_init 0 = .ok (.aload_n 0, 1) := by decide +kernel
theorem dX5_init_1 : decode cX5_init 1 = .ok (.invokespecial 3, 3) := by decide +kernel
theorem dX5_init_4 : decode cX5_init 4 = .ok (.aload_n 0, 1) := by decide +kernel
theorem dX5_init_5 : decode cX5_init 5 = .ok (.new 9, 3) := by decide +kernel
theorem dX5_init_8 : decode cX5_init 8 = .ok (.dup, 1) := by decide +kernel
theorem dX5_init_9 : decode cX5_init 9 = .ok (.bipush 16, 2) := by decide +kernel
theorem dX5_init_11 : decode cX5_init 11 = .ok (.invokespecial 11, 3) := by decide +kernel
theorem dX5_init_14 : decode cX5_init 14 = .ok (.putfield 14, 3) := by decide +kernel
theorem dX5_init_17 : decode cX5_init 17 = .ok (.aload_n 0, 1) := by decide +kernel
theorem dX5_init_18 : decode cX5_init 18 = .ok (.new 9, 3) := by decide +kernel
theorem dX5_init_21 : decode cX5_init 21 = .ok (.dup, 1) := by decide +kernel
theorem dX5_init_22 : decode cX5_init 22 = .ok (.bipush 32, 2) := by decide +kernel
theorem dX5_init_24 : decode cX5_init 24 = .ok (.invokespecial 11, 3) := by decide +kernel
theorem dX5_init_27 : decode cX5_init 27 = .ok (.putfield 20, 3) := by decide +kernel
theorem dX5_init_30 : decode cX5_init 30 = .ok (.return_, 1) := by decide +kernel
theorem dX5_joinWithout_0 : decode cX5_joinWithout 0 = .ok (.aload_n 0, 1) := by decide +kernel
theorem dX5_joinWithout_1 : decode cX5_joinWithout 1 = .ok (.getfield 14, 3) := by decide +kernel
theorem dX5_joinWithout_4 : decode cX5_joinWithout 4 = .ok (.iconst 0, 1) := by decide +kernel
theorem dX5_joinWithout_5 : decode cX5_joinWithout 5 = .ok (.invokevirtual 23, 3) := by decide +kernel
theorem dX5_joinWithout_8 : decode cX5_joinWithout 8 = .ok (.iconst 0, 1) := by decide +kernel
theorem dX5_joinWithout_9 : decode cX5_joinWithout 9 = .ok (.istore 4, 2) := by decide +kernel
theorem dX5_joinWithout_11 : decode cX5_joinWithout 11 = .ok (.iload 4, 2) := by decide +kernel
theorem dX5_joinWithout_13 : decode cX5_joinWithout 13 = .ok (.aload_n 1, 1) := by decide +kernel
theorem dX5_joinWithout_14 : decode cX5_joinWithout 14 = .ok (.invokevirtual 26, 3) := by decide +kernel
theorem dX5_joinWithout_17 : decode cX5_joinWithout 17 = .ok (.if_icmp .ge 44, 3) := by decide +kernel
theorem dX5_joinWithout_20 : decode cX5_joinWithout 20 = .ok (.iload 4, 2) := by decide +kernel
theorem dX5_joinWithout_22 : decode cX5_joinWithout 22 = .ok (.iload_n 2, 1) := by decide +kernel
theorem dX5_joinWithout_23 : decode cX5_joinWithout 23 = .ok (.if_icmp .eq 32, 3) := by decide +kernel
theorem dX5_joinWithout_26 : decode cX5_joinWithout 26 = .ok (.aload_n 1, 1) := by decide +kernel
theorem dX5_joinWithout_27 : decode cX5_joinWithout 27 = .ok (.iload 4, 2) := by decide +kernel
theorem dX5_joinWithout_29 : decode cX5_joinWithout 29 = .ok (.iload_n 3, 1) := by decide +kernel
theorem dX5_joinWithout_30 : decode cX5_joinWithout 30 = .ok (.invokevirtual 32, 3) := by decide +kernel
theorem dX5_joinWithout_33 : decode cX5_joinWithout 33 = .ok (.ifCond .eq 22, 3) := by decide +kernel
theorem dX5_joinWithout_36 : decode cX5_joinWithout 36 = .ok (.aload_n 0, 1) := by decide +kernel
theorem dX5_joinWithout_37 : decode cX5_joinWithout 37 = .ok (.getfield 14, 3) := by decide +kernel
theorem dX5_joinWithout_40 : decode cX5_joinWithout 40 = .ok (.aload_n 1, 1) := by decide +kernel
theorem dX5_joinWithout_41 : decode cX5_joinWithout 41 = .ok (.iload 4, 2) := by decide +kernel
theorem dX5_joinWithout_43 : decode cX5_joinWithout 43 = .ok (.invokevirtual 36, 3) := by decide +kernel
theorem dX5_joinWithout_46 : decode cX5_joinWithout 46 = .ok (.aload_n 1, 1) := by decide +kernel
theorem dX5_joinWithout_47 : decode cX5_joinWithout 47 = .ok (.iload 4, 2) := by decide +kernel
theorem dX5_joinWithout_49 : decode cX5_joinWithout 49 = .ok (.invokevirtual 40, 3) := by decide +kernel
theorem dX5_joinWithout_52 : decode cX5_joinWithout 52 = .ok (.invokevirtual 43, 3) := by decide +kernel
theorem dX5_joinWithout_55 : decode cX5_joinWithout 55 = .ok (.iinc 4 1, 3) := by decide +kernel
theorem dX5_joinWithout_58 : decode cX5_joinWithout 58 = .ok (.goto (-47), 3) := by decide +kernel
theorem dX5_joinWithout_61 : decode cX5_joinWithout 61 = .ok (.return_, 1) := by decide +kernel
theorem dX5_areJoinedAt_0 : decode cX5_areJoinedAt 0 = .ok (.aload_n 0, 1) := by decide +kernel
theorem dX5_areJoinedAt_1 : decode cX5_areJoinedAt 1 = .ok (.aload_n 1, 1) := by decide +kernel
theorem dX5_areJoinedAt_2 : decode cX5_areJoinedAt 2 = .ok (.iconst (-1), 1) := by decide +kernel
theorem dX5_areJoinedAt_3 : decode cX5_areJoinedAt 3 = .ok (.iload_n 2, 1) := by decide +kernel
theorem dX5_areJoinedAt_4 : decode cX5_areJoinedAt 4 = .ok (.invokevirtual 47, 3) := by decide +kernel
theorem dX5_areJoinedAt_7 : decode cX5_areJoinedAt 7 = .ok (.aload_n 0, 1) := by decide +kernel
theorem dX5_areJoinedAt_8 : decode cX5_areJoinedAt 8 = .ok (.getfield 14, 3) := by decide +kernel
theorem dX5_areJoinedAt_11 : decode cX5_areJoinedAt 11 = .ok (.iload_n 3, 1) := by decide +kernel
theorem dX5_areJoinedAt_12 : decode cX5_areJoinedAt 12 = .ok (.iload 4, 2) := by decide +kernel
theorem dX5_areJoinedAt_14 : decode cX5_areJoinedAt 14 = .ok (.invokevirtual 51, 3) := by decide +kernel
theorem dX5_areJoinedAt_17 : decode cX5_areJoinedAt 17 = .ok (.ireturn, 1) := by decide +kernel
theorem dX5_partsAt_0 : decode cX5_partsAt 0 = .ok (.aload_n 0, 1) := by decide +kernel
theorem dX5_partsAt_1 : decode cX5_partsAt 1 = .ok (.aload_n 1, 1) := by decide +kernel
theorem dX5_partsAt_2 : decode cX5_partsAt 2 = .ok (.iconst (-1), 1) := by decide +kernel
theorem dX5_partsAt_3 : decode cX5_partsAt 3 = .ok (.iload_n 2, 1) := by decide +kernel
theorem dX5_partsAt_4 : decode cX5_partsAt 4 = .ok (.invokevirtual 47, 3) := by decide +kernel
theorem dX5_partsAt_7 : decode cX5_partsAt 7 = .ok (.bipush 16, 2) := by decide +kernel
theorem dX5_partsAt_9 : decode cX5_partsAt 9 = .ok (.aload_n 0, 1) := by decide +kernel
theorem dX5_partsAt_10 : decode cX5_partsAt 10 = .ok (.getfield 14, 3) := by decide +kernel
theorem dX5_partsAt_13 : decode cX5_partsAt 13 = .ok (.invokevirtual 54, 3) := by decide +kernel
theorem dX5_partsAt_16 : decode cX5_partsAt 16 = .ok (.isub, 1) := by decide +kernel
theorem dX5_partsAt_17 : decode cX5_partsAt 17 = .ok (.ireturn, 1) := by decide +kernel
theorem dX5_lowestOfPartAt_0 : decode cX5_lowestOfPartAt 0 = .ok (.aload_n 0, 1) := by decide +kernel
theorem dX5_lowestOfPartAt_1 : decode cX5_lowestOfPartAt 1 = .ok (.aload_n 1, 1) := by decide +kernel
theorem dX5_lowestOfPartAt_2 : decode cX5_lowestOfPartAt 2 = .ok (.iconst (-1), 1) := by decide +kernel
theorem dX5_lowestOfPartAt_3 : decode cX5_lowestOfPartAt 3 = .ok (.iload_n 2, 1) := by decide +kernel
theorem dX5_lowestOfPartAt_4 : decode cX5_lowestOfPartAt 4 = .ok (.invokevirtual 47, 3) := by decide +kernel
theorem dX5_lowestOfPartAt_7 : decode cX5_lowestOfPartAt 7 = .ok (.iconst 0, 1) := by decide +kernel
theorem dX5_lowestOfPartAt_8 : decode cX5_lowestOfPartAt 8 = .ok (.istore 4, 2) := by decide +kernel
theorem dX5_lowestOfPartAt_10 : decode cX5_lowestOfPartAt 10 = .ok (.iload 4, 2) := by decide +kernel
theorem dX5_lowestOfPartAt_12 : decode cX5_lowestOfPartAt 12 = .ok (.iload_n 3, 1) := by decide +kernel
theorem dX5_lowestOfPartAt_13 : decode cX5_lowestOfPartAt 13 = .ok (.if_icmp .ge 25, 3) := by decide +kernel
theorem dX5_lowestOfPartAt_16 : decode cX5_lowestOfPartAt 16 = .ok (.aload_n 0, 1) := by decide +kernel
theorem dX5_lowestOfPartAt_17 : decode cX5_lowestOfPartAt 17 = .ok (.getfield 14, 3) := by decide +kernel
theorem dX5_lowestOfPartAt_20 : decode cX5_lowestOfPartAt 20 = .ok (.iload_n 3, 1) := by decide +kernel
theorem dX5_lowestOfPartAt_21 : decode cX5_lowestOfPartAt 21 = .ok (.iload 4, 2) := by decide +kernel
theorem dX5_lowestOfPartAt_23 : decode cX5_lowestOfPartAt 23 = .ok (.invokevirtual 51, 3) := by decide +kernel
theorem dX5_lowestOfPartAt_26 : decode cX5_lowestOfPartAt 26 = .ok (.ifCond .eq 6, 3) := by decide +kernel
theorem dX5_lowestOfPartAt_29 : decode cX5_lowestOfPartAt 29 = .ok (.iload 4, 2) := by decide +kernel
theorem dX5_lowestOfPartAt_31 : decode cX5_lowestOfPartAt 31 = .ok (.ireturn, 1) := by decide +kernel
theorem dX5_lowestOfPartAt_32 : decode cX5_lowestOfPartAt 32 = .ok (.iinc 4 1, 3) := by decide +kernel
theorem dX5_lowestOfPartAt_35 : decode cX5_lowestOfPartAt 35 = .ok (.goto (-25), 3) := by decide +kernel
theorem dX5_lowestOfPartAt_38 : decode cX5_lowestOfPartAt 38 = .ok (.iload_n 3, 1) := by decide +kernel
theorem dX5_lowestOfPartAt_39 : decode cX5_lowestOfPartAt 39 = .ok (.ireturn, 1) := by decide +kernel
theorem dX5_partSizeAt_0 : decode cX5_partSizeAt 0 = .ok (.aload_n 0, 1) := by decide +kernel
theorem dX5_partSizeAt_1 : decode cX5_partSizeAt 1 = .ok (.aload_n 1, 1) := by decide +kernel
theorem dX5_partSizeAt_2 : decode cX5_partSizeAt 2 = .ok (.iconst (-1), 1) := by decide +kernel
theorem dX5_partSizeAt_3 : decode cX5_partSizeAt 3 = .ok (.iload_n 2, 1) := by decide +kernel
theorem dX5_partSizeAt_4 : decode cX5_partSizeAt 4 = .ok (.invokevirtual 47, 3) := by decide +kernel
theorem dX5_partSizeAt_7 : decode cX5_partSizeAt 7 = .ok (.aload_n 0, 1) := by decide +kernel
theorem dX5_partSizeAt_8 : decode cX5_partSizeAt 8 = .ok (.getfield 14, 3) := by decide +kernel
theorem dX5_partSizeAt_11 : decode cX5_partSizeAt 11 = .ok (.iload_n 3, 1) := by decide +kernel
theorem dX5_partSizeAt_12 : decode cX5_partSizeAt 12 = .ok (.invokevirtual 57, 3) := by decide +kernel
theorem dX5_partSizeAt_15 : decode cX5_partSizeAt 15 = .ok (.ireturn, 1) := by decide +kernel
theorem dX5_partBitsAt_0 : decode cX5_partBitsAt 0 = .ok (.aload_n 0, 1) := by decide +kernel
theorem dX5_partBitsAt_1 : decode cX5_partBitsAt 1 = .ok (.aload_n 1, 1) := by decide +kernel
theorem dX5_partBitsAt_2 : decode cX5_partBitsAt 2 = .ok (.iconst (-1), 1) := by decide +kernel
theorem dX5_partBitsAt_3 : decode cX5_partBitsAt 3 = .ok (.iload_n 2, 1) := by decide +kernel
theorem dX5_partBitsAt_4 : decode cX5_partBitsAt 4 = .ok (.invokevirtual 47, 3) := by decide +kernel
theorem dX5_partBitsAt_7 : decode cX5_partBitsAt 7 = .ok (.iconst 0, 1) := by decide +kernel
theorem dX5_partBitsAt_8 : decode cX5_partBitsAt 8 = .ok (.istore 4, 2) := by decide +kernel
theorem dX5_partBitsAt_10 : decode cX5_partBitsAt 10 = .ok (.iconst 0, 1) := by decide +kernel
theorem dX5_partBitsAt_11 : decode cX5_partBitsAt 11 = .ok (.istore 5, 2) := by decide +kernel
theorem dX5_partBitsAt_13 : decode cX5_partBitsAt 13 = .ok (.iload 5, 2) := by decide +kernel
theorem dX5_partBitsAt_15 : decode cX5_partBitsAt 15 = .ok (.bipush 16, 2) := by decide +kernel
theorem dX5_partBitsAt_17 : decode cX5_partBitsAt 17 = .ok (.if_icmp .ge 31, 3) := by decide +kernel
theorem dX5_partBitsAt_20 : decode cX5_partBitsAt 20 = .ok (.aload_n 0, 1) := by decide +kernel
theorem dX5_partBitsAt_21 : decode cX5_partBitsAt 21 = .ok (.getfield 14, 3) := by decide +kernel
theorem dX5_partBitsAt_24 : decode cX5_partBitsAt 24 = .ok (.iload_n 3, 1) := by decide +kernel
theorem dX5_partBitsAt_25 : decode cX5_partBitsAt 25 = .ok (.iload 5, 2) := by decide +kernel
theorem dX5_partBitsAt_27 : decode cX5_partBitsAt 27 = .ok (.invokevirtual 51, 3) := by decide +kernel
theorem dX5_partBitsAt_30 : decode cX5_partBitsAt 30 = .ok (.ifCond .eq 12, 3) := by decide +kernel
theorem dX5_partBitsAt_33 : decode cX5_partBitsAt 33 = .ok (.iload 4, 2) := by decide +kernel
theorem dX5_partBitsAt_35 : decode cX5_partBitsAt 35 = .ok (.iconst 1, 1) := by decide +kernel
theorem dX5_partBitsAt_36 : decode cX5_partBitsAt 36 = .ok (.iload 5, 2) := by decide +kernel
theorem dX5_partBitsAt_38 : decode cX5_partBitsAt 38 = .ok (.ishl, 1) := by decide +kernel
theorem dX5_partBitsAt_39 : decode cX5_partBitsAt 39 = .ok (.ior, 1) := by decide +kernel
theorem dX5_partBitsAt_40 : decode cX5_partBitsAt 40 = .ok (.istore 4, 2) := by decide +kernel
theorem dX5_partBitsAt_42 : decode cX5_partBitsAt 42 = .ok (.iinc 5 1, 3) := by decide +kernel
theorem dX5_partBitsAt_45 : decode cX5_partBitsAt 45 = .ok (.goto (-32), 3) := by decide +kernel
theorem dX5_partBitsAt_48 : decode cX5_partBitsAt 48 = .ok (.iload 4, 2) := by decide +kernel
theorem dX5_partBitsAt_50 : decode cX5_partBitsAt 50 = .ok (.ireturn, 1) := by decide +kernel
theorem dX5_greatestPartAt_0 : decode cX5_greatestPartAt 0 = .ok (.aload_n 0, 1) := by decide +kernel
theorem dX5_greatestPartAt_1 : decode cX5_greatestPartAt 1 = .ok (.aload_n 1, 1) := by decide +kernel
theorem dX5_greatestPartAt_2 : decode cX5_greatestPartAt 2 = .ok (.iconst (-1), 1) := by decide +kernel
theorem dX5_greatestPartAt_3 : decode cX5_greatestPartAt 3 = .ok (.iload_n 2, 1) := by decide +kernel
theorem dX5_greatestPartAt_4 : decode cX5_greatestPartAt 4 = .ok (.invokevirtual 47, 3) := by decide +kernel
theorem dX5_greatestPartAt_7 : decode cX5_greatestPartAt 7 = .ok (.iconst 0, 1) := by decide +kernel
theorem dX5_greatestPartAt_8 : decode cX5_greatestPartAt 8 = .ok (.istore_n 3, 1) := by decide +kernel
theorem dX5_greatestPartAt_9 : decode cX5_greatestPartAt 9 = .ok (.iconst 0, 1) := by decide +kernel
theorem dX5_greatestPartAt_10 : decode cX5_greatestPartAt 10 = .ok (.istore 4, 2) := by decide +kernel
theorem dX5_greatestPartAt_12 : decode cX5_greatestPartAt 12 = .ok (.iload 4, 2) := by decide +kernel
theorem dX5_greatestPartAt_14 : decode cX5_greatestPartAt 14 = .ok (.bipush 16, 2) := by decide +kernel
theorem dX5_greatestPartAt_16 : decode cX5_greatestPartAt 16 = .ok (.if_icmp .ge 23, 3) := by decide +kernel
theorem dX5_greatestPartAt_19 : decode cX5_greatestPartAt 19 = .ok (.iload_n 3, 1) := by decide +kernel
theorem dX5_greatestPartAt_20 : decode cX5_greatestPartAt 20 = .ok (.aload_n 0, 1) := by decide +kernel
theorem dX5_greatestPartAt_21 : decode cX5_greatestPartAt 21 = .ok (.getfield 14, 3) := by decide +kernel
theorem dX5_greatestPartAt_24 : decode cX5_greatestPartAt 24 = .ok (.iload 4, 2) := by decide +kernel
theorem dX5_greatestPartAt_26 : decode cX5_greatestPartAt 26 = .ok (.invokevirtual 57, 3) := by decide +kernel
theorem dX5_greatestPartAt_29 : decode cX5_greatestPartAt 29 = .ok (.invokestatic 60, 3) := by decide +kernel
theorem dX5_greatestPartAt_32 : decode cX5_greatestPartAt 32 = .ok (.istore_n 3, 1) := by decide +kernel
theorem dX5_greatestPartAt_33 : decode cX5_greatestPartAt 33 = .ok (.iinc 4 1, 3) := by decide +kernel
theorem dX5_greatestPartAt_36 : decode cX5_greatestPartAt 36 = .ok (.goto (-24), 3) := by decide +kernel
theorem dX5_greatestPartAt_39 : decode cX5_greatestPartAt 39 = .ok (.iload_n 3, 1) := by decide +kernel
theorem dX5_greatestPartAt_40 : decode cX5_greatestPartAt 40 = .ok (.ireturn, 1) := by decide +kernel
theorem dX5_linklessPointsAt_0 : decode cX5_linklessPointsAt 0 = .ok (.aload_n 0, 1) := by decide +kernel
theorem dX5_linklessPointsAt_1 : decode cX5_linklessPointsAt 1 = .ok (.aload_n 1, 1) := by decide +kernel
theorem dX5_linklessPointsAt_2 : decode cX5_linklessPointsAt 2 = .ok (.iconst (-1), 1) := by decide +kernel
theorem dX5_linklessPointsAt_3 : decode cX5_linklessPointsAt 3 = .ok (.iload_n 2, 1) := by decide +kernel
theorem dX5_linklessPointsAt_4 : decode cX5_linklessPointsAt 4 = .ok (.invokevirtual 47, 3) := by decide +kernel
theorem dX5_linklessPointsAt_7 : decode cX5_linklessPointsAt 7 = .ok (.iconst 0, 1) := by decide +kernel
theorem dX5_linklessPointsAt_8 : decode cX5_linklessPointsAt 8 = .ok (.istore_n 3, 1) := by decide +kernel
theorem dX5_linklessPointsAt_9 : decode cX5_linklessPointsAt 9 = .ok (.iconst 0, 1) := by decide +kernel
theorem dX5_linklessPointsAt_10 : decode cX5_linklessPointsAt 10 = .ok (.istore 4, 2) := by decide +kernel
theorem dX5_linklessPointsAt_12 : decode cX5_linklessPointsAt 12 = .ok (.iload 4, 2) := by decide +kernel
theorem dX5_linklessPointsAt_14 : decode cX5_linklessPointsAt 14 = .ok (.bipush 16, 2) := by decide +kernel
theorem dX5_linklessPointsAt_16 : decode cX5_linklessPointsAt 16 = .ok (.if_icmp .ge 25, 3) := by decide +kernel
theorem dX5_linklessPointsAt_19 : decode cX5_linklessPointsAt 19 = .ok (.aload_n 0, 1) := by decide +kernel
theorem dX5_linklessPointsAt_20 : decode cX5_linklessPointsAt 20 = .ok (.getfield 14, 3) := by decide +kernel
theorem dX5_linklessPointsAt_23 : decode cX5_linklessPointsAt 23 = .ok (.iload 4, 2) := by decide +kernel
theorem dX5_linklessPointsAt_25 : decode cX5_linklessPointsAt 25 = .ok (.invokevirtual 57, 3) := by decide +kernel
theorem dX5_linklessPointsAt_28 : decode cX5_linklessPointsAt 28 = .ok (.iconst 1, 1) := by decide +kernel
theorem dX5_linklessPointsAt_29 : decode cX5_linklessPointsAt 29 = .ok (.if_icmp .ne 6, 3) := by decide +kernel
theorem dX5_linklessPointsAt_32 : decode cX5_linklessPointsAt 32 = .ok (.iinc 3 1, 3) := by decide +kernel
theorem dX5_linklessPointsAt_35 : decode cX5_linklessPointsAt 35 = .ok (.iinc 4 1, 3) := by decide +kernel
theorem dX5_linklessPointsAt_38 : decode cX5_linklessPointsAt 38 = .ok (.goto (-26), 3) := by decide +kernel
theorem dX5_linklessPointsAt_41 : decode cX5_linklessPointsAt 41 = .ok (.iload_n 3, 1) := by decide +kernel
theorem dX5_linklessPointsAt_42 : decode cX5_linklessPointsAt 42 = .ok (.ireturn, 1) := by decide +kernel
theorem dX5_isNeededAt_0 : decode cX5_isNeededAt 0 = .ok (.aload_n 1, 1) := by decide +kernel
theorem dX5_isNeededAt_1 : decode cX5_isNeededAt 1 = .ok (.iload_n 2, 1) := by decide +kernel
theorem dX5_isNeededAt_2 : decode cX5_isNeededAt 2 = .ok (.iload_n 3, 1) := by decide +kernel
theorem dX5_isNeededAt_3 : decode cX5_isNeededAt 3 = .ok (.invokevirtual 32, 3) := by decide +kernel
theorem dX5_isNeededAt_6 : decode cX5_isNeededAt 6 = .ok (.ifCond .ne 5, 3) := by decide +kernel
theorem dX5_isNeededAt_9 : decode cX5_isNeededAt 9 = .ok (.iconst 0, 1) := by decide +kernel
theorem dX5_isNeededAt_10 : decode cX5_isNeededAt 10 = .ok (.ireturn, 1) := by decide +kernel
theorem dX5_isNeededAt_11 : decode cX5_isNeededAt 11 = .ok (.aload_n 0, 1) := by decide +kernel
theorem dX5_isNeededAt_12 : decode cX5_isNeededAt 12 = .ok (.aload_n 1, 1) := by decide +kernel
theorem dX5_isNeededAt_13 : decode cX5_isNeededAt 13 = .ok (.iload_n 2, 1) := by decide +kernel
theorem dX5_isNeededAt_14 : decode cX5_isNeededAt 14 = .ok (.iload_n 3, 1) := by decide +kernel
theorem dX5_isNeededAt_15 : decode cX5_isNeededAt 15 = .ok (.invokevirtual 47, 3) := by decide +kernel
theorem dX5_isNeededAt_18 : decode cX5_isNeededAt 18 = .ok (.aload_n 0, 1) := by decide +kernel
theorem dX5_isNeededAt_19 : decode cX5_isNeededAt 19 = .ok (.getfield 14, 3) := by decide +kernel
theorem dX5_isNeededAt_22 : decode cX5_isNeededAt 22 = .ok (.aload_n 1, 1) := by decide +kernel
theorem dX5_isNeededAt_23 : decode cX5_isNeededAt 23 = .ok (.iload_n 2, 1) := by decide +kernel
theorem dX5_isNeededAt_24 : decode cX5_isNeededAt 24 = .ok (.invokevirtual 36, 3) := by decide +kernel
theorem dX5_isNeededAt_27 : decode cX5_isNeededAt 27 = .ok (.aload_n 1, 1) := by decide +kernel
theorem dX5_isNeededAt_28 : decode cX5_isNeededAt 28 = .ok (.iload_n 2, 1) := by decide +kernel
theorem dX5_isNeededAt_29 : decode cX5_isNeededAt 29 = .ok (.invokevirtual 40, 3) := by decide +kernel
theorem dX5_isNeededAt_32 : decode cX5_isNeededAt 32 = .ok (.invokevirtual 51, 3) := by decide +kernel
theorem dX5_isNeededAt_35 : decode cX5_isNeededAt 35 = .ok (.ifCond .ne 7, 3) := by decide +kernel
theorem dX5_isNeededAt_38 : decode cX5_isNeededAt 38 = .ok (.iconst 1, 1) := by decide +kernel
theorem dX5_isNeededAt_39 : decode cX5_isNeededAt 39 = .ok (.goto 4, 3) := by decide +kernel
theorem dX5_isNeededAt_42 : decode cX5_isNeededAt 42 = .ok (.iconst 0, 1) := by decide +kernel
theorem dX5_isNeededAt_43 : decode cX5_isNeededAt 43 = .ok (.ireturn, 1) := by decide +kernel
theorem dX5_neededLinksAt_0 : decode cX5_neededLinksAt 0 = .ok (.iconst 0, 1) := by decide +kernel
theorem dX5_neededLinksAt_1 : decode cX5_neededLinksAt 1 = .ok (.istore_n 3, 1) := by decide +kernel
theorem dX5_neededLinksAt_2 : decode cX5_neededLinksAt 2 = .ok (.iconst 0, 1) := by decide +kernel
theorem dX5_neededLinksAt_3 : decode cX5_neededLinksAt 3 = .ok (.istore 4, 2) := by decide +kernel
theorem dX5_neededLinksAt_5 : decode cX5_neededLinksAt 5 = .ok (.iload 4, 2) := by decide +kernel
theorem dX5_neededLinksAt_7 : decode cX5_neededLinksAt 7 = .ok (.aload_n 1, 1) := by decide +kernel
theorem dX5_neededLinksAt_8 : decode cX5_neededLinksAt 8 = .ok (.invokevirtual 26, 3) := by decide +kernel
theorem dX5_neededLinksAt_11 : decode cX5_neededLinksAt 11 = .ok (.if_icmp .ge 23, 3) := by decide +kernel
theorem dX5_neededLinksAt_14 : decode cX5_neededLinksAt 14 = .ok (.aload_n 0, 1) := by decide +kernel
theorem dX5_neededLinksAt_15 : decode cX5_neededLinksAt 15 = .ok (.aload_n 1, 1) := by decide +kernel
theorem dX5_neededLinksAt_16 : decode cX5_neededLinksAt 16 = .ok (.iload 4, 2) := by decide +kernel
theorem dX5_neededLinksAt_18 : decode cX5_neededLinksAt 18 = .ok (.iload_n 2, 1) := by decide +kernel
theorem dX5_neededLinksAt_19 : decode cX5_neededLinksAt 19 = .ok (.invokevirtual 66, 3) := by decide +kernel
theorem dX5_neededLinksAt_22 : decode cX5_neededLinksAt 22 = .ok (.ifCond .eq 6, 3) := by decide +kernel
theorem dX5_neededLinksAt_25 : decode cX5_neededLinksAt 25 = .ok (.iinc 3 1, 3) := by decide +kernel
theorem dX5_neededLinksAt_28 : decode cX5_neededLinksAt 28 = .ok (.iinc 4 1, 3) := by decide +kernel
theorem dX5_neededLinksAt_31 : decode cX5_neededLinksAt 31 = .ok (.goto (-26), 3) := by decide +kernel
theorem dX5_neededLinksAt_34 : decode cX5_neededLinksAt 34 = .ok (.iload_n 3, 1) := by decide +kernel
theorem dX5_neededLinksAt_35 : decode cX5_neededLinksAt 35 = .ok (.ireturn, 1) := by decide +kernel
theorem dX5_neededMomentsOf_0 : decode cX5_neededMomentsOf 0 = .ok (.iconst 0, 1) := by decide +kernel
theorem dX5_neededMomentsOf_1 : decode cX5_neededMomentsOf 1 = .ok (.istore_n 3, 1) := by decide +kernel
theorem dX5_neededMomentsOf_2 : decode cX5_neededMomentsOf 2 = .ok (.iconst 0, 1) := by decide +kernel
theorem dX5_neededMomentsOf_3 : decode cX5_neededMomentsOf 3 = .ok (.istore 4, 2) := by decide +kernel
theorem dX5_neededMomentsOf_5 : decode cX5_neededMomentsOf 5 = .ok (.iload 4, 2) := by decide +kernel
theorem dX5_neededMomentsOf_7 : decode cX5_neededMomentsOf 7 = .ok (.bipush 64, 2) := by decide +kernel
theorem dX5_neededMomentsOf_9 : decode cX5_neededMomentsOf 9 = .ok (.if_icmp .ge 23, 3) := by decide +kernel
theorem dX5_neededMomentsOf_12 : decode cX5_neededMomentsOf 12 = .ok (.aload_n 0, 1) := by decide +kernel
theorem dX5_neededMomentsOf_13 : decode cX5_neededMomentsOf 13 = .ok (.aload_n 1, 1) := by decide +kernel
theorem dX5_neededMomentsOf_14 : decode cX5_neededMomentsOf 14 = .ok (.iload_n 2, 1) := by decide +kernel
theorem dX5_neededMomentsOf_15 : decode cX5_neededMomentsOf 15 = .ok (.iload 4, 2) := by decide +kernel
theorem dX5_neededMomentsOf_17 : decode cX5_neededMomentsOf 17 = .ok (.invokevirtual 66, 3) := by decide +kernel
theorem dX5_neededMomentsOf_20 : decode cX5_neededMomentsOf 20 = .ok (.ifCond .eq 6, 3) := by decide +kernel
theorem dX5_neededMomentsOf_23 : decode cX5_neededMomentsOf 23 = .ok (.iinc 3 1, 3) := by decide +kernel
theorem dX5_neededMomentsOf_26 : decode cX5_neededMomentsOf 26 = .ok (.iinc 4 1, 3) := by decide +kernel
theorem dX5_neededMomentsOf_29 : decode cX5_neededMomentsOf 29 = .ok (.goto (-24), 3) := by decide +kernel
theorem dX5_neededMomentsOf_32 : decode cX5_neededMomentsOf 32 = .ok (.iload_n 3, 1) := by decide +kernel
theorem dX5_neededMomentsOf_33 : decode cX5_neededMomentsOf 33 = .ok (.ireturn, 1) := by decide +kernel
theorem dX5_isOddAt_0 : decode cX5_isOddAt 0 = .ok (.aload_n 0, 1) := by decide +kernel
theorem dX5_isOddAt_1 : decode cX5_isOddAt 1 = .ok (.getfield 20, 3) := by decide +kernel
theorem dX5_isOddAt_4 : decode cX5_isOddAt 4 = .ok (.iconst 0, 1) := by decide +kernel
theorem dX5_isOddAt_5 : decode cX5_isOddAt 5 = .ok (.invokevirtual 23, 3) := by decide +kernel
theorem dX5_isOddAt_8 : decode cX5_isOddAt 8 = .ok (.iconst 0, 1) := by decide +kernel
theorem dX5_isOddAt_9 : decode cX5_isOddAt 9 = .ok (.istore_n 3, 1) := by decide +kernel
theorem dX5_isOddAt_10 : decode cX5_isOddAt 10 = .ok (.iload_n 3, 1) := by decide +kernel
theorem dX5_isOddAt_11 : decode cX5_isOddAt 11 = .ok (.aload_n 1, 1) := by decide +kernel
theorem dX5_isOddAt_12 : decode cX5_isOddAt 12 = .ok (.invokevirtual 26, 3) := by decide +kernel
theorem dX5_isOddAt_15 : decode cX5_isOddAt 15 = .ok (.if_icmp .ge 58, 3) := by decide +kernel
theorem dX5_isOddAt_18 : decode cX5_isOddAt 18 = .ok (.aload_n 1, 1) := by decide +kernel
theorem dX5_isOddAt_19 : decode cX5_isOddAt 19 = .ok (.iload_n 3, 1) := by decide +kernel
theorem dX5_isOddAt_20 : decode cX5_isOddAt 20 = .ok (.iload_n 2, 1) := by decide +kernel
theorem dX5_isOddAt_21 : decode cX5_isOddAt 21 = .ok (.invokevirtual 32, 3) := by decide +kernel
theorem dX5_isOddAt_24 : decode cX5_isOddAt 24 = .ok (.ifCond .eq 43, 3) := by decide +kernel
theorem dX5_isOddAt_27 : decode cX5_isOddAt 27 = .ok (.aload_n 0, 1) := by decide +kernel
theorem dX5_isOddAt_28 : decode cX5_isOddAt 28 = .ok (.getfield 20, 3) := by decide +kernel
theorem dX5_isOddAt_31 : decode cX5_isOddAt 31 = .ok (.aload_n 1, 1) := by decide +kernel
theorem dX5_isOddAt_32 : decode cX5_isOddAt 32 = .ok (.iload_n 3, 1) := by decide +kernel
theorem dX5_isOddAt_33 : decode cX5_isOddAt 33 = .ok (.invokevirtual 36, 3) := by decide +kernel
theorem dX5_isOddAt_36 : decode cX5_isOddAt 36 = .ok (.bipush 16, 2) := by decide +kernel
theorem dX5_isOddAt_38 : decode cX5_isOddAt 38 = .ok (.aload_n 1, 1) := by decide +kernel
theorem dX5_isOddAt_39 : decode cX5_isOddAt 39 = .ok (.iload_n 3, 1) := by decide +kernel
theorem dX5_isOddAt_40 : decode cX5_isOddAt 40 = .ok (.invokevirtual 40, 3) := by decide +kernel
theorem dX5_isOddAt_43 : decode cX5_isOddAt 43 = .ok (.iadd, 1) := by decide +kernel
theorem dX5_isOddAt_44 : decode cX5_isOddAt 44 = .ok (.invokevirtual 43, 3) := by decide +kernel
theorem dX5_isOddAt_47 : decode cX5_isOddAt 47 = .ok (.aload_n 0, 1) := by decide +kernel
theorem dX5_isOddAt_48 : decode cX5_isOddAt 48 = .ok (.getfield 20, 3) := by decide +kernel
theorem dX5_isOddAt_51 : decode cX5_isOddAt 51 = .ok (.bipush 16, 2) := by decide +kernel
theorem dX5_isOddAt_53 : decode cX5_isOddAt 53 = .ok (.aload_n 1, 1) := by decide +kernel
theorem dX5_isOddAt_54 : decode cX5_isOddAt 54 = .ok (.iload_n 3, 1) := by decide +kernel
theorem dX5_isOddAt_55 : decode cX5_isOddAt 55 = .ok (.invokevirtual 36, 3) := by decide +kernel
theorem dX5_isOddAt_58 : decode cX5_isOddAt 58 = .ok (.iadd, 1) := by decide +kernel
theorem dX5_isOddAt_59 : decode cX5_isOddAt 59 = .ok (.aload_n 1, 1) := by decide +kernel
theorem dX5_isOddAt_60 : decode cX5_isOddAt 60 = .ok (.iload_n 3, 1) := by decide +kernel
theorem dX5_isOddAt_61 : decode cX5_isOddAt 61 = .ok (.invokevirtual 40, 3) := by decide +kernel
theorem dX5_isOddAt_64 : decode cX5_isOddAt 64 = .ok (.invokevirtual 43, 3) := by decide +kernel
theorem dX5_isOddAt_67 : decode cX5_isOddAt 67 = .ok (.iinc 3 1, 3) := by decide +kernel
theorem dX5_isOddAt_70 : decode cX5_isOddAt 70 = .ok (.goto (-60), 3) := by decide +kernel
theorem dX5_isOddAt_73 : decode cX5_isOddAt 73 = .ok (.iconst 0, 1) := by decide +kernel
theorem dX5_isOddAt_74 : decode cX5_isOddAt 74 = .ok (.istore_n 3, 1) := by decide +kernel
theorem dX5_isOddAt_75 : decode cX5_isOddAt 75 = .ok (.iload_n 3, 1) := by decide +kernel
theorem dX5_isOddAt_76 : decode cX5_isOddAt 76 = .ok (.bipush 16, 2) := by decide +kernel
theorem dX5_isOddAt_78 : decode cX5_isOddAt 78 = .ok (.if_icmp .ge 26, 3) := by decide +kernel
theorem dX5_isOddAt_81 : decode cX5_isOddAt 81 = .ok (.aload_n 0, 1) := by decide +kernel
theorem dX5_isOddAt_82 : decode cX5_isOddAt 82 = .ok (.getfield 20, 3) := by decide +kernel
theorem dX5_isOddAt_85 : decode cX5_isOddAt 85 = .ok (.iload_n 3, 1) := by decide +kernel
theorem dX5_isOddAt_86 : decode cX5_isOddAt 86 = .ok (.bipush 16, 2) := by decide +kernel
theorem dX5_isOddAt_88 : decode cX5_isOddAt 88 = .ok (.iload_n 3, 1) := by decide +kernel
theorem dX5_isOddAt_89 : decode cX5_isOddAt 89 = .ok (.iadd, 1) := by decide +kernel
theorem dX5_isOddAt_90 : decode cX5_isOddAt 90 = .ok (.invokevirtual 51, 3) := by decide +kernel
theorem dX5_isOddAt_93 : decode cX5_isOddAt 93 = .ok (.ifCond .eq 5, 3) := by decide +kernel
theorem dX5_isOddAt_96 : decode cX5_isOddAt 96 = .ok (.iconst 1, 1) := by decide +kernel
theorem dX5_isOddAt_97 : decode cX5_isOddAt 97 = .ok (.ireturn, 1) := by decide +kernel
theorem dX5_isOddAt_98 : decode cX5_isOddAt 98 = .ok (.iinc 3 1, 3) := by decide +kernel
theorem dX5_isOddAt_101 : decode cX5_isOddAt 101 = .ok (.goto (-26), 3) := by decide +kernel
theorem dX5_isOddAt_104 : decode cX5_isOddAt 104 = .ok (.iconst 0, 1) := by decide +kernel
theorem dX5_isOddAt_105 : decode cX5_isOddAt 105 = .ok (.ireturn, 1) := by decide +kernel
theorem dX5_oddMoments_0 : decode cX5_oddMoments 0 = .ok (.iconst 0, 1) := by decide +kernel
theorem dX5_oddMoments_1 : decode cX5_oddMoments 1 = .ok (.istore_n 2, 1) := by decide +kernel
theorem dX5_oddMoments_2 : decode cX5_oddMoments 2 = .ok (.iconst 0, 1) := by decide +kernel
theorem dX5_oddMoments_3 : decode cX5_oddMoments 3 = .ok (.istore_n 3, 1) := by decide +kernel
theorem dX5_oddMoments_4 : decode cX5_oddMoments 4 = .ok (.iload_n 3, 1) := by decide +kernel
theorem dX5_oddMoments_5 : decode cX5_oddMoments 5 = .ok (.bipush 64, 2) := by decide +kernel
theorem dX5_oddMoments_7 : decode cX5_oddMoments 7 = .ok (.if_icmp .ge 21, 3) := by decide +kernel
theorem dX5_oddMoments_10 : decode cX5_oddMoments 10 = .ok (.aload_n 0, 1) := by decide +kernel
theorem dX5_oddMoments_11 : decode cX5_oddMoments 11 = .ok (.aload_n 1, 1) := by decide +kernel
theorem dX5_oddMoments_12 : decode cX5_oddMoments 12 = .ok (.iload_n 3, 1) := by decide +kernel
theorem dX5_oddMoments_13 : decode cX5_oddMoments 13 = .ok (.invokevirtual 70, 3) := by decide +kernel
theorem dX5_oddMoments_16 : decode cX5_oddMoments 16 = .ok (.ifCond .eq 6, 3) := by decide +kernel
theorem dX5_oddMoments_19 : decode cX5_oddMoments 19 = .ok (.iinc 2 1, 3) := by decide +kernel
theorem dX5_oddMoments_22 : decode cX5_oddMoments 22 = .ok (.iinc 3 1, 3) := by decide +kernel
theorem dX5_oddMoments_25 : decode cX5_oddMoments 25 = .ok (.goto (-21), 3) := by decide +kernel
theorem dX5_oddMoments_28 : decode cX5_oddMoments 28 = .ok (.iload_n 2, 1) := by decide +kernel
theorem dX5_oddMoments_29 : decode cX5_oddMoments 29 = .ok (.ireturn, 1) := by decide +kernel
theorem dX5_mostParts_0 : decode cX5_mostParts 0 = .ok (.iconst 0, 1) := by decide +kernel
theorem dX5_mostParts_1 : decode cX5_mostParts 1 = .ok (.istore_n 2, 1) := by decide +kernel
theorem dX5_mostParts_2 : decode cX5_mostParts 2 = .ok (.iconst 0, 1) := by decide +kernel
theorem dX5_mostParts_3 : decode cX5_mostParts 3 = .ok (.istore_n 3, 1) := by decide +kernel
theorem dX5_mostParts_4 : decode cX5_mostParts 4 = .ok (.iload_n 3, 1) := by decide +kernel
theorem dX5_mostParts_5 : decode cX5_mostParts 5 = .ok (.bipush 64, 2) := by decide +kernel
theorem dX5_mostParts_7 : decode cX5_mostParts 7 = .ok (.if_icmp .ge 20, 3) := by decide +kernel
theorem dX5_mostParts_10 : decode cX5_mostParts 10 = .ok (.iload_n 2, 1) := by decide +kernel
theorem dX5_mostParts_11 : decode cX5_mostParts 11 = .ok (.aload_n 0, 1) := by decide +kernel
theorem dX5_mostParts_12 : decode cX5_mostParts 12 = .ok (.aload_n 1, 1) := by decide +kernel
theorem dX5_mostParts_13 : decode cX5_mostParts 13 = .ok (.iload_n 3, 1) := by decide +kernel
theorem dX5_mostParts_14 : decode cX5_mostParts 14 = .ok (.invokevirtual 74, 3) := by decide +kernel
theorem dX5_mostParts_17 : decode cX5_mostParts 17 = .ok (.invokestatic 60, 3) := by decide +kernel
theorem dX5_mostParts_20 : decode cX5_mostParts 20 = .ok (.istore_n 2, 1) := by decide +kernel
theorem dX5_mostParts_21 : decode cX5_mostParts 21 = .ok (.iinc 3 1, 3) := by decide +kernel
theorem dX5_mostParts_24 : decode cX5_mostParts 24 = .ok (.goto (-20), 3) := by decide +kernel
theorem dX5_mostParts_27 : decode cX5_mostParts 27 = .ok (.iload_n 2, 1) := by decide +kernel
theorem dX5_mostParts_28 : decode cX5_mostParts 28 = .ok (.ireturn, 1) := by decide +kernel
theorem dX5_fewestParts_0 : decode cX5_fewestParts 0 = .ok (.bipush 16, 2) := by decide +kernel
theorem dX5_fewestParts_2 : decode cX5_fewestParts 2 = .ok (.istore_n 2, 1) := by decide +kernel
theorem dX5_fewestParts_3 : decode cX5_fewestParts 3 = .ok (.iconst 0, 1) := by decide +kernel
theorem dX5_fewestParts_4 : decode cX5_fewestParts 4 = .ok (.istore_n 3, 1) := by decide +kernel
theorem dX5_fewestParts_5 : decode cX5_fewestParts 5 = .ok (.iload_n 3, 1) := by decide +kernel
theorem dX5_fewestParts_6 : decode cX5_fewestParts 6 = .ok (.bipush 64, 2) := by decide +kernel
theorem dX5_fewestParts_8 : decode cX5_fewestParts 8 = .ok (.if_icmp .ge 20, 3) := by decide +kernel
theorem dX5_fewestParts_11 : decode cX5_fewestParts 11 = .ok (.iload_n 2, 1) := by decide +kernel
theorem dX5_fewestParts_12 : decode cX5_fewestParts 12 = .ok (.aload_n 0, 1) := by decide +kernel
theorem dX5_fewestParts_13 : decode cX5_fewestParts 13 = .ok (.aload_n 1, 1) := by decide +kernel
theorem dX5_fewestParts_14 : decode cX5_fewestParts 14 = .ok (.iload_n 3, 1) := by decide +kernel
theorem dX5_fewestParts_15 : decode cX5_fewestParts 15 = .ok (.invokevirtual 74, 3) := by decide +kernel
theorem dX5_fewestParts_18 : decode cX5_fewestParts 18 = .ok (.invokestatic 78, 3) := by decide +kernel
theorem dX5_fewestParts_21 : decode cX5_fewestParts 21 = .ok (.istore_n 2, 1) := by decide +kernel
theorem dX5_fewestParts_22 : decode cX5_fewestParts 22 = .ok (.iinc 3 1, 3) := by decide +kernel
theorem dX5_fewestParts_25 : decode cX5_fewestParts 25 = .ok (.goto (-20), 3) := by decide +kernel
theorem dX5_fewestParts_28 : decode cX5_fewestParts 28 = .ok (.iload_n 2, 1) := by decide +kernel
theorem dX5_fewestParts_29 : decode cX5_fewestParts 29 = .ok (.ireturn, 1) := by decide +kernel
end
section
theorem dX6_init_0 : decode cX6_init 0 = .ok (.aload_n 0, 1) := by decide +kernel
theorem dX6_init_1 : decode cX6_init 1 = .ok (.invokespecial 1, 3) := by decide +kernel
theorem dX6_init_4 : decode cX6_init 4 = .ok (.aload_n 0, 1) := by decide +kernel
theorem dX6_init_5 : decode cX6_init 5 = .ok (.new 7, 3) := by decide +kernel
theorem dX6_init_8 : decode cX6_init 8 = .ok (.dup, 1) := by decide +kernel
theorem dX6_init_9 : decode cX6_init 9 = .ok (.invokespecial 9, 3) := by decide +kernel
theorem dX6_init_12 : decode cX6_init 12 = .ok (.putfield 10, 3) := by decide +kernel
theorem dX6_init_15 : decode cX6_init 15 = .ok (.aload_n 0, 1) := by decide +kernel
theorem dX6_init_16 : decode cX6_init 16 = .ok (.new 7, 3) := by decide +kernel
theorem dX6_init_19 : decode cX6_init 19 = .ok (.dup, 1) := by decide +kernel
theorem dX6_init_20 : decode cX6_init 20 = .ok (.invokespecial 9, 3) := by decide +kernel
theorem dX6_init_23 : decode cX6_init 23 = .ok (.putfield 16, 3) := by decide +kernel
theorem dX6_init_26 : decode cX6_init 26 = .ok (.aload_n 0, 1) := by decide +kernel
theorem dX6_init_27 : decode cX6_init 27 = .ok (.iconst 0, 1) := by decide +kernel
theorem dX6_init_28 : decode cX6_init 28 = .ok (.putfield 19, 3) := by decide +kernel
theorem dX6_init_31 : decode cX6_init 31 = .ok (.aload_n 0, 1) := by decide +kernel
theorem dX6_init_32 : decode cX6_init 32 = .ok (.new 23, 3) := by decide +kernel
theorem dX6_init_35 : decode cX6_init 35 = .ok (.dup, 1) := by decide +kernel
theorem dX6_init_36 : decode cX6_init 36 = .ok (.invokespecial 25, 3) := by decide +kernel
theorem dX6_init_39 : decode cX6_init 39 = .ok (.putfield 26, 3) := by decide +kernel
theorem dX6_init_42 : decode cX6_init 42 = .ok (.aload_n 0, 1) := by decide +kernel
theorem dX6_init_43 : decode cX6_init 43 = .ok (.new 30, 3) := by decide +kernel
theorem dX6_init_46 : decode cX6_init 46 = .ok (.dup, 1) := by decide +kernel
theorem dX6_init_47 : decode cX6_init 47 = .ok (.invokespecial 32, 3) := by decide +kernel
theorem dX6_init_50 : decode cX6_init 50 = .ok (.putfield 33, 3) := by decide +kernel
theorem dX6_init_53 : decode cX6_init 53 = .ok (.aload_n 0, 1) := by decide +kernel
theorem dX6_init_54 : decode cX6_init 54 = .ok (.new 7, 3) := by decide +kernel
theorem dX6_init_57 : decode cX6_init 57 = .ok (.dup, 1) := by decide +kernel
theorem dX6_init_58 : decode cX6_init 58 = .ok (.invokespecial 9, 3) := by decide +kernel
theorem dX6_init_61 : decode cX6_init 61 = .ok (.putfield 37, 3) := by decide +kernel
theorem dX6_init_64 : decode cX6_init 64 = .ok (.aload_n 0, 1) := by decide +kernel
theorem dX6_init_65 : decode cX6_init 65 = .ok (.new 40, 3) := by decide +kernel
theorem dX6_init_68 : decode cX6_init 68 = .ok (.dup, 1) := by decide +kernel
theorem dX6_init_69 : decode cX6_init 69 = .ok (.invokespecial 42, 3) := by decide +kernel
theorem dX6_init_72 : decode cX6_init 72 = .ok (.putfield 43, 3) := by decide +kernel
theorem dX6_init_75 : decode cX6_init 75 = .ok (.aload_n 0, 1) := by decide +kernel
theorem dX6_init_76 : decode cX6_init 76 = .ok (.new 47, 3) := by decide +kernel
theorem dX6_init_79 : decode cX6_init 79 = .ok (.dup, 1) := by decide +kernel
theorem dX6_init_80 : decode cX6_init 80 = .ok (.invokespecial 49, 3) := by decide +kernel
theorem dX6_init_83 : decode cX6_init 83 = .ok (.putfield 50, 3) := by decide +kernel
theorem dX6_init_86 : decode cX6_init 86 = .ok (.return_, 1) := by decide +kernel
theorem dX6_addLink_0 : decode cX6_addLink 0 = .ok (.iload_n 1, 1) := by decide +kernel
theorem dX6_addLink_1 : decode cX6_addLink 1 = .ok (.invokestatic 54, 3) := by decide +kernel
theorem dX6_addLink_4 : decode cX6_addLink 4 = .ok (.ifCond .eq 10, 3) := by decide +kernel
theorem dX6_addLink_7 : decode cX6_addLink 7 = .ok (.iload_n 2, 1) := by decide +kernel
theorem dX6_addLink_8 : decode cX6_addLink 8 = .ok (.invokestatic 54, 3) := by decide +kernel
theorem dX6_addLink_11 : decode cX6_addLink 11 = .ok (.ifCond .ne 5, 3) := by decide +kernel
theorem dX6_addLink_14 : decode cX6_addLink 14 = .ok (.iconst (-1), 1) := by decide +kernel
theorem dX6_addLink_15 : decode cX6_addLink 15 = .ok (.ireturn, 1) := by decide +kernel
theorem dX6_addLink_16 : decode cX6_addLink 16 = .ok (.iload_n 3, 1) := by decide +kernel
theorem dX6_addLink_17 : decode cX6_addLink 17 = .ok (.iload 4, 2) := by decide +kernel
theorem dX6_addLink_19 : decode cX6_addLink 19 = .ok (.invokestatic 58, 3) := by decide +kernel
theorem dX6_addLink_22 : decode cX6_addLink 22 = .ok (.ifCond .eq 8, 3) := by decide +kernel
theorem dX6_addLink_25 : decode cX6_addLink 25 = .ok (.iload_n 1, 1) := by decide +kernel
theorem dX6_addLink_26 : decode cX6_addLink 26 = .ok (.iload_n 2, 1) := by decide +kernel
theorem dX6_addLink_27 : decode cX6_addLink 27 = .ok (.if_icmp .ne 6, 3) := by decide +kernel
theorem dX6_addLink_30 : decode cX6_addLink 30 = .ok (.bipush (-2), 2) := by decide +kernel
theorem dX6_addLink_32 : decode cX6_addLink 32 = .ok (.ireturn, 1) := by decide +kernel
theorem dX6_addLink_33 : decode cX6_addLink 33 = .ok (.aload_n 0, 1) := by decide +kernel
theorem dX6_addLink_34 : decode cX6_addLink 34 = .ok (.getfield 10, 3) := by decide +kernel
theorem dX6_addLink_37 : decode cX6_addLink 37 = .ok (.invokevirtual 62, 3) := by decide +kernel
theorem dX6_addLink_40 : decode cX6_addLink 40 = .ok (.iconst 1, 1) := by decide +kernel
theorem dX6_addLink_41 : decode cX6_addLink 41 = .ok (.if_icmp .ge 6, 3) := by decide +kernel
theorem dX6_addLink_44 : decode cX6_addLink 44 = .ok (.bipush (-3), 2) := by decide +kernel
theorem dX6_addLink_46 : decode cX6_addLink 46 = .ok (.ireturn, 1) := by decide +kernel
theorem dX6_addLink_47 : decode cX6_addLink 47 = .ok (.aload_n 0, 1) := by decide +kernel
theorem dX6_addLink_48 : decode cX6_addLink 48 = .ok (.getfield 26, 3) := by decide +kernel
theorem dX6_addLink_51 : decode cX6_addLink 51 = .ok (.aload_n 0, 1) := by decide +kernel
theorem dX6_addLink_52 : decode cX6_addLink 52 = .ok (.getfield 10, 3) := by decide +kernel
theorem dX6_addLink_55 : decode cX6_addLink 55 = .ok (.invokevirtual 66, 3) := by decide +kernel
theorem dX6_addLink_58 : decode cX6_addLink 58 = .ok (.aload_n 0, 1) := by decide +kernel
theorem dX6_addLink_59 : decode cX6_addLink 59 = .ok (.getfield 10, 3) := by decide +kernel
theorem dX6_addLink_62 : decode cX6_addLink 62 = .ok (.iload_n 1, 1) := by decide +kernel
theorem dX6_addLink_63 : decode cX6_addLink 63 = .ok (.iload_n 2, 1) := by decide +kernel
theorem dX6_addLink_64 : decode cX6_addLink 64 = .ok (.iload_n 3, 1) := by decide +kernel
theorem dX6_addLink_65 : decode cX6_addLink 65 = .ok (.iload 4, 2) := by decide +kernel
theorem dX6_addLink_67 : decode cX6_addLink 67 = .ok (.invokevirtual 70, 3) := by decide +kernel
theorem dX6_addLink_70 : decode cX6_addLink 70 = .ok (.aload_n 0, 1) := by decide +kernel
theorem dX6_addLink_71 : decode cX6_addLink 71 = .ok (.getfield 10, 3) := by decide +kernel
theorem dX6_addLink_74 : decode cX6_addLink 74 = .ok (.invokevirtual 74, 3) := by decide +kernel
theorem dX6_addLink_77 : decode cX6_addLink 77 = .ok (.iconst 1, 1) := by decide +kernel
theorem dX6_addLink_78 : decode cX6_addLink 78 = .ok (.isub, 1) := by decide +kernel
theorem dX6_addLink_79 : decode cX6_addLink 79 = .ok (.ireturn, 1) := by decide +kernel
theorem dX6_removeLink_0 : decode cX6_removeLink 0 = .ok (.aload_n 0, 1) := by decide +kernel
theorem dX6_removeLink_1 : decode cX6_removeLink 1 = .ok (.getfield 10, 3) := by decide +kernel
theorem dX6_removeLink_4 : decode cX6_removeLink 4 = .ok (.iload_n 1, 1) := by decide +kernel
theorem dX6_removeLink_5 : decode cX6_removeLink 5 = .ok (.invokevirtual 77, 3) := by decide +kernel
theorem dX6_removeLink_8 : decode cX6_removeLink 8 = .ok (.ifCond .ne 5, 3) := by decide +kernel
theorem dX6_removeLink_11 : decode cX6_removeLink 11 = .ok (.iconst (-1), 1) := by decide +kernel
theorem dX6_removeLink_12 : decode cX6_removeLink 12 = .ok (.ireturn, 1) := by decide +kernel
theorem dX6_removeLink_13 : decode cX6_removeLink 13 = .ok (.aload_n 0, 1) := by decide +kernel
theorem dX6_removeLink_14 : decode cX6_removeLink 14 = .ok (.getfield 26, 3) := by decide +kernel
theorem dX6_removeLink_17 : decode cX6_removeLink 17 = .ok (.aload_n 0, 1) := by decide +kernel
theorem dX6_removeLink_18 : decode cX6_removeLink 18 = .ok (.getfield 10, 3) := by decide +kernel
theorem dX6_removeLink_21 : decode cX6_removeLink 21 = .ok (.invokevirtual 66, 3) := by decide +kernel
theorem dX6_removeLink_24 : decode cX6_removeLink 24 = .ok (.aload_n 0, 1) := by decide +kernel
theorem dX6_removeLink_25 : decode cX6_removeLink 25 = .ok (.getfield 10, 3) := by decide +kernel
theorem dX6_removeLink_28 : decode cX6_removeLink 28 = .ok (.iload_n 1, 1) := by decide +kernel
theorem dX6_removeLink_29 : decode cX6_removeLink 29 = .ok (.invokevirtual 80, 3) := by decide +kernel
theorem dX6_removeLink_32 : decode cX6_removeLink 32 = .ok (.aload_n 0, 1) := by decide +kernel
theorem dX6_removeLink_33 : decode cX6_removeLink 33 = .ok (.getfield 10, 3) := by decide +kernel
theorem dX6_removeLink_36 : decode cX6_removeLink 36 = .ok (.invokevirtual 74, 3) := by decide +kernel
theorem dX6_removeLink_39 : decode cX6_removeLink 39 = .ok (.ireturn, 1) := by decide +kernel
theorem dX6_setLife_0 : decode cX6_setLife 0 = .ok (.aload_n 0, 1) := by decide +kernel
theorem dX6_setLife_1 : decode cX6_setLife 1 = .ok (.getfield 10, 3) := by decide +kernel
theorem dX6_setLife_4 : decode cX6_setLife 4 = .ok (.iload_n 1, 1) := by decide +kernel
theorem dX6_setLife_5 : decode cX6_setLife 5 = .ok (.invokevirtual 77, 3) := by decide +kernel
theorem dX6_setLife_8 : decode cX6_setLife 8 = .ok (.ifCond .ne 5, 3) := by decide +kernel
theorem dX6_setLife_11 : decode cX6_setLife 11 = .ok (.iconst (-1), 1) := by decide +kernel
theorem dX6_setLife_12 : decode cX6_setLife 12 = .ok (.ireturn, 1) := by decide +kernel
theorem dX6_setLife_13 : decode cX6_setLife 13 = .ok (.iload_n 2, 1) := by decide +kernel
theorem dX6_setLife_14 : decode cX6_setLife 14 = .ok (.iload_n 3, 1) := by decide +kernel
theorem dX6_setLife_15 : decode cX6_setLife 15 = .ok (.invokestatic 58, 3) := by decide +kernel
theorem dX6_setLife_18 : decode cX6_setLife 18 = .ok (.ifCond .ne 6, 3) := by decide +kernel
theorem dX6_setLife_21 : decode cX6_setLife 21 = .ok (.bipush (-2), 2) := by decide +kernel
theorem dX6_setLife_23 : decode cX6_setLife 23 = .ok (.ireturn, 1) := by decide +kernel
theorem dX6_setLife_24 : decode cX6_setLife 24 = .ok (.aload_n 0, 1) := by decide +kernel
theorem dX6_setLife_25 : decode cX6_setLife 25 = .ok (.getfield 10, 3) := by decide +kernel
theorem dX6_setLife_28 : decode cX6_setLife 28 = .ok (.iload_n 1, 1) := by decide +kernel
theorem dX6_setLife_29 : decode cX6_setLife 29 = .ok (.invokevirtual 84, 3) := by decide +kernel
theorem dX6_setLife_32 : decode cX6_setLife 32 = .ok (.iload_n 2, 1) := by decide +kernel
theorem dX6_setLife_33 : decode cX6_setLife 33 = .ok (.if_icmp .ne 18, 3) := by decide +kernel
theorem dX6_setLife_36 : decode cX6_setLife 36 = .ok (.aload_n 0, 1) := by decide +kernel
theorem dX6_setLife_37 : decode cX6_setLife 37 = .ok (.getfield 10, 3) := by decide +kernel
theorem dX6_setLife_40 : decode cX6_setLife 40 = .ok (.iload_n 1, 1) := by decide +kernel
theorem dX6_setLife_41 : decode cX6_setLife 41 = .ok (.invokevirtual 88, 3) := by decide +kernel
theorem dX6_setLife_44 : decode cX6_setLife 44 = .ok (.iload_n 3, 1) := by decide +kernel
theorem dX6_setLife_45 : decode cX6_setLife 45 = .ok (.if_icmp .ne 6, 3) := by decide +kernel
theorem dX6_setLife_48 : decode cX6_setLife 48 = .ok (.bipush (-5), 2) := by decide +kernel
theorem dX6_setLife_50 : decode cX6_setLife 50 = .ok (.ireturn, 1) := by decide +kernel
theorem dX6_setLife_51 : decode cX6_setLife 51 = .ok (.aload_n 0, 1) := by decide +kernel
theorem dX6_setLife_52 : decode cX6_setLife 52 = .ok (.getfield 26, 3) := by decide +kernel
theorem dX6_setLife_55 : decode cX6_setLife 55 = .ok (.aload_n 0, 1) := by decide +kernel
theorem dX6_setLife_56 : decode cX6_setLife 56 = .ok (.getfield 10, 3) := by decide +kernel
theorem dX6_setLife_59 : decode cX6_setLife 59 = .ok (.invokevirtual 66, 3) := by decide +kernel
theorem dX6_setLife_62 : decode cX6_setLife 62 = .ok (.aload_n 0, 1) := by decide +kernel
theorem dX6_setLife_63 : decode cX6_setLife 63 = .ok (.getfield 10, 3) := by decide +kernel
theorem dX6_setLife_66 : decode cX6_setLife 66 = .ok (.iload_n 1, 1) := by decide +kernel
theorem dX6_setLife_67 : decode cX6_setLife 67 = .ok (.iload_n 2, 1) := by decide +kernel
theorem dX6_setLife_68 : decode cX6_setLife 68 = .ok (.iload_n 3, 1) := by decide +kernel
theorem dX6_setLife_69 : decode cX6_setLife 69 = .ok (.invokevirtual 91, 3) := by decide +kernel
theorem dX6_setLife_72 : decode cX6_setLife 72 = .ok (.iload_n 3, 1) := by decide +kernel
theorem dX6_setLife_73 : decode cX6_setLife 73 = .ok (.iload_n 2, 1) := by decide +kernel
theorem dX6_setLife_74 : decode cX6_setLife 74 = .ok (.isub, 1) := by decide +kernel
theorem dX6_setLife_75 : decode cX6_setLife 75 = .ok (.ireturn, 1) := by decide +kernel
theorem dX6_cut_0 : decode cX6_cut 0 = .ok (.aload_n 0, 1) := by decide +kernel
theorem dX6_cut_1 : decode cX6_cut 1 = .ok (.getfield 10, 3) := by decide +kernel
theorem dX6_cut_4 : decode cX6_cut 4 = .ok (.iload_n 1, 1) := by decide +kernel
theorem dX6_cut_5 : decode cX6_cut 5 = .ok (.invokevirtual 77, 3) := by decide +kernel
theorem dX6_cut_8 : decode cX6_cut 8 = .ok (.ifCond .ne 5, 3) := by decide +kernel
theorem dX6_cut_11 : decode cX6_cut 11 = .ok (.iconst (-1), 1) := by decide +kernel
theorem dX6_cut_12 : decode cX6_cut 12 = .ok (.ireturn, 1) := by decide +kernel
theorem dX6_cut_13 : decode cX6_cut 13 = .ok (.iload_n 2, 1) := by decide +kernel
theorem dX6_cut_14 : decode cX6_cut 14 = .ok (.invokestatic 95, 3) := by decide +kernel
theorem dX6_cut_17 : decode cX6_cut 17 = .ok (.ifCond .ne 6, 3) := by decide +kernel
theorem dX6_cut_20 : decode cX6_cut 20 = .ok (.bipush (-2), 2) := by decide +kernel
theorem dX6_cut_22 : decode cX6_cut 22 = .ok (.ireturn, 1) := by decide +kernel
theorem dX6_cut_23 : decode cX6_cut 23 = .ok (.aload_n 0, 1) := by decide +kernel
theorem dX6_cut_24 : decode cX6_cut 24 = .ok (.getfield 10, 3) := by decide +kernel
theorem dX6_cut_27 : decode cX6_cut 27 = .ok (.iload_n 1, 1) := by decide +kernel
theorem dX6_cut_28 : decode cX6_cut 28 = .ok (.iload_n 2, 1) := by decide +kernel
theorem dX6_cut_29 : decode cX6_cut 29 = .ok (.invokevirtual 98, 3) := by decide +kernel
theorem dX6_cut_32 : decode cX6_cut 32 = .ok (.ifCond .eq 17, 3) := by decide +kernel
theorem dX6_cut_35 : decode cX6_cut 35 = .ok (.aload_n 0, 1) := by decide +kernel
theorem dX6_cut_36 : decode cX6_cut 36 = .ok (.getfield 10, 3) := by decide +kernel
theorem dX6_cut_39 : decode cX6_cut 39 = .ok (.iload_n 1, 1) := by decide +kernel
theorem dX6_cut_40 : decode cX6_cut 40 = .ok (.iload_n 2, 1) := by decide +kernel
theorem dX6_cut_41 : decode cX6_cut 41 = .ok (.iconst 1, 1) := by decide +kernel
theorem dX6_cut_42 : decode cX6_cut 42 = .ok (.isub, 1) := by decide +kernel
theorem dX6_cut_43 : decode cX6_cut 43 = .ok (.invokevirtual 98, 3) := by decide +kernel
theorem dX6_cut_46 : decode cX6_cut 46 = .ok (.ifCond .ne 6, 3) := by decide +kernel
theorem dX6_cut_49 : decode cX6_cut 49 = .ok (.bipush (-4), 2) := by decide +kernel
theorem dX6_cut_51 : decode cX6_cut 51 = .ok (.ireturn, 1) := by decide +kernel
theorem dX6_cut_52 : decode cX6_cut 52 = .ok (.aload_n 0, 1) := by decide +kernel
theorem dX6_cut_53 : decode cX6_cut 53 = .ok (.getfield 10, 3) := by decide +kernel
theorem dX6_cut_56 : decode cX6_cut 56 = .ok (.invokevirtual 62, 3) := by decide +kernel
theorem dX6_cut_59 : decode cX6_cut 59 = .ok (.iconst 1, 1) := by decide +kernel
theorem dX6_cut_60 : decode cX6_cut 60 = .ok (.if_icmp .ge 6, 3) := by decide +kernel
theorem dX6_cut_63 : decode cX6_cut 63 = .ok (.bipush (-3), 2) := by decide +kernel
theorem dX6_cut_65 : decode cX6_cut 65 = .ok (.ireturn, 1) := by decide +kernel
theorem dX6_cut_66 : decode cX6_cut 66 = .ok (.aload_n 0, 1) := by decide +kernel
theorem dX6_cut_67 : decode cX6_cut 67 = .ok (.getfield 26, 3) := by decide +kernel
theorem dX6_cut_70 : decode cX6_cut 70 = .ok (.aload_n 0, 1) := by decide +kernel
theorem dX6_cut_71 : decode cX6_cut 71 = .ok (.getfield 10, 3) := by decide +kernel
theorem dX6_cut_74 : decode cX6_cut 74 = .ok (.invokevirtual 66, 3) := by decide +kernel
theorem dX6_cut_77 : decode cX6_cut 77 = .ok (.aload_n 0, 1) := by decide +kernel
theorem dX6_cut_78 : decode cX6_cut 78 = .ok (.getfield 10, 3) := by decide +kernel
theorem dX6_cut_81 : decode cX6_cut 81 = .ok (.aload_n 0, 1) := by decide +kernel
theorem dX6_cut_82 : decode cX6_cut 82 = .ok (.getfield 10, 3) := by decide +kernel
theorem dX6_cut_85 : decode cX6_cut 85 = .ok (.iload_n 1, 1) := by decide +kernel
theorem dX6_cut_86 : decode cX6_cut 86 = .ok (.invokevirtual 101, 3) := by decide +kernel
theorem dX6_cut_89 : decode cX6_cut 89 = .ok (.aload_n 0, 1) := by decide +kernel
theorem dX6_cut_90 : decode cX6_cut 90 = .ok (.getfield 10, 3) := by decide +kernel
theorem dX6_cut_93 : decode cX6_cut 93 = .ok (.iload_n 1, 1) := by decide +kernel
theorem dX6_cut_94 : decode cX6_cut 94 = .ok (.invokevirtual 104, 3) := by decide +kernel
theorem dX6_cut_97 : decode cX6_cut 97 = .ok (.iload_n 2, 1) := by decide +kernel
theorem dX6_cut_98 : decode cX6_cut 98 = .ok (.aload_n 0, 1) := by decide +kernel
theorem dX6_cut_99 : decode cX6_cut 99 = .ok (.getfield 10, 3) := by decide +kernel
theorem dX6_cut_102 : decode cX6_cut 102 = .ok (.iload_n 1, 1) := by decide +kernel
theorem dX6_cut_103 : decode cX6_cut 103 = .ok (.invokevirtual 88, 3) := by decide +kernel
theorem dX6_cut_106 : decode cX6_cut 106 = .ok (.invokevirtual 70, 3) := by decide +kernel
theorem dX6_cut_109 : decode cX6_cut 109 = .ok (.aload_n 0, 1) := by decide +kernel
theorem dX6_cut_110 : decode cX6_cut 110 = .ok (.getfield 10, 3) := by decide +kernel
theorem dX6_cut_113 : decode cX6_cut 113 = .ok (.iload_n 1, 1) := by decide +kernel
theorem dX6_cut_114 : decode cX6_cut 114 = .ok (.aload_n 0, 1) := by decide +kernel
theorem dX6_cut_115 : decode cX6_cut 115 = .ok (.getfield 10, 3) := by decide +kernel
theorem dX6_cut_118 : decode cX6_cut 118 = .ok (.iload_n 1, 1) := by decide +kernel
theorem dX6_cut_119 : decode cX6_cut 119 = .ok (.invokevirtual 84, 3) := by decide +kernel
theorem dX6_cut_122 : decode cX6_cut 122 = .ok (.iload_n 2, 1) := by decide +kernel
theorem dX6_cut_123 : decode cX6_cut 123 = .ok (.invokevirtual 91, 3) := by decide +kernel
theorem dX6_cut_126 : decode cX6_cut 126 = .ok (.aload_n 0, 1) := by decide +kernel
theorem dX6_cut_127 : decode cX6_cut 127 = .ok (.getfield 10, 3) := by decide +kernel
theorem dX6_cut_130 : decode cX6_cut 130 = .ok (.invokevirtual 74, 3) := by decide +kernel
theorem dX6_cut_133 : decode cX6_cut 133 = .ok (.iconst 1, 1) := by decide +kernel
theorem dX6_cut_134 : decode cX6_cut 134 = .ok (.isub, 1) := by decide +kernel
theorem dX6_cut_135 : decode cX6_cut 135 = .ok (.ireturn, 1) := by decide +kernel
theorem dX6_readLinks_0 : decode cX6_readLinks 0 = .ok (.aload_n 0, 1) := by decide +kernel
theorem dX6_readLinks_1 : decode cX6_readLinks 1 = .ok (.getfield 33, 3) := by decide +kernel
theorem dX6_readLinks_4 : decode cX6_readLinks 4 = .ok (.aload_n 0, 1) := by decide +kernel
theorem dX6_readLinks_5 : decode cX6_readLinks 5 = .ok (.getfield 37, 3) := by decide +kernel
theorem dX6_readLinks_8 : decode cX6_readLinks 8 = .ok (.invokevirtual 107, 3) := by decide +kernel
theorem dX6_readLinks_11 : decode cX6_readLinks 11 = .ok (.istore_n 1, 1) := by decide +kernel
theorem dX6_readLinks_12 : decode cX6_readLinks 12 = .ok (.iload_n 1, 1) := by decide +kernel
theorem dX6_readLinks_13 : decode cX6_readLinks 13 = .ok (.iconst (-1), 1) := by decide +kernel
theorem dX6_readLinks_14 : decode cX6_readLinks 14 = .ok (.if_icmp .eq 8, 3) := by decide +kernel
theorem dX6_readLinks_17 : decode cX6_readLinks 17 = .ok (.bipush (-100), 2) := by decide +kernel
theorem dX6_readLinks_19 : decode cX6_readLinks 19 = .ok (.iload_n 1, 1) := by decide +kernel
theorem dX6_readLinks_20 : decode cX6_readLinks 20 = .ok (.isub, 1) := by decide +kernel
theorem dX6_readLinks_21 : decode cX6_readLinks 21 = .ok (.ireturn, 1) := by decide +kernel
theorem dX6_readLinks_22 : decode cX6_readLinks 22 = .ok (.aload_n 0, 1) := by decide +kernel
theorem dX6_readLinks_23 : decode cX6_readLinks 23 = .ok (.getfield 10, 3) := by decide +kernel
theorem dX6_readLinks_26 : decode cX6_readLinks 26 = .ok (.invokevirtual 62, 3) := by decide +kernel
theorem dX6_readLinks_29 : decode cX6_readLinks 29 = .ok (.aload_n 0, 1) := by decide +kernel
theorem dX6_readLinks_30 : decode cX6_readLinks 30 = .ok (.getfield 37, 3) := by decide +kernel
theorem dX6_readLinks_33 : decode cX6_readLinks 33 = .ok (.invokevirtual 74, 3) := by decide +kernel
theorem dX6_readLinks_36 : decode cX6_readLinks 36 = .ok (.if_icmp .ge 6, 3) := by decide +kernel
theorem dX6_readLinks_39 : decode cX6_readLinks 39 = .ok (.bipush (-3), 2) := by decide +kernel
theorem dX6_readLinks_41 : decode cX6_readLinks 41 = .ok (.ireturn, 1) := by decide +kernel
theorem dX6_readLinks_42 : decode cX6_readLinks 42 = .ok (.aload_n 0, 1) := by decide +kernel
theorem dX6_readLinks_43 : decode cX6_readLinks 43 = .ok (.getfield 26, 3) := by decide +kernel
theorem dX6_readLinks_46 : decode cX6_readLinks 46 = .ok (.aload_n 0, 1) := by decide +kernel
theorem dX6_readLinks_47 : decode cX6_readLinks 47 = .ok (.getfield 10, 3) := by decide +kernel
theorem dX6_readLinks_50 : decode cX6_readLinks 50 = .ok (.invokevirtual 66, 3) := by decide +kernel
theorem dX6_readLinks_53 : decode cX6_readLinks 53 = .ok (.aload_n 0, 1) := by decide +kernel
theorem dX6_readLinks_54 : decode cX6_readLinks 54 = .ok (.getfield 10, 3) := by decide +kernel
theorem dX6_readLinks_57 : decode cX6_readLinks 57 = .ok (.aload_n 0, 1) := by decide +kernel
theorem dX6_readLinks_58 : decode cX6_readLinks 58 = .ok (.getfield 37, 3) := by decide +kernel
theorem dX6_readLinks_61 : decode cX6_readLinks 61 = .ok (.invokevirtual 111, 3) := by decide +kernel
theorem dX6_readLinks_64 : decode cX6_readLinks 64 = .ok (.aload_n 0, 1) := by decide +kernel
theorem dX6_readLinks_65 : decode cX6_readLinks 65 = .ok (.getfield 10, 3) := by decide +kernel
theorem dX6_readLinks_68 : decode cX6_readLinks 68 = .ok (.invokevirtual 74, 3) := by decide +kernel
theorem dX6_readLinks_71 : decode cX6_readLinks 71 = .ok (.ireturn, 1) := by decide +kernel
theorem dX6_clear_0 : decode cX6_clear 0 = .ok (.iload_n 1, 1) := by decide +kernel
theorem dX6_clear_1 : decode cX6_clear 1 = .ok (.invokestatic 95, 3) := by decide +kernel
theorem dX6_clear_4 : decode cX6_clear 4 = .ok (.ifCond .ne 5, 3) := by decide +kernel
theorem dX6_clear_7 : decode cX6_clear 7 = .ok (.iconst (-1), 1) := by decide +kernel
theorem dX6_clear_8 : decode cX6_clear 8 = .ok (.ireturn, 1) := by decide +kernel
theorem dX6_clear_9 : decode cX6_clear 9 = .ok (.aload_n 0, 1) := by decide +kernel
theorem dX6_clear_10 : decode cX6_clear 10 = .ok (.getfield 10, 3) := by decide +kernel
theorem dX6_clear_13 : decode cX6_clear 13 = .ok (.iload_n 1, 1) := by decide +kernel
theorem dX6_clear_14 : decode cX6_clear 14 = .ok (.invokevirtual 114, 3) := by decide +kernel
theorem dX6_clear_17 : decode cX6_clear 17 = .ok (.istore_n 2, 1) := by decide +kernel
theorem dX6_clear_18 : decode cX6_clear 18 = .ok (.iload_n 2, 1) := by decide +kernel
theorem dX6_clear_19 : decode cX6_clear 19 = .ok (.ifCond .ne 6, 3) := by decide +kernel
theorem dX6_clear_22 : decode cX6_clear 22 = .ok (.bipush (-5), 2) := by decide +kernel
theorem dX6_clear_24 : decode cX6_clear 24 = .ok (.ireturn, 1) := by decide +kernel
theorem dX6_clear_25 : decode cX6_clear 25 = .ok (.aload_n 0, 1) := by decide +kernel
theorem dX6_clear_26 : decode cX6_clear 26 = .ok (.getfield 26, 3) := by decide +kernel
theorem dX6_clear_29 : decode cX6_clear 29 = .ok (.aload_n 0, 1) := by decide +kernel
theorem dX6_clear_30 : decode cX6_clear 30 = .ok (.getfield 10, 3) := by decide +kernel
theorem dX6_clear_33 : decode cX6_clear 33 = .ok (.invokevirtual 66, 3) := by decide +kernel
theorem dX6_clear_36 : decode cX6_clear 36 = .ok (.aload_n 0, 1) := by decide +kernel
theorem dX6_clear_37 : decode cX6_clear 37 = .ok (.getfield 10, 3) := by decide +kernel
theorem dX6_clear_40 : decode cX6_clear 40 = .ok (.iload_n 1, 1) := by decide +kernel
theorem dX6_clear_41 : decode cX6_clear 41 = .ok (.invokevirtual 117, 3) := by decide +kernel
theorem dX6_clear_44 : decode cX6_clear 44 = .ok (.iload_n 2, 1) := by decide +kernel
theorem dX6_clear_45 : decode cX6_clear 45 = .ok (.ireturn, 1) := by decide +kernel
theorem dX6_type_0 : decode cX6_type 0 = .ok (.aload_n 0, 1) := by decide +kernel
theorem dX6_type_1 : decode cX6_type 1 = .ok (.getfield 33, 3) := by decide +kernel
theorem dX6_type_4 : decode cX6_type 4 = .ok (.invokevirtual 120, 3) := by decide +kernel
theorem dX6_type_7 : decode cX6_type 7 = .ok (.bipush 60, 2) := by decide +kernel
theorem dX6_type_9 : decode cX6_type 9 = .ok (.if_icmp .lt 6, 3) := by decide +kernel
theorem dX6_type_12 : decode cX6_type 12 = .ok (.bipush (-3), 2) := by decide +kernel
theorem dX6_type_14 : decode cX6_type 14 = .ok (.ireturn, 1) := by decide +kernel
theorem dX6_type_15 : decode cX6_type 15 = .ok (.aload_n 0, 1) := by decide +kernel
theorem dX6_type_16 : decode cX6_type 16 = .ok (.getfield 33, 3) := by decide +kernel
theorem dX6_type_19 : decode cX6_type 19 = .ok (.iload_n 1, 1) := by decide +kernel
theorem dX6_type_20 : decode cX6_type 20 = .ok (.invokevirtual 123, 3) := by decide +kernel
theorem dX6_type_23 : decode cX6_type 23 = .ok (.aload_n 0, 1) := by decide +kernel
theorem dX6_type_24 : decode cX6_type 24 = .ok (.getfield 33, 3) := by decide +kernel
theorem dX6_type_27 : decode cX6_type 27 = .ok (.invokevirtual 120, 3) := by decide +kernel
theorem dX6_type_30 : decode cX6_type 30 = .ok (.ireturn, 1) := by decide +kernel
theorem dX6_clearText_0 : decode cX6_clearText 0 = .ok (.aload_n 0, 1) := by decide +kernel
theorem dX6_clearText_1 : decode cX6_clearText 1 = .ok (.getfield 33, 3) := by decide +kernel
theorem dX6_clearText_4 : decode cX6_clearText 4 = .ok (.invokevirtual 120, 3) := by decide +kernel
theorem dX6_clearText_7 : decode cX6_clearText 7 = .ok (.istore_n 1, 1) := by decide +kernel
theorem dX6_clearText_8 : decode cX6_clearText 8 = .ok (.aload_n 0, 1) := by decide +kernel
theorem dX6_clearText_9 : decode cX6_clearText 9 = .ok (.getfield 33, 3) := by decide +kernel
theorem dX6_clearText_12 : decode cX6_clearText 12 = .ok (.invokevirtual 127, 3) := by decide +kernel
theorem dX6_clearText_15 : decode cX6_clearText 15 = .ok (.iload_n 1, 1) := by decide +kernel
theorem dX6_clearText_16 : decode cX6_clearText 16 = .ok (.ireturn, 1) := by decide +kernel
theorem dX6_undo_0 : decode cX6_undo 0 = .ok (.aload_n 0, 1) := by decide +kernel
theorem dX6_undo_1 : decode cX6_undo 1 = .ok (.getfield 26, 3) := by decide +kernel
theorem dX6_undo_4 : decode cX6_undo 4 = .ok (.invokevirtual 130, 3) := by decide +kernel
theorem dX6_undo_7 : decode cX6_undo 7 = .ok (.ifCond .ne 6, 3) := by decide +kernel
theorem dX6_undo_10 : decode cX6_undo 10 = .ok (.bipush (-5), 2) := by decide +kernel
theorem dX6_undo_12 : decode cX6_undo 12 = .ok (.ireturn, 1) := by decide +kernel
theorem dX6_undo_13 : decode cX6_undo 13 = .ok (.aload_n 0, 1) := by decide +kernel
theorem dX6_undo_14 : decode cX6_undo 14 = .ok (.getfield 26, 3) := by decide +kernel
theorem dX6_undo_17 : decode cX6_undo 17 = .ok (.aload_n 0, 1) := by decide +kernel
theorem dX6_undo_18 : decode cX6_undo 18 = .ok (.getfield 10, 3) := by decide +kernel
theorem dX6_undo_21 : decode cX6_undo 21 = .ok (.invokevirtual 131, 3) := by decide +kernel
theorem dX6_undo_24 : decode cX6_undo 24 = .ok (.aload_n 0, 1) := by decide +kernel
theorem dX6_undo_25 : decode cX6_undo 25 = .ok (.getfield 26, 3) := by decide +kernel
theorem dX6_undo_28 : decode cX6_undo 28 = .ok (.invokevirtual 130, 3) := by decide +kernel
theorem dX6_undo_31 : decode cX6_undo 31 = .ok (.ireturn, 1) := by decide +kernel
theorem dX6_keep_0 : decode cX6_keep 0 = .ok (.aload_n 0, 1) := by decide +kernel
theorem dX6_keep_1 : decode cX6_keep 1 = .ok (.getfield 16, 3) := by decide +kernel
theorem dX6_keep_4 : decode cX6_keep 4 = .ok (.aload_n 0, 1) := by decide +kernel
theorem dX6_keep_5 : decode cX6_keep 5 = .ok (.getfield 10, 3) := by decide +kernel
theorem dX6_keep_8 : decode cX6_keep 8 = .ok (.invokevirtual 134, 3) := by decide +kernel
theorem dX6_keep_11 : decode cX6_keep 11 = .ok (.aload_n 0, 1) := by decide +kernel
theorem dX6_keep_12 : decode cX6_keep 12 = .ok (.iconst 1, 1) := by decide +kernel
theorem dX6_keep_13 : decode cX6_keep 13 = .ok (.putfield 19, 3) := by decide +kernel
theorem dX6_keep_16 : decode cX6_keep 16 = .ok (.aload_n 0, 1) := by decide +kernel
theorem dX6_keep_17 : decode cX6_keep 17 = .ok (.getfield 10, 3) := by decide +kernel
theorem dX6_keep_20 : decode cX6_keep 20 = .ok (.invokevirtual 74, 3) := by decide +kernel
theorem dX6_keep_23 : decode cX6_keep 23 = .ok (.ireturn, 1) := by decide +kernel
theorem dX6_restore_0 : decode cX6_restore 0 = .ok (.aload_n 0, 1) := by decide +kernel
theorem dX6_restore_1 : decode cX6_restore 1 = .ok (.getfield 19, 3) := by decide +kernel
theorem dX6_restore_4 : decode cX6_restore 4 = .ok (.ifCond .ne 6, 3) := by decide +kernel
theorem dX6_restore_7 : decode cX6_restore 7 = .ok (.bipush (-5), 2) := by decide +kernel
theorem dX6_restore_9 : decode cX6_restore 9 = .ok (.ireturn, 1) := by decide +kernel
theorem dX6_restore_10 : decode cX6_restore 10 = .ok (.aload_n 0, 1) := by decide +kernel
theorem dX6_restore_11 : decode cX6_restore 11 = .ok (.getfield 26, 3) := by decide +kernel
theorem dX6_restore_14 : decode cX6_restore 14 = .ok (.aload_n 0, 1) := by decide +kernel
theorem dX6_restore_15 : decode cX6_restore 15 = .ok (.getfield 10, 3) := by decide +kernel
theorem dX6_restore_18 : decode cX6_restore 18 = .ok (.invokevirtual 66, 3) := by decide +kernel
theorem dX6_restore_21 : decode cX6_restore 21 = .ok (.aload_n 0, 1) := by decide +kernel
theorem dX6_restore_22 : decode cX6_restore 22 = .ok (.getfield 10, 3) := by decide +kernel
theorem dX6_restore_25 : decode cX6_restore 25 = .ok (.aload_n 0, 1) := by decide +kernel
theorem dX6_restore_26 : decode cX6_restore 26 = .ok (.getfield 16, 3) := by decide +kernel
theorem dX6_restore_29 : decode cX6_restore 29 = .ok (.invokevirtual 134, 3) := by decide +kernel
theorem dX6_restore_32 : decode cX6_restore 32 = .ok (.aload_n 0, 1) := by decide +kernel
theorem dX6_restore_33 : decode cX6_restore 33 = .ok (.getfield 10, 3) := by decide +kernel
theorem dX6_restore_36 : decode cX6_restore 36 = .ok (.invokevirtual 74, 3) := by decide +kernel
theorem dX6_restore_39 : decode cX6_restore 39 = .ok (.ireturn, 1) := by decide +kernel
theorem dX6_link_0 : decode cX6_link 0 = .ok (.aload_n 0, 1) := by decide +kernel
theorem dX6_link_1 : decode cX6_link 1 = .ok (.getfield 10, 3) := by decide +kernel
theorem dX6_link_4 : decode cX6_link 4 = .ok (.iload_n 1, 1) := by decide +kernel
theorem dX6_link_5 : decode cX6_link 5 = .ok (.invokevirtual 77, 3) := by decide +kernel
theorem dX6_link_8 : decode cX6_link 8 = .ok (.ifCond .ne 5, 3) := by decide +kernel
theorem dX6_link_11 : decode cX6_link 11 = .ok (.iconst (-1), 1) := by decide +kernel
theorem dX6_link_12 : decode cX6_link 12 = .ok (.ireturn, 1) := by decide +kernel
theorem dX6_link_13 : decode cX6_link 13 = .ok (.iload_n 2, 1) := by decide +kernel
theorem dX6_link_14 : decode cX6_link 14 = .ok (.tableswitch 96 0 5 #[38, 47, 56, 65, 74, 83], 38) := by decide +kernel
theorem dX6_link_52 : decode cX6_link 52 = .ok (.aload_n 0, 1) := by decide +kernel
theorem dX6_link_53 : decode cX6_link 53 = .ok (.getfield 10, 3) := by decide +kernel
theorem dX6_link_56 : decode cX6_link 56 = .ok (.iload_n 1, 1) := by decide +kernel
theorem dX6_link_57 : decode cX6_link 57 = .ok (.invokevirtual 101, 3) := by decide +kernel
theorem dX6_link_60 : decode cX6_link 60 = .ok (.ireturn, 1) := by decide +kernel
theorem dX6_link_61 : decode cX6_link 61 = .ok (.aload_n 0, 1) := by decide +kernel
theorem dX6_link_62 : decode cX6_link 62 = .ok (.getfield 10, 3) := by decide +kernel
theorem dX6_link_65 : decode cX6_link 65 = .ok (.iload_n 1, 1) := by decide +kernel
theorem dX6_link_66 : decode cX6_link 66 = .ok (.invokevirtual 104, 3) := by decide +kernel
theorem dX6_link_69 : decode cX6_link 69 = .ok (.ireturn, 1) := by decide +kernel
theorem dX6_link_70 : decode cX6_link 70 = .ok (.aload_n 0, 1) := by decide +kernel
theorem dX6_link_71 : decode cX6_link 71 = .ok (.getfield 10, 3) := by decide +kernel
theorem dX6_link_74 : decode cX6_link 74 = .ok (.iload_n 1, 1) := by decide +kernel
theorem dX6_link_75 : decode cX6_link 75 = .ok (.invokevirtual 84, 3) := by decide +kernel
theorem dX6_link_78 : decode cX6_link 78 = .ok (.ireturn, 1) := by decide +kernel
theorem dX6_link_79 : decode cX6_link 79 = .ok (.aload_n 0, 1) := by decide +kernel
theorem dX6_link_80 : decode cX6_link 80 = .ok (.getfield 10, 3) := by decide +kernel
theorem dX6_link_83 : decode cX6_link 83 = .ok (.iload_n 1, 1) := by decide +kernel
theorem dX6_link_84 : decode cX6_link 84 = .ok (.invokevirtual 88, 3) := by decide +kernel
theorem dX6_link_87 : decode cX6_link 87 = .ok (.ireturn, 1) := by decide +kernel
theorem dX6_link_88 : decode cX6_link 88 = .ok (.aload_n 0, 1) := by decide +kernel
theorem dX6_link_89 : decode cX6_link 89 = .ok (.getfield 10, 3) := by decide +kernel
theorem dX6_link_92 : decode cX6_link 92 = .ok (.iload_n 1, 1) := by decide +kernel
theorem dX6_link_93 : decode cX6_link 93 = .ok (.invokevirtual 137, 3) := by decide +kernel
theorem dX6_link_96 : decode cX6_link 96 = .ok (.ireturn, 1) := by decide +kernel
theorem dX6_link_97 : decode cX6_link 97 = .ok (.aload_n 0, 1) := by decide +kernel
theorem dX6_link_98 : decode cX6_link 98 = .ok (.getfield 43, 3) := by decide +kernel
theorem dX6_link_101 : decode cX6_link 101 = .ok (.aload_n 0, 1) := by decide +kernel
theorem dX6_link_102 : decode cX6_link 102 = .ok (.getfield 10, 3) := by decide +kernel
theorem dX6_link_105 : decode cX6_link 105 = .ok (.iload_n 1, 1) := by decide +kernel
theorem dX6_link_106 : decode cX6_link 106 = .ok (.invokevirtual 140, 3) := by decide +kernel
theorem dX6_link_109 : decode cX6_link 109 = .ok (.ireturn, 1) := by decide +kernel
theorem dX6_link_110 : decode cX6_link 110 = .ok (.bipush (-2), 2) := by decide +kernel
theorem dX6_link_112 : decode cX6_link 112 = .ok (.ireturn, 1) := by decide +kernel
theorem dX6_joined_0 : decode cX6_joined 0 = .ok (.iload_n 1, 1) := by decide +kernel
theorem dX6_joined_1 : decode cX6_joined 1 = .ok (.invokestatic 95, 3) := by decide +kernel
theorem dX6_joined_4 : decode cX6_joined 4 = .ok (.ifCond .eq 17, 3) := by decide +kernel
theorem dX6_joined_7 : decode cX6_joined 7 = .ok (.iload_n 2, 1) := by decide +kernel
theorem dX6_joined_8 : decode cX6_joined 8 = .ok (.invokestatic 54, 3) := by decide +kernel
theorem dX6_joined_11 : decode cX6_joined 11 = .ok (.ifCond .eq 10, 3) := by decide +kernel
theorem dX6_joined_14 : decode cX6_joined 14 = .ok (.iload_n 3, 1) := by decide +kernel
theorem dX6_joined_15 : decode cX6_joined 15 = .ok (.invokestatic 54, 3) := by decide +kernel
theorem dX6_joined_18 : decode cX6_joined 18 = .ok (.ifCond .ne 5, 3) := by decide +kernel
theorem dX6_joined_21 : decode cX6_joined 21 = .ok (.iconst (-1), 1) := by decide +kernel
theorem dX6_joined_22 : decode cX6_joined 22 = .ok (.ireturn, 1) := by decide +kernel
theorem dX6_joined_23 : decode cX6_joined 23 = .ok (.aload_n 0, 1) := by decide +kernel
theorem dX6_joined_24 : decode cX6_joined 24 = .ok (.getfield 43, 3) := by decide +kernel
theorem dX6_joined_27 : decode cX6_joined 27 = .ok (.aload_n 0, 1) := by decide +kernel
theorem dX6_joined_28 : decode cX6_joined 28 = .ok (.getfield 10, 3) := by decide +kernel
theorem dX6_joined_31 : decode cX6_joined 31 = .ok (.iload_n 1, 1) := by decide +kernel
theorem dX6_joined_32 : decode cX6_joined 32 = .ok (.iload_n 2, 1) := by decide +kernel
theorem dX6_joined_33 : decode cX6_joined 33 = .ok (.iload_n 3, 1) := by decide +kernel
theorem dX6_joined_34 : decode cX6_joined 34 = .ok (.invokevirtual 144, 3) := by decide +kernel
theorem dX6_joined_37 : decode cX6_joined 37 = .ok (.invokestatic 148, 3) := by decide +kernel
theorem dX6_joined_40 : decode cX6_joined 40 = .ok (.ireturn, 1) := by decide +kernel
theorem dX6_moment_0 : decode cX6_moment 0 = .ok (.iload_n 1, 1) := by decide +kernel
theorem dX6_moment_1 : decode cX6_moment 1 = .ok (.invokestatic 95, 3) := by decide +kernel
theorem dX6_moment_4 : decode cX6_moment 4 = .ok (.ifCond .ne 5, 3) := by decide +kernel
theorem dX6_moment_7 : decode cX6_moment 7 = .ok (.iconst (-1), 1) := by decide +kernel
theorem dX6_moment_8 : decode cX6_moment 8 = .ok (.ireturn, 1) := by decide +kernel
theorem dX6_moment_9 : decode cX6_moment 9 = .ok (.iload_n 2, 1) := by decide +kernel
theorem dX6_moment_10 : decode cX6_moment 10 = .ok (.tableswitch 115 0 5 #[38, 47, 60, 76, 89, 102], 38) := by decide +kernel
theorem dX6_moment_48 : decode cX6_moment 48 = .ok (.aload_n 0, 1) := by decide +kernel
theorem dX6_moment_49 : decode cX6_moment 49 = .ok (.getfield 10, 3) := by decide +kernel
theorem dX6_moment_52 : decode cX6_moment 52 = .ok (.iload_n 1, 1) := by decide +kernel
theorem dX6_moment_53 : decode cX6_moment 53 = .ok (.invokevirtual 114, 3) := by decide +kernel
theorem dX6_moment_56 : decode cX6_moment 56 = .ok (.ireturn, 1) := by decide +kernel
theorem dX6_moment_57 : decode cX6_moment 57 = .ok (.aload_n 0, 1) := by decide +kernel
theorem dX6_moment_58 : decode cX6_moment 58 = .ok (.getfield 43, 3) := by decide +kernel
theorem dX6_moment_61 : decode cX6_moment 61 = .ok (.aload_n 0, 1) := by decide +kernel
theorem dX6_moment_62 : decode cX6_moment 62 = .ok (.getfield 10, 3) := by decide +kernel
theorem dX6_moment_65 : decode cX6_moment 65 = .ok (.iload_n 1, 1) := by decide +kernel
theorem dX6_moment_66 : decode cX6_moment 66 = .ok (.invokevirtual 152, 3) := by decide +kernel
theorem dX6_moment_69 : decode cX6_moment 69 = .ok (.ireturn, 1) := by decide +kernel
theorem dX6_moment_70 : decode cX6_moment 70 = .ok (.aload_n 0, 1) := by decide +kernel
theorem dX6_moment_71 : decode cX6_moment 71 = .ok (.getfield 43, 3) := by decide +kernel
theorem dX6_moment_74 : decode cX6_moment 74 = .ok (.aload_n 0, 1) := by decide +kernel
theorem dX6_moment_75 : decode cX6_moment 75 = .ok (.getfield 10, 3) := by decide +kernel
theorem dX6_moment_78 : decode cX6_moment 78 = .ok (.iload_n 1, 1) := by decide +kernel
theorem dX6_moment_79 : decode cX6_moment 79 = .ok (.invokevirtual 155, 3) := by decide +kernel
theorem dX6_moment_82 : decode cX6_moment 82 = .ok (.invokestatic 148, 3) := by decide +kernel
theorem dX6_moment_85 : decode cX6_moment 85 = .ok (.ireturn, 1) := by decide +kernel
theorem dX6_moment_86 : decode cX6_moment 86 = .ok (.aload_n 0, 1) := by decide +kernel
theorem dX6_moment_87 : decode cX6_moment 87 = .ok (.getfield 43, 3) := by decide +kernel
theorem dX6_moment_90 : decode cX6_moment 90 = .ok (.aload_n 0, 1) := by decide +kernel
theorem dX6_moment_91 : decode cX6_moment 91 = .ok (.getfield 10, 3) := by decide +kernel
theorem dX6_moment_94 : decode cX6_moment 94 = .ok (.iload_n 1, 1) := by decide +kernel
theorem dX6_moment_95 : decode cX6_moment 95 = .ok (.invokevirtual 159, 3) := by decide +kernel
theorem dX6_moment_98 : decode cX6_moment 98 = .ok (.ireturn, 1) := by decide +kernel
theorem dX6_moment_99 : decode cX6_moment 99 = .ok (.aload_n 0, 1) := by decide +kernel
theorem dX6_moment_100 : decode cX6_moment 100 = .ok (.getfield 43, 3) := by decide +kernel
theorem dX6_moment_103 : decode cX6_moment 103 = .ok (.aload_n 0, 1) := by decide +kernel
theorem dX6_moment_104 : decode cX6_moment 104 = .ok (.getfield 10, 3) := by decide +kernel
theorem dX6_moment_107 : decode cX6_moment 107 = .ok (.iload_n 1, 1) := by decide +kernel
theorem dX6_moment_108 : decode cX6_moment 108 = .ok (.invokevirtual 162, 3) := by decide +kernel
theorem dX6_moment_111 : decode cX6_moment 111 = .ok (.ireturn, 1) := by decide +kernel
theorem dX6_moment_112 : decode cX6_moment 112 = .ok (.aload_n 0, 1) := by decide +kernel
theorem dX6_moment_113 : decode cX6_moment 113 = .ok (.getfield 43, 3) := by decide +kernel
theorem dX6_moment_116 : decode cX6_moment 116 = .ok (.aload_n 0, 1) := by decide +kernel
theorem dX6_moment_117 : decode cX6_moment 117 = .ok (.getfield 10, 3) := by decide +kernel
theorem dX6_moment_120 : decode cX6_moment 120 = .ok (.iload_n 1, 1) := by decide +kernel
theorem dX6_moment_121 : decode cX6_moment 121 = .ok (.invokevirtual 165, 3) := by decide +kernel
theorem dX6_moment_124 : decode cX6_moment 124 = .ok (.ireturn, 1) := by decide +kernel
theorem dX6_moment_125 : decode cX6_moment 125 = .ok (.bipush (-2), 2) := by decide +kernel
theorem dX6_moment_127 : decode cX6_moment 127 = .ok (.ireturn, 1) := by decide +kernel
theorem dX6_part_0 : decode cX6_part 0 = .ok (.iload_n 1, 1) := by decide +kernel
theorem dX6_part_1 : decode cX6_part 1 = .ok (.invokestatic 95, 3) := by decide +kernel
theorem dX6_part_4 : decode cX6_part 4 = .ok (.ifCond .eq 10, 3) := by decide +kernel
theorem dX6_part_7 : decode cX6_part 7 = .ok (.iload_n 2, 1) := by decide +kernel
theorem dX6_part_8 : decode cX6_part 8 = .ok (.invokestatic 54, 3) := by decide +kernel
theorem dX6_part_11 : decode cX6_part 11 = .ok (.ifCond .ne 5, 3) := by decide +kernel
theorem dX6_part_14 : decode cX6_part 14 = .ok (.iconst (-1), 1) := by decide +kernel
theorem dX6_part_15 : decode cX6_part 15 = .ok (.ireturn, 1) := by decide +kernel
theorem dX6_part_16 : decode cX6_part 16 = .ok (.iload_n 3, 1) := by decide +kernel
theorem dX6_part_17 : decode cX6_part 17 = .ok (.tableswitch 69 0 2 #[27, 41, 55], 27) := by decide +kernel
theorem dX6_part_44 : decode cX6_part 44 = .ok (.aload_n 0, 1) := by decide +kernel
theorem dX6_part_45 : decode cX6_part 45 = .ok (.getfield 43, 3) := by decide +kernel
theorem dX6_part_48 : decode cX6_part 48 = .ok (.aload_n 0, 1) := by decide +kernel
theorem dX6_part_49 : decode cX6_part 49 = .ok (.getfield 10, 3) := by decide +kernel
theorem dX6_part_52 : decode cX6_part 52 = .ok (.iload_n 1, 1) := by decide +kernel
theorem dX6_part_53 : decode cX6_part 53 = .ok (.iload_n 2, 1) := by decide +kernel
theorem dX6_part_54 : decode cX6_part 54 = .ok (.invokevirtual 168, 3) := by decide +kernel
theorem dX6_part_57 : decode cX6_part 57 = .ok (.ireturn, 1) := by decide +kernel
theorem dX6_part_58 : decode cX6_part 58 = .ok (.aload_n 0, 1) := by decide +kernel
theorem dX6_part_59 : decode cX6_part 59 = .ok (.getfield 43, 3) := by decide +kernel
theorem dX6_part_62 : decode cX6_part 62 = .ok (.aload_n 0, 1) := by decide +kernel
theorem dX6_part_63 : decode cX6_part 63 = .ok (.getfield 10, 3) := by decide +kernel
theorem dX6_part_66 : decode cX6_part 66 = .ok (.iload_n 1, 1) := by decide +kernel
theorem dX6_part_67 : decode cX6_part 67 = .ok (.iload_n 2, 1) := by decide +kernel
theorem dX6_part_68 : decode cX6_part 68 = .ok (.invokevirtual 172, 3) := by decide +kernel
theorem dX6_part_71 : decode cX6_part 71 = .ok (.ireturn, 1) := by decide +kernel
theorem dX6_part_72 : decode cX6_part 72 = .ok (.aload_n 0, 1) := by decide +kernel
theorem dX6_part_73 : decode cX6_part 73 = .ok (.getfield 43, 3) := by decide +kernel
theorem dX6_part_76 : decode cX6_part 76 = .ok (.aload_n 0, 1) := by decide +kernel
theorem dX6_part_77 : decode cX6_part 77 = .ok (.getfield 10, 3) := by decide +kernel
theorem dX6_part_80 : decode cX6_part 80 = .ok (.iload_n 1, 1) := by decide +kernel
theorem dX6_part_81 : decode cX6_part 81 = .ok (.iload_n 2, 1) := by decide +kernel
theorem dX6_part_82 : decode cX6_part 82 = .ok (.invokevirtual 175, 3) := by decide +kernel
theorem dX6_part_85 : decode cX6_part 85 = .ok (.ireturn, 1) := by decide +kernel
theorem dX6_part_86 : decode cX6_part 86 = .ok (.bipush (-2), 2) := by decide +kernel
theorem dX6_part_88 : decode cX6_part 88 = .ok (.ireturn, 1) := by decide +kernel
theorem dX6_needed_0 : decode cX6_needed 0 = .ok (.aload_n 0, 1) := by decide +kernel
theorem dX6_needed_1 : decode cX6_needed 1 = .ok (.getfield 10, 3) := by decide +kernel
theorem dX6_needed_4 : decode cX6_needed 4 = .ok (.iload_n 1, 1) := by decide +kernel
theorem dX6_needed_5 : decode cX6_needed 5 = .ok (.invokevirtual 77, 3) := by decide +kernel
theorem dX6_needed_8 : decode cX6_needed 8 = .ok (.ifCond .eq 10, 3) := by decide +kernel
theorem dX6_needed_11 : decode cX6_needed 11 = .ok (.iload_n 2, 1) := by decide +kernel
theorem dX6_needed_12 : decode cX6_needed 12 = .ok (.invokestatic 95, 3) := by decide +kernel
theorem dX6_needed_15 : decode cX6_needed 15 = .ok (.ifCond .ne 5, 3) := by decide +kernel
theorem dX6_needed_18 : decode cX6_needed 18 = .ok (.iconst (-1), 1) := by decide +kernel
theorem dX6_needed_19 : decode cX6_needed 19 = .ok (.ireturn, 1) := by decide +kernel
theorem dX6_needed_20 : decode cX6_needed 20 = .ok (.aload_n 0, 1) := by decide +kernel
theorem dX6_needed_21 : decode cX6_needed 21 = .ok (.getfield 10, 3) := by decide +kernel
theorem dX6_needed_24 : decode cX6_needed 24 = .ok (.iload_n 1, 1) := by decide +kernel
theorem dX6_needed_25 : decode cX6_needed 25 = .ok (.iload_n 2, 1) := by decide +kernel
theorem dX6_needed_26 : decode cX6_needed 26 = .ok (.invokevirtual 98, 3) := by decide +kernel
theorem dX6_needed_29 : decode cX6_needed 29 = .ok (.ifCond .ne 6, 3) := by decide +kernel
theorem dX6_needed_32 : decode cX6_needed 32 = .ok (.bipush (-5), 2) := by decide +kernel
theorem dX6_needed_34 : decode cX6_needed 34 = .ok (.ireturn, 1) := by decide +kernel
theorem dX6_needed_35 : decode cX6_needed 35 = .ok (.aload_n 0, 1) := by decide +kernel
theorem dX6_needed_36 : decode cX6_needed 36 = .ok (.getfield 43, 3) := by decide +kernel
theorem dX6_needed_39 : decode cX6_needed 39 = .ok (.aload_n 0, 1) := by decide +kernel
theorem dX6_needed_40 : decode cX6_needed 40 = .ok (.getfield 10, 3) := by decide +kernel
theorem dX6_needed_43 : decode cX6_needed 43 = .ok (.iload_n 1, 1) := by decide +kernel
theorem dX6_needed_44 : decode cX6_needed 44 = .ok (.iload_n 2, 1) := by decide +kernel
theorem dX6_needed_45 : decode cX6_needed 45 = .ok (.invokevirtual 178, 3) := by decide +kernel
theorem dX6_needed_48 : decode cX6_needed 48 = .ok (.invokestatic 148, 3) := by decide +kernel
theorem dX6_needed_51 : decode cX6_needed 51 = .ok (.ireturn, 1) := by decide +kernel
theorem dX6_together_0 : decode cX6_together 0 = .ok (.iload_n 1, 1) := by decide +kernel
theorem dX6_together_1 : decode cX6_together 1 = .ok (.invokestatic 54, 3) := by decide +kernel
theorem dX6_together_4 : decode cX6_together 4 = .ok (.ifCond .eq 10, 3) := by decide +kernel
theorem dX6_together_7 : decode cX6_together 7 = .ok (.iload_n 2, 1) := by decide +kernel
theorem dX6_together_8 : decode cX6_together 8 = .ok (.invokestatic 54, 3) := by decide +kernel
theorem dX6_together_11 : decode cX6_together 11 = .ok (.ifCond .ne 5, 3) := by decide +kernel
theorem dX6_together_14 : decode cX6_together 14 = .ok (.iconst (-1), 1) := by decide +kernel
theorem dX6_together_15 : decode cX6_together 15 = .ok (.ireturn, 1) := by decide +kernel
theorem dX6_together_16 : decode cX6_together 16 = .ok (.iconst 0, 1) := by decide +kernel
theorem dX6_together_17 : decode cX6_together 17 = .ok (.istore 4, 2) := by decide +kernel
theorem dX6_together_19 : decode cX6_together 19 = .ok (.bipush (-5), 2) := by decide +kernel
theorem dX6_together_21 : decode cX6_together 21 = .ok (.istore 5, 2) := by decide +kernel
theorem dX6_together_23 : decode cX6_together 23 = .ok (.bipush (-5), 2) := by decide +kernel
theorem dX6_together_25 : decode cX6_together 25 = .ok (.istore 6, 2) := by decide +kernel
theorem dX6_together_27 : decode cX6_together 27 = .ok (.iconst 0, 1) := by decide +kernel
theorem dX6_together_28 : decode cX6_together 28 = .ok (.istore 7, 2) := by decide +kernel
theorem dX6_together_30 : decode cX6_together 30 = .ok (.iconst 0, 1) := by decide +kernel
theorem dX6_together_31 : decode cX6_together 31 = .ok (.istore 8, 2) := by decide +kernel
theorem dX6_together_33 : decode cX6_together 33 = .ok (.bipush (-5), 2) := by decide +kernel
theorem dX6_together_35 : decode cX6_together 35 = .ok (.istore 9, 2) := by decide +kernel
theorem dX6_together_37 : decode cX6_together 37 = .ok (.iconst 0, 1) := by decide +kernel
theorem dX6_together_38 : decode cX6_together 38 = .ok (.istore 10, 2) := by decide +kernel
theorem dX6_together_40 : decode cX6_together 40 = .ok (.iload 10, 2) := by decide +kernel
theorem dX6_together_42 : decode cX6_together 42 = .ok (.bipush 64, 2) := by decide +kernel
theorem dX6_together_44 : decode cX6_together 44 = .ok (.if_icmp .ge 72, 3) := by decide +kernel
theorem dX6_together_47 : decode cX6_together 47 = .ok (.aload_n 0, 1) := by decide +kernel
theorem dX6_together_48 : decode cX6_together 48 = .ok (.getfield 43, 3) := by decide +kernel
theorem dX6_together_51 : decode cX6_together 51 = .ok (.aload_n 0, 1) := by decide +kernel
theorem dX6_together_52 : decode cX6_together 52 = .ok (.getfield 10, 3) := by decide +kernel
theorem dX6_together_55 : decode cX6_together 55 = .ok (.iload 10, 2) := by decide +kernel
theorem dX6_together_57 : decode cX6_together 57 = .ok (.iload_n 1, 1) := by decide +kernel
theorem dX6_together_58 : decode cX6_together 58 = .ok (.iload_n 2, 1) := by decide +kernel
theorem dX6_together_59 : decode cX6_together 59 = .ok (.invokevirtual 144, 3) := by decide +kernel
theorem dX6_together_62 : decode cX6_together 62 = .ok (.ifCond .eq 25, 3) := by decide +kernel
theorem dX6_together_65 : decode cX6_together 65 = .ok (.iload 4, 2) := by decide +kernel
theorem dX6_together_67 : decode cX6_together 67 = .ok (.ifCond .ne 7, 3) := by decide +kernel
theorem dX6_together_70 : decode cX6_together 70 = .ok (.iload 10, 2) := by decide +kernel
theorem dX6_together_72 : decode cX6_together 72 = .ok (.istore 5, 2) := by decide +kernel
theorem dX6_together_74 : decode cX6_together 74 = .ok (.iinc 4 1, 3) := by decide +kernel
theorem dX6_together_77 : decode cX6_together 77 = .ok (.iload 10, 2) := by decide +kernel
theorem dX6_together_79 : decode cX6_together 79 = .ok (.istore 6, 2) := by decide +kernel
theorem dX6_together_81 : decode cX6_together 81 = .ok (.iinc 7 1, 3) := by decide +kernel
theorem dX6_together_84 : decode cX6_together 84 = .ok (.goto 6, 3) := by decide +kernel
theorem dX6_together_87 : decode cX6_together 87 = .ok (.iconst 0, 1) := by decide +kernel
theorem dX6_together_88 : decode cX6_together 88 = .ok (.istore 7, 2) := by decide +kernel
theorem dX6_together_90 : decode cX6_together 90 = .ok (.iload 7, 2) := by decide +kernel
theorem dX6_together_92 : decode cX6_together 92 = .ok (.iload 8, 2) := by decide +kernel
theorem dX6_together_94 : decode cX6_together 94 = .ok (.if_icmp .le 16, 3) := by decide +kernel
theorem dX6_together_97 : decode cX6_together 97 = .ok (.iload 7, 2) := by decide +kernel
theorem dX6_together_99 : decode cX6_together 99 = .ok (.istore 8, 2) := by decide +kernel
theorem dX6_together_101 : decode cX6_together 101 = .ok (.iload 10, 2) := by decide +kernel
theorem dX6_together_103 : decode cX6_together 103 = .ok (.iload 7, 2) := by decide +kernel
theorem dX6_together_105 : decode cX6_together 105 = .ok (.isub, 1) := by decide +kernel
theorem dX6_together_106 : decode cX6_together 106 = .ok (.iconst 1, 1) := by decide +kernel
theorem dX6_together_107 : decode cX6_together 107 = .ok (.iadd, 1) := by decide +kernel
theorem dX6_together_108 : decode cX6_together 108 = .ok (.istore 9, 2) := by decide +kernel
theorem dX6_together_110 : decode cX6_together 110 = .ok (.iinc 10 1, 3) := by decide +kernel
theorem dX6_together_113 : decode cX6_together 113 = .ok (.goto (-73), 3) := by decide +kernel
theorem dX6_together_116 : decode cX6_together 116 = .ok (.iload_n 3, 1) := by decide +kernel
theorem dX6_together_117 : decode cX6_together 117 = .ok (.tableswitch 50 0 4 #[35, 38, 41, 44, 47], 35) := by decide +kernel
theorem dX6_together_152 : decode cX6_together 152 = .ok (.iload 4, 2) := by decide +kernel
theorem dX6_together_154 : decode cX6_together 154 = .ok (.ireturn, 1) := by decide +kernel
theorem dX6_together_155 : decode cX6_together 155 = .ok (.iload 5, 2) := by decide +kernel
theorem dX6_together_157 : decode cX6_together 157 = .ok (.ireturn, 1) := by decide +kernel
theorem dX6_together_158 : decode cX6_together 158 = .ok (.iload 6, 2) := by decide +kernel
theorem dX6_together_160 : decode cX6_together 160 = .ok (.ireturn, 1) := by decide +kernel
theorem dX6_together_161 : decode cX6_together 161 = .ok (.iload 8, 2) := by decide +kernel
theorem dX6_together_163 : decode cX6_together 163 = .ok (.ireturn, 1) := by decide +kernel
theorem dX6_together_164 : decode cX6_together 164 = .ok (.iload 9, 2) := by decide +kernel
theorem dX6_together_166 : decode cX6_together 166 = .ok (.ireturn, 1) := by decide +kernel
theorem dX6_together_167 : decode cX6_together 167 = .ok (.bipush (-2), 2) := by decide +kernel
theorem dX6_together_169 : decode cX6_together 169 = .ok (.ireturn, 1) := by decide +kernel
theorem dX6_odd_0 : decode cX6_odd 0 = .ok (.iload_n 1, 1) := by decide +kernel
theorem dX6_odd_1 : decode cX6_odd 1 = .ok (.invokestatic 95, 3) := by decide +kernel
theorem dX6_odd_4 : decode cX6_odd 4 = .ok (.ifCond .ne 5, 3) := by decide +kernel
theorem dX6_odd_7 : decode cX6_odd 7 = .ok (.iconst (-1), 1) := by decide +kernel
theorem dX6_odd_8 : decode cX6_odd 8 = .ok (.ireturn, 1) := by decide +kernel
theorem dX6_odd_9 : decode cX6_odd 9 = .ok (.iload_n 1, 1) := by decide +kernel
theorem dX6_odd_10 : decode cX6_odd 10 = .ok (.istore_n 2, 1) := by decide +kernel
theorem dX6_odd_11 : decode cX6_odd 11 = .ok (.iload_n 2, 1) := by decide +kernel
theorem dX6_odd_12 : decode cX6_odd 12 = .ok (.bipush 64, 2) := by decide +kernel
theorem dX6_odd_14 : decode cX6_odd 14 = .ok (.if_icmp .ge 26, 3) := by decide +kernel
theorem dX6_odd_17 : decode cX6_odd 17 = .ok (.aload_n 0, 1) := by decide +kernel
theorem dX6_odd_18 : decode cX6_odd 18 = .ok (.getfield 43, 3) := by decide +kernel
theorem dX6_odd_21 : decode cX6_odd 21 = .ok (.aload_n 0, 1) := by decide +kernel
theorem dX6_odd_22 : decode cX6_odd 22 = .ok (.getfield 10, 3) := by decide +kernel
theorem dX6_odd_25 : decode cX6_odd 25 = .ok (.iload_n 2, 1) := by decide +kernel
theorem dX6_odd_26 : decode cX6_odd 26 = .ok (.invokevirtual 155, 3) := by decide +kernel
theorem dX6_odd_29 : decode cX6_odd 29 = .ok (.ifCond .eq 5, 3) := by decide +kernel
theorem dX6_odd_32 : decode cX6_odd 32 = .ok (.iload_n 2, 1) := by decide +kernel
theorem dX6_odd_33 : decode cX6_odd 33 = .ok (.ireturn, 1) := by decide +kernel
theorem dX6_odd_34 : decode cX6_odd 34 = .ok (.iinc 2 1, 3) := by decide +kernel
theorem dX6_odd_37 : decode cX6_odd 37 = .ok (.goto (-26), 3) := by decide +kernel
theorem dX6_odd_40 : decode cX6_odd 40 = .ok (.bipush (-5), 2) := by decide +kernel
theorem dX6_odd_42 : decode cX6_odd 42 = .ok (.ireturn, 1) := by decide +kernel
theorem dX6_span_0 : decode cX6_span 0 = .ok (.iload_n 1, 1) := by decide +kernel
theorem dX6_span_1 : decode cX6_span 1 = .ok (.invokestatic 95, 3) := by decide +kernel
theorem dX6_span_4 : decode cX6_span 4 = .ok (.ifCond .ne 5, 3) := by decide +kernel
theorem dX6_span_7 : decode cX6_span 7 = .ok (.iconst (-1), 1) := by decide +kernel
theorem dX6_span_8 : decode cX6_span 8 = .ok (.ireturn, 1) := by decide +kernel
theorem dX6_span_9 : decode cX6_span 9 = .ok (.iload_n 2, 1) := by decide +kernel
theorem dX6_span_10 : decode cX6_span 10 = .ok (.ifCond .lt 9, 3) := by decide +kernel
theorem dX6_span_13 : decode cX6_span 13 = .ok (.iload_n 2, 1) := by decide +kernel
theorem dX6_span_14 : decode cX6_span 14 = .ok (.bipush 6, 2) := by decide +kernel
theorem dX6_span_16 : decode cX6_span 16 = .ok (.if_icmp .le 6, 3) := by decide +kernel
theorem dX6_span_19 : decode cX6_span 19 = .ok (.bipush (-2), 2) := by decide +kernel
theorem dX6_span_21 : decode cX6_span 21 = .ok (.ireturn, 1) := by decide +kernel
theorem dX6_span_22 : decode cX6_span 22 = .ok (.aload_n 0, 1) := by decide +kernel
theorem dX6_span_23 : decode cX6_span 23 = .ok (.getfield 50, 3) := by decide +kernel
theorem dX6_span_26 : decode cX6_span 26 = .ok (.aload_n 0, 1) := by decide +kernel
theorem dX6_span_27 : decode cX6_span 27 = .ok (.getfield 10, 3) := by decide +kernel
theorem dX6_span_30 : decode cX6_span 30 = .ok (.iload_n 1, 1) := by decide +kernel
theorem dX6_span_31 : decode cX6_span 31 = .ok (.iload_n 2, 1) := by decide +kernel
theorem dX6_span_32 : decode cX6_span 32 = .ok (.invokevirtual 182, 3) := by decide +kernel
theorem dX6_span_35 : decode cX6_span 35 = .ok (.iload_n 3, 1) := by decide +kernel
theorem dX6_span_36 : decode cX6_span 36 = .ok (.tableswitch 79 0 4 #[36, 42, 47, 55, 63], 36) := by decide +kernel
theorem dX6_span_72 : decode cX6_span 72 = .ok (.iload_n 1, 1) := by decide +kernel
theorem dX6_span_73 : decode cX6_span 73 = .ok (.iload_n 2, 1) := by decide +kernel
theorem dX6_span_74 : decode cX6_span 74 = .ok (.invokestatic 186, 3) := by decide +kernel
theorem dX6_span_77 : decode cX6_span 77 = .ok (.ireturn, 1) := by decide +kernel
theorem dX6_span_78 : decode cX6_span 78 = .ok (.iload_n 2, 1) := by decide +kernel
theorem dX6_span_79 : decode cX6_span 79 = .ok (.invokestatic 190, 3) := by decide +kernel
theorem dX6_span_82 : decode cX6_span 82 = .ok (.ireturn, 1) := by decide +kernel
theorem dX6_span_83 : decode cX6_span 83 = .ok (.aload_n 0, 1) := by decide +kernel
theorem dX6_span_84 : decode cX6_span 84 = .ok (.getfield 50, 3) := by decide +kernel
theorem dX6_span_87 : decode cX6_span 87 = .ok (.invokevirtual 193, 3) := by decide +kernel
theorem dX6_span_90 : decode cX6_span 90 = .ok (.ireturn, 1) := by decide +kernel
theorem dX6_span_91 : decode cX6_span 91 = .ok (.aload_n 0, 1) := by decide +kernel
theorem dX6_span_92 : decode cX6_span 92 = .ok (.getfield 50, 3) := by decide +kernel
theorem dX6_span_95 : decode cX6_span 95 = .ok (.invokevirtual 196, 3) := by decide +kernel
theorem dX6_span_98 : decode cX6_span 98 = .ok (.ireturn, 1) := by decide +kernel
theorem dX6_span_99 : decode cX6_span 99 = .ok (.aload_n 0, 1) := by decide +kernel
theorem dX6_span_100 : decode cX6_span 100 = .ok (.getfield 50, 3) := by decide +kernel
theorem dX6_span_103 : decode cX6_span 103 = .ok (.invokevirtual 193, 3) := by decide +kernel
theorem dX6_span_106 : decode cX6_span 106 = .ok (.aload_n 0, 1) := by decide +kernel
theorem dX6_span_107 : decode cX6_span 107 = .ok (.getfield 50, 3) := by decide +kernel
theorem dX6_span_110 : decode cX6_span 110 = .ok (.invokevirtual 196, 3) := by decide +kernel
theorem dX6_span_113 : decode cX6_span 113 = .ok (.isub, 1) := by decide +kernel
theorem dX6_span_114 : decode cX6_span 114 = .ok (.ireturn, 1) := by decide +kernel
theorem dX6_span_115 : decode cX6_span 115 = .ok (.bipush (-2), 2) := by decide +kernel
theorem dX6_span_117 : decode cX6_span 117 = .ok (.ireturn, 1) := by decide +kernel
theorem dX6_count_0 : decode cX6_count 0 = .ok (.iload_n 1, 1) := by decide +kernel
theorem dX6_count_1 : decode cX6_count 1 = .ok (.tableswitch 117 0 8 #[51, 59, 59, 59, 65, 77, 89, 101, 109], 51) := by decide +kernel
theorem dX6_count_52 : decode cX6_count 52 = .ok (.aload_n 0, 1) := by decide +kernel
theorem dX6_count_53 : decode cX6_count 53 = .ok (.getfield 10, 3) := by decide +kernel
theorem dX6_count_56 : decode cX6_count 56 = .ok (.invokevirtual 74, 3) := by decide +kernel
theorem dX6_count_59 : decode cX6_count 59 = .ok (.ireturn, 1) := by decide +kernel
theorem dX6_count_60 : decode cX6_count 60 = .ok (.aload_n 0, 1) := by decide +kernel
theorem dX6_count_61 : decode cX6_count 61 = .ok (.iload_n 1, 1) := by decide +kernel
theorem dX6_count_62 : decode cX6_count 62 = .ok (.invokevirtual 199, 3) := by decide +kernel
theorem dX6_count_65 : decode cX6_count 65 = .ok (.ireturn, 1) := by decide +kernel
theorem dX6_count_66 : decode cX6_count 66 = .ok (.aload_n 0, 1) := by decide +kernel
theorem dX6_count_67 : decode cX6_count 67 = .ok (.getfield 43, 3) := by decide +kernel
theorem dX6_count_70 : decode cX6_count 70 = .ok (.aload_n 0, 1) := by decide +kernel
theorem dX6_count_71 : decode cX6_count 71 = .ok (.getfield 10, 3) := by decide +kernel
theorem dX6_count_74 : decode cX6_count 74 = .ok (.invokevirtual 202, 3) := by decide +kernel
theorem dX6_count_77 : decode cX6_count 77 = .ok (.ireturn, 1) := by decide +kernel
theorem dX6_count_78 : decode cX6_count 78 = .ok (.aload_n 0, 1) := by decide +kernel
theorem dX6_count_79 : decode cX6_count 79 = .ok (.getfield 43, 3) := by decide +kernel
theorem dX6_count_82 : decode cX6_count 82 = .ok (.aload_n 0, 1) := by decide +kernel
theorem dX6_count_83 : decode cX6_count 83 = .ok (.getfield 10, 3) := by decide +kernel
theorem dX6_count_86 : decode cX6_count 86 = .ok (.invokevirtual 205, 3) := by decide +kernel
theorem dX6_count_89 : decode cX6_count 89 = .ok (.ireturn, 1) := by decide +kernel
theorem dX6_count_90 : decode cX6_count 90 = .ok (.aload_n 0, 1) := by decide +kernel
theorem dX6_count_91 : decode cX6_count 91 = .ok (.getfield 43, 3) := by decide +kernel
theorem dX6_count_94 : decode cX6_count 94 = .ok (.aload_n 0, 1) := by decide +kernel
theorem dX6_count_95 : decode cX6_count 95 = .ok (.getfield 10, 3) := by decide +kernel
theorem dX6_count_98 : decode cX6_count 98 = .ok (.invokevirtual 208, 3) := by decide +kernel
theorem dX6_count_101 : decode cX6_count 101 = .ok (.ireturn, 1) := by decide +kernel
theorem dX6_count_102 : decode cX6_count 102 = .ok (.aload_n 0, 1) := by decide +kernel
theorem dX6_count_103 : decode cX6_count 103 = .ok (.getfield 26, 3) := by decide +kernel
theorem dX6_count_106 : decode cX6_count 106 = .ok (.invokevirtual 130, 3) := by decide +kernel
theorem dX6_count_109 : decode cX6_count 109 = .ok (.ireturn, 1) := by decide +kernel
theorem dX6_count_110 : decode cX6_count 110 = .ok (.aload_n 0, 1) := by decide +kernel
theorem dX6_count_111 : decode cX6_count 111 = .ok (.getfield 33, 3) := by decide +kernel
theorem dX6_count_114 : decode cX6_count 114 = .ok (.invokevirtual 120, 3) := by decide +kernel
theorem dX6_count_117 : decode cX6_count 117 = .ok (.ireturn, 1) := by decide +kernel
theorem dX6_count_118 : decode cX6_count 118 = .ok (.bipush (-2), 2) := by decide +kernel
theorem dX6_count_120 : decode cX6_count 120 = .ok (.ireturn, 1) := by decide +kernel
theorem dX6_countOnWay_0 : decode cX6_countOnWay 0 = .ok (.aload_n 0, 1) := by decide +kernel
theorem dX6_countOnWay_1 : decode cX6_countOnWay 1 = .ok (.getfield 50, 3) := by decide +kernel
theorem dX6_countOnWay_4 : decode cX6_countOnWay 4 = .ok (.aload_n 0, 1) := by decide +kernel
theorem dX6_countOnWay_5 : decode cX6_countOnWay 5 = .ok (.getfield 10, 3) := by decide +kernel
theorem dX6_countOnWay_8 : decode cX6_countOnWay 8 = .ok (.invokevirtual 211, 3) := by decide +kernel
theorem dX6_countOnWay_11 : decode cX6_countOnWay 11 = .ok (.iload_n 1, 1) := by decide +kernel
theorem dX6_countOnWay_12 : decode cX6_countOnWay 12 = .ok (.iconst 1, 1) := by decide +kernel
theorem dX6_countOnWay_13 : decode cX6_countOnWay 13 = .ok (.if_icmp .ne 11, 3) := by decide +kernel
theorem dX6_countOnWay_16 : decode cX6_countOnWay 16 = .ok (.aload_n 0, 1) := by decide +kernel
theorem dX6_countOnWay_17 : decode cX6_countOnWay 17 = .ok (.getfield 50, 3) := by decide +kernel
theorem dX6_countOnWay_20 : decode cX6_countOnWay 20 = .ok (.invokevirtual 214, 3) := by decide +kernel
theorem dX6_countOnWay_23 : decode cX6_countOnWay 23 = .ok (.ireturn, 1) := by decide +kernel
theorem dX6_countOnWay_24 : decode cX6_countOnWay 24 = .ok (.iload_n 1, 1) := by decide +kernel
theorem dX6_countOnWay_25 : decode cX6_countOnWay 25 = .ok (.iconst 2, 1) := by decide +kernel
theorem dX6_countOnWay_26 : decode cX6_countOnWay 26 = .ok (.if_icmp .ne 13, 3) := by decide +kernel
theorem dX6_countOnWay_29 : decode cX6_countOnWay 29 = .ok (.aload_n 0, 1) := by decide +kernel
theorem dX6_countOnWay_30 : decode cX6_countOnWay 30 = .ok (.getfield 50, 3) := by decide +kernel
theorem dX6_countOnWay_33 : decode cX6_countOnWay 33 = .ok (.invokevirtual 217, 3) := by decide +kernel
theorem dX6_countOnWay_36 : decode cX6_countOnWay 36 = .ok (.goto 10, 3) := by decide +kernel
theorem dX6_countOnWay_39 : decode cX6_countOnWay 39 = .ok (.aload_n 0, 1) := by decide +kernel
theorem dX6_countOnWay_40 : decode cX6_countOnWay 40 = .ok (.getfield 50, 3) := by decide +kernel
theorem dX6_countOnWay_43 : decode cX6_countOnWay 43 = .ok (.invokevirtual 220, 3) := by decide +kernel
theorem dX6_countOnWay_46 : decode cX6_countOnWay 46 = .ok (.ireturn, 1) := by decide +kernel
theorem dX6_asNumber_0 : decode cX6_asNumber 0 = .ok (.iload_n 0, 1) := by decide +kernel
theorem dX6_asNumber_1 : decode cX6_asNumber 1 = .ok (.ifCond .eq 7, 3) := by decide +kernel
theorem dX6_asNumber_4 : decode cX6_asNumber 4 = .ok (.iconst 1, 1) := by decide +kernel
theorem dX6_asNumber_5 : decode cX6_asNumber 5 = .ok (.goto 4, 3) := by decide +kernel
theorem dX6_asNumber_8 : decode cX6_asNumber 8 = .ok (.iconst 0, 1) := by decide +kernel
theorem dX6_asNumber_9 : decode cX6_asNumber 9 = .ok (.ireturn, 1) := by decide +kernel
theorem dX6_isPoint_0 : decode cX6_isPoint 0 = .ok (.iload_n 0, 1) := by decide +kernel
theorem dX6_isPoint_1 : decode cX6_isPoint 1 = .ok (.ifCond .lt 13, 3) := by decide +kernel
theorem dX6_isPoint_4 : decode cX6_isPoint 4 = .ok (.iload_n 0, 1) := by decide +kernel
theorem dX6_isPoint_5 : decode cX6_isPoint 5 = .ok (.bipush 16, 2) := by decide +kernel
theorem dX6_isPoint_7 : decode cX6_isPoint 7 = .ok (.if_icmp .ge 7, 3) := by decide +kernel
theorem dX6_isPoint_10 : decode cX6_isPoint 10 = .ok (.iconst 1, 1) := by decide +kernel
theorem dX6_isPoint_11 : decode cX6_isPoint 11 = .ok (.goto 4, 3) := by decide +kernel
theorem dX6_isPoint_14 : decode cX6_isPoint 14 = .ok (.iconst 0, 1) := by decide +kernel
theorem dX6_isPoint_15 : decode cX6_isPoint 15 = .ok (.ireturn, 1) := by decide +kernel
theorem dX6_isMoment_0 : decode cX6_isMoment 0 = .ok (.iload_n 0, 1) := by decide +kernel
theorem dX6_isMoment_1 : decode cX6_isMoment 1 = .ok (.ifCond .lt 13, 3) := by decide +kernel
theorem dX6_isMoment_4 : decode cX6_isMoment 4 = .ok (.iload_n 0, 1) := by decide +kernel
theorem dX6_isMoment_5 : decode cX6_isMoment 5 = .ok (.bipush 64, 2) := by decide +kernel
theorem dX6_isMoment_7 : decode cX6_isMoment 7 = .ok (.if_icmp .ge 7, 3) := by decide +kernel
theorem dX6_isMoment_10 : decode cX6_isMoment 10 = .ok (.iconst 1, 1) := by decide +kernel
theorem dX6_isMoment_11 : decode cX6_isMoment 11 = .ok (.goto 4, 3) := by decide +kernel
theorem dX6_isMoment_14 : decode cX6_isMoment 14 = .ok (.iconst 0, 1) := by decide +kernel
theorem dX6_isMoment_15 : decode cX6_isMoment 15 = .ok (.ireturn, 1) := by decide +kernel
theorem dX6_isLife_0 : decode cX6_isLife 0 = .ok (.iload_n 0, 1) := by decide +kernel
theorem dX6_isLife_1 : decode cX6_isLife 1 = .ok (.invokestatic 95, 3) := by decide +kernel
theorem dX6_isLife_4 : decode cX6_isLife 4 = .ok (.ifCond .eq 18, 3) := by decide +kernel
theorem dX6_isLife_7 : decode cX6_isLife 7 = .ok (.iload_n 1, 1) := by decide +kernel
theorem dX6_isLife_8 : decode cX6_isLife 8 = .ok (.iload_n 0, 1) := by decide +kernel
theorem dX6_isLife_9 : decode cX6_isLife 9 = .ok (.if_icmp .le 13, 3) := by decide +kernel
theorem dX6_isLife_12 : decode cX6_isLife 12 = .ok (.iload_n 1, 1) := by decide +kernel
theorem dX6_isLife_13 : decode cX6_isLife 13 = .ok (.bipush 64, 2) := by decide +kernel
theorem dX6_isLife_15 : decode cX6_isLife 15 = .ok (.if_icmp .gt 7, 3) := by decide +kernel
theorem dX6_isLife_18 : decode cX6_isLife 18 = .ok (.iconst 1, 1) := by decide +kernel
theorem dX6_isLife_19 : decode cX6_isLife 19 = .ok (.goto 4, 3) := by decide +kernel
theorem dX6_isLife_22 : decode cX6_isLife 22 = .ok (.iconst 0, 1) := by decide +kernel
theorem dX6_isLife_23 : decode cX6_isLife 23 = .ok (.ireturn, 1) := by decide +kernel
theorem dX6_spanLength_0 : decode cX6_spanLength 0 = .ok (.bipush 64, 2) := by decide +kernel
theorem dX6_spanLength_2 : decode cX6_spanLength 2 = .ok (.iload_n 0, 1) := by decide +kernel
theorem dX6_spanLength_3 : decode cX6_spanLength 3 = .ok (.ishr, 1) := by decide +kernel
theorem dX6_spanLength_4 : decode cX6_spanLength 4 = .ok (.ireturn, 1) := by decide +kernel
theorem dX6_spanBegin_0 : decode cX6_spanBegin 0 = .ok (.iload_n 0, 1) := by decide +kernel
theorem dX6_spanBegin_1 : decode cX6_spanBegin 1 = .ok (.iload_n 1, 1) := by decide +kernel
theorem dX6_spanBegin_2 : decode cX6_spanBegin 2 = .ok (.invokestatic 190, 3) := by decide +kernel
theorem dX6_spanBegin_5 : decode cX6_spanBegin 5 = .ok (.ineg, 1) := by decide +kernel
theorem dX6_spanBegin_6 : decode cX6_spanBegin 6 = .ok (.iand, 1) := by decide +kernel
theorem dX6_spanBegin_7 : decode cX6_spanBegin 7 = .ok (.ireturn, 1) := by decide +kernel
end
section
theorem dX7_init_0 : decode cX7_init 0 = .ok (.aload_n 0, 1) := by decide +kernel
theorem dX7_init_1 : decode cX7_init 1 = .ok (.invokespecial 1, 3) := by decide +kernel
theorem dX7_init_4 : decode cX7_init 4 = .ok (.aload_n 0, 1) := by decide +kernel
theorem dX7_init_5 : decode cX7_init 5 = .ok (.sipush 161, 3) := by decide +kernel
theorem dX7_init_8 : decode cX7_init 8 = .ok (.newarray .int, 2) := by decide +kernel
theorem dX7_init_10 : decode cX7_init 10 = .ok (.putfield 7, 3) := by decide +kernel
theorem dX7_init_13 : decode cX7_init 13 = .ok (.aload_n 0, 1) := by decide +kernel
theorem dX7_init_14 : decode cX7_init 14 = .ok (.sipush 161, 3) := by decide +kernel
theorem dX7_init_17 : decode cX7_init 17 = .ok (.newarray .int, 2) := by decide +kernel
theorem dX7_init_19 : decode cX7_init 19 = .ok (.putfield 13, 3) := by decide +kernel
theorem dX7_init_22 : decode cX7_init 22 = .ok (.aload_n 0, 1) := by decide +kernel
theorem dX7_init_23 : decode cX7_init 23 = .ok (.sipush 644, 3) := by decide +kernel
theorem dX7_init_26 : decode cX7_init 26 = .ok (.newarray .int, 2) := by decide +kernel
theorem dX7_init_28 : decode cX7_init 28 = .ok (.putfield 16, 3) := by decide +kernel
theorem dX7_init_31 : decode cX7_init 31 = .ok (.aload_n 0, 1) := by decide +kernel
theorem dX7_init_32 : decode cX7_init 32 = .ok (.sipush 161, 3) := by decide +kernel
theorem dX7_init_35 : decode cX7_init 35 = .ok (.newarray .int, 2) := by decide +kernel
theorem dX7_init_37 : decode cX7_init 37 = .ok (.putfield 19, 3) := by decide +kernel
theorem dX7_init_40 : decode cX7_init 40 = .ok (.aload_n 0, 1) := by decide +kernel
theorem dX7_init_41 : decode cX7_init 41 = .ok (.bipush 60, 2) := by decide +kernel
theorem dX7_init_43 : decode cX7_init 43 = .ok (.newarray .int, 2) := by decide +kernel
theorem dX7_init_45 : decode cX7_init 45 = .ok (.putfield 22, 3) := by decide +kernel
theorem dX7_init_48 : decode cX7_init 48 = .ok (.aload_n 0, 1) := by decide +kernel
theorem dX7_init_49 : decode cX7_init 49 = .ok (.bipush 40, 2) := by decide +kernel
theorem dX7_init_51 : decode cX7_init 51 = .ok (.newarray .int, 2) := by decide +kernel
theorem dX7_init_53 : decode cX7_init 53 = .ok (.putfield 25, 3) := by decide +kernel
theorem dX7_init_56 : decode cX7_init 56 = .ok (.return_, 1) := by decide +kernel
theorem dX7_in_0 : decode cX7_in 0 = .ok (.lload_n 0, 1) := by decide +kernel
theorem dX7_in_1 : decode cX7_in 1 = .ok (.lload_n 2, 1) := by decide +kernel
theorem dX7_in_2 : decode cX7_in 2 = .ok (.lcmp, 1) := by decide +kernel
theorem dX7_in_3 : decode cX7_in 3 = .ok (.ifCond .lt 14, 3) := by decide +kernel
theorem dX7_in_6 : decode cX7_in 6 = .ok (.lload_n 0, 1) := by decide +kernel
theorem dX7_in_7 : decode cX7_in 7 = .ok (.lload 4, 2) := by decide +kernel
theorem dX7_in_9 : decode cX7_in 9 = .ok (.lcmp, 1) := by decide +kernel
theorem dX7_in_10 : decode cX7_in 10 = .ok (.ifCond .gt 7, 3) := by decide +kernel
theorem dX7_in_13 : decode cX7_in 13 = .ok (.iconst 1, 1) := by decide +kernel
theorem dX7_in_14 : decode cX7_in 14 = .ok (.goto 4, 3) := by decide +kernel
theorem dX7_in_17 : decode cX7_in 17 = .ok (.iconst 0, 1) := by decide +kernel
theorem dX7_in_18 : decode cX7_in 18 = .ok (.ireturn, 1) := by decide +kernel
theorem dX7_remember_0 : decode cX7_remember 0 = .ok (.iconst 0, 1) := by decide +kernel
theorem dX7_remember_1 : decode cX7_remember 1 = .ok (.istore_n 1, 1) := by decide +kernel
theorem dX7_remember_2 : decode cX7_remember 2 = .ok (.iload_n 1, 1) := by decide +kernel
theorem dX7_remember_3 : decode cX7_remember 3 = .ok (.sipush 161, 3) := by decide +kernel
theorem dX7_remember_6 : decode cX7_remember 6 = .ok (.if_icmp .ge 21, 3) := by decide +kernel
theorem dX7_remember_9 : decode cX7_remember 9 = .ok (.aload_n 0, 1) := by decide +kernel
theorem dX7_remember_10 : decode cX7_remember 10 = .ok (.getfield 13, 3) := by decide +kernel
theorem dX7_remember_13 : decode cX7_remember 13 = .ok (.iload_n 1, 1) := by decide +kernel
theorem dX7_remember_14 : decode cX7_remember 14 = .ok (.aload_n 0, 1) := by decide +kernel
theorem dX7_remember_15 : decode cX7_remember 15 = .ok (.getfield 7, 3) := by decide +kernel
theorem dX7_remember_18 : decode cX7_remember 18 = .ok (.iload_n 1, 1) := by decide +kernel
theorem dX7_remember_19 : decode cX7_remember 19 = .ok (.iaload, 1) := by decide +kernel
theorem dX7_remember_20 : decode cX7_remember 20 = .ok (.iastore, 1) := by decide +kernel
theorem dX7_remember_21 : decode cX7_remember 21 = .ok (.iinc 1 1, 3) := by decide +kernel
theorem dX7_remember_24 : decode cX7_remember 24 = .ok (.goto (-22), 3) := by decide +kernel
theorem dX7_remember_27 : decode cX7_remember 27 = .ok (.return_, 1) := by decide +kernel
theorem dX7_acted_0 : decode cX7_acted 0 = .ok (.aload_n 0, 1) := by decide +kernel
theorem dX7_acted_1 : decode cX7_acted 1 = .ok (.getfield 28, 3) := by decide +kernel
theorem dX7_acted_4 : decode cX7_acted 4 = .ok (.iconst 4, 1) := by decide +kernel
theorem dX7_acted_5 : decode cX7_acted 5 = .ok (.if_icmp .ne 44, 3) := by decide +kernel
theorem dX7_acted_8 : decode cX7_acted 8 = .ok (.iconst 0, 1) := by decide +kernel
theorem dX7_acted_9 : decode cX7_acted 9 = .ok (.istore_n 2, 1) := by decide +kernel
theorem dX7_acted_10 : decode cX7_acted 10 = .ok (.iload_n 2, 1) := by decide +kernel
theorem dX7_acted_11 : decode cX7_acted 11 = .ok (.sipush 483, 3) := by decide +kernel
theorem dX7_acted_14 : decode cX7_acted 14 = .ok (.if_icmp .ge 25, 3) := by decide +kernel
theorem dX7_acted_17 : decode cX7_acted 17 = .ok (.aload_n 0, 1) := by decide +kernel
theorem dX7_acted_18 : decode cX7_acted 18 = .ok (.getfield 16, 3) := by decide +kernel
theorem dX7_acted_21 : decode cX7_acted 21 = .ok (.iload_n 2, 1) := by decide +kernel
theorem dX7_acted_22 : decode cX7_acted 22 = .ok (.aload_n 0, 1) := by decide +kernel
theorem dX7_acted_23 : decode cX7_acted 23 = .ok (.getfield 16, 3) := by decide +kernel
theorem dX7_acted_26 : decode cX7_acted 26 = .ok (.iload_n 2, 1) := by decide +kernel
theorem dX7_acted_27 : decode cX7_acted 27 = .ok (.sipush 161, 3) := by decide +kernel
theorem dX7_acted_30 : decode cX7_acted 30 = .ok (.iadd, 1) := by decide +kernel
theorem dX7_acted_31 : decode cX7_acted 31 = .ok (.iaload, 1) := by decide +kernel
theorem dX7_acted_32 : decode cX7_acted 32 = .ok (.iastore, 1) := by decide +kernel
theorem dX7_acted_33 : decode cX7_acted 33 = .ok (.iinc 2 1, 3) := by decide +kernel
theorem dX7_acted_36 : decode cX7_acted 36 = .ok (.goto (-26), 3) := by decide +kernel
theorem dX7_acted_39 : decode cX7_acted 39 = .ok (.aload_n 0, 1) := by decide +kernel
theorem dX7_acted_40 : decode cX7_acted 40 = .ok (.dup, 1) := by decide +kernel
theorem dX7_acted_41 : decode cX7_acted 41 = .ok (.getfield 28, 3) := by decide +kernel
theorem dX7_acted_44 : decode cX7_acted 44 = .ok (.iconst 1, 1) := by decide +kernel
theorem dX7_acted_45 : decode cX7_acted 45 = .ok (.isub, 1) := by decide +kernel
theorem dX7_acted_46 : decode cX7_acted 46 = .ok (.putfield 28, 3) := by decide +kernel
theorem dX7_acted_49 : decode cX7_acted 49 = .ok (.iconst 0, 1) := by decide +kernel
theorem dX7_acted_50 : decode cX7_acted 50 = .ok (.istore_n 2, 1) := by decide +kernel
theorem dX7_acted_51 : decode cX7_acted 51 = .ok (.iload_n 2, 1) := by decide +kernel
theorem dX7_acted_52 : decode cX7_acted 52 = .ok (.sipush 161, 3) := by decide +kernel
theorem dX7_acted_55 : decode cX7_acted 55 = .ok (.if_icmp .ge 30, 3) := by decide +kernel
theorem dX7_acted_58 : decode cX7_acted 58 = .ok (.aload_n 0, 1) := by decide +kernel
theorem dX7_acted_59 : decode cX7_acted 59 = .ok (.getfield 16, 3) := by decide +kernel
theorem dX7_acted_62 : decode cX7_acted 62 = .ok (.sipush 161, 3) := by decide +kernel
theorem dX7_acted_65 : decode cX7_acted 65 = .ok (.aload_n 0, 1) := by decide +kernel
theorem dX7_acted_66 : decode cX7_acted 66 = .ok (.getfield 28, 3) := by decide +kernel
theorem dX7_acted_69 : decode cX7_acted 69 = .ok (.imul, 1) := by decide +kernel
theorem dX7_acted_70 : decode cX7_acted 70 = .ok (.iload_n 2, 1) := by decide +kernel
theorem dX7_acted_71 : decode cX7_acted 71 = .ok (.iadd, 1) := by decide +kernel
theorem dX7_acted_72 : decode cX7_acted 72 = .ok (.aload_n 0, 1) := by decide +kernel
theorem dX7_acted_73 : decode cX7_acted 73 = .ok (.getfield 13, 3) := by decide +kernel
theorem dX7_acted_76 : decode cX7_acted 76 = .ok (.iload_n 2, 1) := by decide +kernel
theorem dX7_acted_77 : decode cX7_acted 77 = .ok (.iaload, 1) := by decide +kernel
theorem dX7_acted_78 : decode cX7_acted 78 = .ok (.iastore, 1) := by decide +kernel
theorem dX7_acted_79 : decode cX7_acted 79 = .ok (.iinc 2 1, 3) := by decide +kernel
theorem dX7_acted_82 : decode cX7_acted 82 = .ok (.goto (-31), 3) := by decide +kernel
theorem dX7_acted_85 : decode cX7_acted 85 = .ok (.aload_n 0, 1) := by decide +kernel
theorem dX7_acted_86 : decode cX7_acted 86 = .ok (.dup, 1) := by decide +kernel
theorem dX7_acted_87 : decode cX7_acted 87 = .ok (.getfield 28, 3) := by decide +kernel
theorem dX7_acted_90 : decode cX7_acted 90 = .ok (.iconst 1, 1) := by decide +kernel
theorem dX7_acted_91 : decode cX7_acted 91 = .ok (.iadd, 1) := by decide +kernel
theorem dX7_acted_92 : decode cX7_acted 92 = .ok (.putfield 28, 3) := by decide +kernel
theorem dX7_acted_95 : decode cX7_acted 95 = .ok (.iload_n 1, 1) := by decide +kernel
theorem dX7_acted_96 : decode cX7_acted 96 = .ok (.ireturn, 1) := by decide +kernel
theorem dX7_isPoint_0 : decode cX7_isPoint 0 = .ok (.iload_n 0, 1) := by decide +kernel
theorem dX7_isPoint_1 : decode cX7_isPoint 1 = .ok (.i2l, 1) := by decide +kernel
theorem dX7_isPoint_2 : decode cX7_isPoint 2 = .ok (.lconst 0, 1) := by decide +kernel
theorem dX7_isPoint_3 : decode cX7_isPoint 3 = .ok (.ldc2_w 32, 3) := by decide +kernel
theorem dX7_isPoint_6 : decode cX7_isPoint 6 = .ok (.invokestatic 34, 3) := by decide +kernel
theorem dX7_isPoint_9 : decode cX7_isPoint 9 = .ok (.ireturn, 1) := by decide +kernel
theorem dX7_isMoment_0 : decode cX7_isMoment 0 = .ok (.iload_n 0, 1) := by decide +kernel
theorem dX7_isMoment_1 : decode cX7_isMoment 1 = .ok (.i2l, 1) := by decide +kernel
theorem dX7_isMoment_2 : decode cX7_isMoment 2 = .ok (.lconst 0, 1) := by decide +kernel
theorem dX7_isMoment_3 : decode cX7_isMoment 3 = .ok (.ldc2_w 38, 3) := by decide +kernel
theorem dX7_isMoment_6 : decode cX7_isMoment 6 = .ok (.invokestatic 34, 3) := by decide +kernel
theorem dX7_isMoment_9 : decode cX7_isMoment 9 = .ok (.ireturn, 1) := by decide +kernel
theorem dX7_isLife_0 : decode cX7_isLife 0 = .ok (.iload_n 0, 1) := by decide +kernel
theorem dX7_isLife_1 : decode cX7_isLife 1 = .ok (.invokestatic 40, 3) := by decide +kernel
theorem dX7_isLife_4 : decode cX7_isLife 4 = .ok (.ifCond .eq 24, 3) := by decide +kernel
theorem dX7_isLife_7 : decode cX7_isLife 7 = .ok (.iload_n 1, 1) := by decide +kernel
theorem dX7_isLife_8 : decode cX7_isLife 8 = .ok (.i2l, 1) := by decide +kernel
theorem dX7_isLife_9 : decode cX7_isLife 9 = .ok (.lconst 1, 1) := by decide +kernel
theorem dX7_isLife_10 : decode cX7_isLife 10 = .ok (.ldc2_w 44, 3) := by decide +kernel
theorem dX7_isLife_13 : decode cX7_isLife 13 = .ok (.invokestatic 34, 3) := by decide +kernel
theorem dX7_isLife_16 : decode cX7_isLife 16 = .ok (.ifCond .eq 12, 3) := by decide +kernel
theorem dX7_isLife_19 : decode cX7_isLife 19 = .ok (.iload_n 1, 1) := by decide +kernel
theorem dX7_isLife_20 : decode cX7_isLife 20 = .ok (.iload_n 0, 1) := by decide +kernel
theorem dX7_isLife_21 : decode cX7_isLife 21 = .ok (.if_icmp .le 7, 3) := by decide +kernel
theorem dX7_isLife_24 : decode cX7_isLife 24 = .ok (.iconst 1, 1) := by decide +kernel
theorem dX7_isLife_25 : decode cX7_isLife 25 = .ok (.goto 4, 3) := by decide +kernel
theorem dX7_isLife_28 : decode cX7_isLife 28 = .ok (.iconst 0, 1) := by decide +kernel
theorem dX7_isLife_29 : decode cX7_isLife 29 = .ok (.ireturn, 1) := by decide +kernel
theorem dX7_isLink_0 : decode cX7_isLink 0 = .ok (.iload_n 1, 1) := by decide +kernel
theorem dX7_isLink_1 : decode cX7_isLink 1 = .ok (.i2l, 1) := by decide +kernel
theorem dX7_isLink_2 : decode cX7_isLink 2 = .ok (.lconst 0, 1) := by decide +kernel
theorem dX7_isLink_3 : decode cX7_isLink 3 = .ok (.aload_n 0, 1) := by decide +kernel
theorem dX7_isLink_4 : decode cX7_isLink 4 = .ok (.getfield 7, 3) := by decide +kernel
theorem dX7_isLink_7 : decode cX7_isLink 7 = .ok (.iconst 0, 1) := by decide +kernel
theorem dX7_isLink_8 : decode cX7_isLink 8 = .ok (.iaload, 1) := by decide +kernel
theorem dX7_isLink_9 : decode cX7_isLink 9 = .ok (.i2l, 1) := by decide +kernel
theorem dX7_isLink_10 : decode cX7_isLink 10 = .ok (.lconst 1, 1) := by decide +kernel
theorem dX7_isLink_11 : decode cX7_isLink 11 = .ok (.lsub, 1) := by decide +kernel
theorem dX7_isLink_12 : decode cX7_isLink 12 = .ok (.invokestatic 34, 3) := by decide +kernel
theorem dX7_isLink_15 : decode cX7_isLink 15 = .ok (.ireturn, 1) := by decide +kernel
theorem dX7_lives_0 : decode cX7_lives 0 = .ok (.aload_n 0, 1) := by decide +kernel
theorem dX7_lives_1 : decode cX7_lives 1 = .ok (.getfield 7, 3) := by decide +kernel
theorem dX7_lives_4 : decode cX7_lives 4 = .ok (.bipush 81, 2) := by decide +kernel
theorem dX7_lives_6 : decode cX7_lives 6 = .ok (.iload_n 1, 1) := by decide +kernel
theorem dX7_lives_7 : decode cX7_lives 7 = .ok (.iadd, 1) := by decide +kernel
theorem dX7_lives_8 : decode cX7_lives 8 = .ok (.iaload, 1) := by decide +kernel
theorem dX7_lives_9 : decode cX7_lives 9 = .ok (.iload_n 2, 1) := by decide +kernel
theorem dX7_lives_10 : decode cX7_lives 10 = .ok (.if_icmp .gt 20, 3) := by decide +kernel
theorem dX7_lives_13 : decode cX7_lives 13 = .ok (.aload_n 0, 1) := by decide +kernel
theorem dX7_lives_14 : decode cX7_lives 14 = .ok (.getfield 7, 3) := by decide +kernel
theorem dX7_lives_17 : decode cX7_lives 17 = .ok (.bipush 121, 2) := by decide +kernel
theorem dX7_lives_19 : decode cX7_lives 19 = .ok (.iload_n 1, 1) := by decide +kernel
theorem dX7_lives_20 : decode cX7_lives 20 = .ok (.iadd, 1) := by decide +kernel
theorem dX7_lives_21 : decode cX7_lives 21 = .ok (.iaload, 1) := by decide +kernel
theorem dX7_lives_22 : decode cX7_lives 22 = .ok (.iload_n 3, 1) := by decide +kernel
theorem dX7_lives_23 : decode cX7_lives 23 = .ok (.if_icmp .lt 7, 3) := by decide +kernel
theorem dX7_lives_26 : decode cX7_lives 26 = .ok (.iconst 1, 1) := by decide +kernel
theorem dX7_lives_27 : decode cX7_lives 27 = .ok (.goto 4, 3) := by decide +kernel
theorem dX7_lives_30 : decode cX7_lives 30 = .ok (.iconst 0, 1) := by decide +kernel
theorem dX7_lives_31 : decode cX7_lives 31 = .ok (.ireturn, 1) := by decide +kernel
theorem dX7_livesAt_0 : decode cX7_livesAt 0 = .ok (.aload_n 0, 1) := by decide +kernel
theorem dX7_livesAt_1 : decode cX7_livesAt 1 = .ok (.iload_n 1, 1) := by decide +kernel
theorem dX7_livesAt_2 : decode cX7_livesAt 2 = .ok (.iload_n 2, 1) := by decide +kernel
theorem dX7_livesAt_3 : decode cX7_livesAt 3 = .ok (.iload_n 2, 1) := by decide +kernel
theorem dX7_livesAt_4 : decode cX7_livesAt 4 = .ok (.iconst 1, 1) := by decide +kernel
theorem dX7_livesAt_5 : decode cX7_livesAt 5 = .ok (.iadd, 1) := by decide +kernel
theorem dX7_livesAt_6 : decode cX7_livesAt 6 = .ok (.invokevirtual 46, 3) := by decide +kernel
theorem dX7_livesAt_9 : decode cX7_livesAt 9 = .ok (.ireturn, 1) := by decide +kernel
theorem dX7_bits_0 : decode cX7_bits 0 = .ok (.iconst 0, 1) := by decide +kernel
theorem dX7_bits_1 : decode cX7_bits 1 = .ok (.istore_n 2, 1) := by decide +kernel
theorem dX7_bits_2 : decode cX7_bits 2 = .ok (.lload_n 0, 1) := by decide +kernel
theorem dX7_bits_3 : decode cX7_bits 3 = .ok (.lstore_n 3, 1) := by decide +kernel
theorem dX7_bits_4 : decode cX7_bits 4 = .ok (.lload_n 3, 1) := by decide +kernel
theorem dX7_bits_5 : decode cX7_bits 5 = .ok (.lconst 0, 1) := by decide +kernel
theorem dX7_bits_6 : decode cX7_bits 6 = .ok (.lcmp, 1) := by decide +kernel
theorem dX7_bits_7 : decode cX7_bits 7 = .ok (.ifCond .eq 15, 3) := by decide +kernel
theorem dX7_bits_10 : decode cX7_bits 10 = .ok (.iinc 2 1, 3) := by decide +kernel
theorem dX7_bits_13 : decode cX7_bits 13 = .ok (.lload_n 3, 1) := by decide +kernel
theorem dX7_bits_14 : decode cX7_bits 14 = .ok (.lload_n 3, 1) := by decide +kernel
theorem dX7_bits_15 : decode cX7_bits 15 = .ok (.lconst 1, 1) := by decide +kernel
theorem dX7_bits_16 : decode cX7_bits 16 = .ok (.lsub, 1) := by decide +kernel
theorem dX7_bits_17 : decode cX7_bits 17 = .ok (.land, 1) := by decide +kernel
theorem dX7_bits_18 : decode cX7_bits 18 = .ok (.lstore_n 3, 1) := by decide +kernel
theorem dX7_bits_19 : decode cX7_bits 19 = .ok (.goto (-15), 3) := by decide +kernel
theorem dX7_bits_22 : decode cX7_bits 22 = .ok (.iload_n 2, 1) := by decide +kernel
theorem dX7_bits_23 : decode cX7_bits 23 = .ok (.ireturn, 1) := by decide +kernel
theorem dX7_livingAt_0 : decode cX7_livingAt 0 = .ok (.lconst 0, 1) := by decide +kernel
theorem dX7_livingAt_1 : decode cX7_livingAt 1 = .ok (.lstore_n 2, 1) := by decide +kernel
theorem dX7_livingAt_2 : decode cX7_livingAt 2 = .ok (.iconst 0, 1) := by decide +kernel
theorem dX7_livingAt_3 : decode cX7_livingAt 3 = .ok (.istore 4, 2) := by decide +kernel
theorem dX7_livingAt_5 : decode cX7_livingAt 5 = .ok (.iload 4, 2) := by decide +kernel
theorem dX7_livingAt_7 : decode cX7_livingAt 7 = .ok (.aload_n 0, 1) := by decide +kernel
theorem dX7_livingAt_8 : decode cX7_livingAt 8 = .ok (.getfield 7, 3) := by decide +kernel
theorem dX7_livingAt_11 : decode cX7_livingAt 11 = .ok (.iconst 0, 1) := by decide +kernel
theorem dX7_livingAt_12 : decode cX7_livingAt 12 = .ok (.iaload, 1) := by decide +kernel
theorem dX7_livingAt_13 : decode cX7_livingAt 13 = .ok (.if_icmp .ge 30, 3) := by decide +kernel
theorem dX7_livingAt_16 : decode cX7_livingAt 16 = .ok (.lload_n 2, 1) := by decide +kernel
theorem dX7_livingAt_17 : decode cX7_livingAt 17 = .ok (.aload_n 0, 1) := by decide +kernel
theorem dX7_livingAt_18 : decode cX7_livingAt 18 = .ok (.iload 4, 2) := by decide +kernel
theorem dX7_livingAt_20 : decode cX7_livingAt 20 = .ok (.iload_n 1, 1) := by decide +kernel
theorem dX7_livingAt_21 : decode cX7_livingAt 21 = .ok (.invokevirtual 50, 3) := by decide +kernel
theorem dX7_livingAt_24 : decode cX7_livingAt 24 = .ok (.ifCond .eq 10, 3) := by decide +kernel
theorem dX7_livingAt_27 : decode cX7_livingAt 27 = .ok (.lconst 1, 1) := by decide +kernel
theorem dX7_livingAt_28 : decode cX7_livingAt 28 = .ok (.iload 4, 2) := by decide +kernel
theorem dX7_livingAt_30 : decode cX7_livingAt 30 = .ok (.lshl, 1) := by decide +kernel
theorem dX7_livingAt_31 : decode cX7_livingAt 31 = .ok (.goto 4, 3) := by decide +kernel
theorem dX7_livingAt_34 : decode cX7_livingAt 34 = .ok (.lconst 0, 1) := by decide +kernel
theorem dX7_livingAt_35 : decode cX7_livingAt 35 = .ok (.lor, 1) := by decide +kernel
theorem dX7_livingAt_36 : decode cX7_livingAt 36 = .ok (.lstore_n 2, 1) := by decide +kernel
theorem dX7_livingAt_37 : decode cX7_livingAt 37 = .ok (.iinc 4 1, 3) := by decide +kernel
theorem dX7_livingAt_40 : decode cX7_livingAt 40 = .ok (.goto (-35), 3) := by decide +kernel
theorem dX7_livingAt_43 : decode cX7_livingAt 43 = .ok (.lload_n 2, 1) := by decide +kernel
theorem dX7_livingAt_44 : decode cX7_livingAt 44 = .ok (.lreturn, 1) := by decide +kernel
theorem dX7_reach_0 : decode cX7_reach 0 = .ok (.iconst 1, 1) := by decide +kernel
theorem dX7_reach_1 : decode cX7_reach 1 = .ok (.iload_n 3, 1) := by decide +kernel
theorem dX7_reach_2 : decode cX7_reach 2 = .ok (.ishl, 1) := by decide +kernel
theorem dX7_reach_3 : decode cX7_reach 3 = .ok (.istore 4, 2) := by decide +kernel
theorem dX7_reach_5 : decode cX7_reach 5 = .ok (.iconst 1, 1) := by decide +kernel
theorem dX7_reach_6 : decode cX7_reach 6 = .ok (.istore 5, 2) := by decide +kernel
theorem dX7_reach_8 : decode cX7_reach 8 = .ok (.iload 5, 2) := by decide +kernel
theorem dX7_reach_10 : decode cX7_reach 10 = .ok (.ifCond .eq 100, 3) := by decide +kernel
theorem dX7_reach_13 : decode cX7_reach 13 = .ok (.iload 4, 2) := by decide +kernel
theorem dX7_reach_15 : decode cX7_reach 15 = .ok (.istore 6, 2) := by decide +kernel
theorem dX7_reach_17 : decode cX7_reach 17 = .ok (.iconst 0, 1) := by decide +kernel
theorem dX7_reach_18 : decode cX7_reach 18 = .ok (.istore 7, 2) := by decide +kernel
theorem dX7_reach_20 : decode cX7_reach 20 = .ok (.iload 7, 2) := by decide +kernel
theorem dX7_reach_22 : decode cX7_reach 22 = .ok (.aload_n 0, 1) := by decide +kernel
theorem dX7_reach_23 : decode cX7_reach 23 = .ok (.getfield 7, 3) := by decide +kernel
theorem dX7_reach_26 : decode cX7_reach 26 = .ok (.iconst 0, 1) := by decide +kernel
theorem dX7_reach_27 : decode cX7_reach 27 = .ok (.iaload, 1) := by decide +kernel
theorem dX7_reach_28 : decode cX7_reach 28 = .ok (.if_icmp .ge 65, 3) := by decide +kernel
theorem dX7_reach_31 : decode cX7_reach 31 = .ok (.iconst 1, 1) := by decide +kernel
theorem dX7_reach_32 : decode cX7_reach 32 = .ok (.aload_n 0, 1) := by decide +kernel
theorem dX7_reach_33 : decode cX7_reach 33 = .ok (.getfield 7, 3) := by decide +kernel
theorem dX7_reach_36 : decode cX7_reach 36 = .ok (.iconst 1, 1) := by decide +kernel
theorem dX7_reach_37 : decode cX7_reach 37 = .ok (.iload 7, 2) := by decide +kernel
theorem dX7_reach_39 : decode cX7_reach 39 = .ok (.iadd, 1) := by decide +kernel
theorem dX7_reach_40 : decode cX7_reach 40 = .ok (.iaload, 1) := by decide +kernel
theorem dX7_reach_41 : decode cX7_reach 41 = .ok (.ishl, 1) := by decide +kernel
theorem dX7_reach_42 : decode cX7_reach 42 = .ok (.iconst 1, 1) := by decide +kernel
theorem dX7_reach_43 : decode cX7_reach 43 = .ok (.aload_n 0, 1) := by decide +kernel
theorem dX7_reach_44 : decode cX7_reach 44 = .ok (.getfield 7, 3) := by decide +kernel
theorem dX7_reach_47 : decode cX7_reach 47 = .ok (.bipush 41, 2) := by decide +kernel
theorem dX7_reach_49 : decode cX7_reach 49 = .ok (.iload 7, 2) := by decide +kernel
theorem dX7_reach_51 : decode cX7_reach 51 = .ok (.iadd, 1) := by decide +kernel
theorem dX7_reach_52 : decode cX7_reach 52 = .ok (.iaload, 1) := by decide +kernel
theorem dX7_reach_53 : decode cX7_reach 53 = .ok (.ishl, 1) := by decide +kernel
theorem dX7_reach_54 : decode cX7_reach 54 = .ok (.ior, 1) := by decide +kernel
theorem dX7_reach_55 : decode cX7_reach 55 = .ok (.istore 8, 2) := by decide +kernel
theorem dX7_reach_57 : decode cX7_reach 57 = .ok (.iload 4, 2) := by decide +kernel
theorem dX7_reach_59 : decode cX7_reach 59 = .ok (.lload_n 1, 1) := by decide +kernel
theorem dX7_reach_60 : decode cX7_reach 60 = .ok (.iload 7, 2) := by decide +kernel
theorem dX7_reach_62 : decode cX7_reach 62 = .ok (.lshr, 1) := by decide +kernel
theorem dX7_reach_63 : decode cX7_reach 63 = .ok (.lconst 1, 1) := by decide +kernel
theorem dX7_reach_64 : decode cX7_reach 64 = .ok (.land, 1) := by decide +kernel
theorem dX7_reach_65 : decode cX7_reach 65 = .ok (.lconst 1, 1) := by decide +kernel
theorem dX7_reach_66 : decode cX7_reach 66 = .ok (.lcmp, 1) := by decide +kernel
theorem dX7_reach_67 : decode cX7_reach 67 = .ok (.ifCond .ne 16, 3) := by decide +kernel
theorem dX7_reach_70 : decode cX7_reach 70 = .ok (.iload 4, 2) := by decide +kernel
theorem dX7_reach_72 : decode cX7_reach 72 = .ok (.iload 8, 2) := by decide +kernel
theorem dX7_reach_74 : decode cX7_reach 74 = .ok (.iand, 1) := by decide +kernel
theorem dX7_reach_75 : decode cX7_reach 75 = .ok (.ifCond .eq 8, 3) := by decide +kernel
theorem dX7_reach_78 : decode cX7_reach 78 = .ok (.iload 8, 2) := by decide +kernel
theorem dX7_reach_80 : decode cX7_reach 80 = .ok (.goto 4, 3) := by decide +kernel
theorem dX7_reach_83 : decode cX7_reach 83 = .ok (.iconst 0, 1) := by decide +kernel
theorem dX7_reach_84 : decode cX7_reach 84 = .ok (.ior, 1) := by decide +kernel
theorem dX7_reach_85 : decode cX7_reach 85 = .ok (.istore 4, 2) := by decide +kernel
theorem dX7_reach_87 : decode cX7_reach 87 = .ok (.iinc 7 1, 3) := by decide +kernel
theorem dX7_reach_90 : decode cX7_reach 90 = .ok (.goto (-70), 3) := by decide +kernel
theorem dX7_reach_93 : decode cX7_reach 93 = .ok (.iload 4, 2) := by decide +kernel
theorem dX7_reach_95 : decode cX7_reach 95 = .ok (.iload 6, 2) := by decide +kernel
theorem dX7_reach_97 : decode cX7_reach 97 = .ok (.if_icmp .eq 7, 3) := by decide +kernel
theorem dX7_reach_100 : decode cX7_reach 100 = .ok (.iconst 1, 1) := by decide +kernel
theorem dX7_reach_101 : decode cX7_reach 101 = .ok (.goto 4, 3) := by decide +kernel
theorem dX7_reach_104 : decode cX7_reach 104 = .ok (.iconst 0, 1) := by decide +kernel
theorem dX7_reach_105 : decode cX7_reach 105 = .ok (.istore 5, 2) := by decide +kernel
theorem dX7_reach_107 : decode cX7_reach 107 = .ok (.goto (-99), 3) := by decide +kernel
theorem dX7_reach_110 : decode cX7_reach 110 = .ok (.iload 4, 2) := by decide +kernel
theorem dX7_reach_112 : decode cX7_reach 112 = .ok (.ireturn, 1) := by decide +kernel
theorem dX7_join_0 : decode cX7_join 0 = .ok (.aload_n 0, 1) := by decide +kernel
theorem dX7_join_1 : decode cX7_join 1 = .ok (.lload_n 1, 1) := by decide +kernel
theorem dX7_join_2 : decode cX7_join 2 = .ok (.iload_n 3, 1) := by decide +kernel
theorem dX7_join_3 : decode cX7_join 3 = .ok (.invokevirtual 54, 3) := by decide +kernel
theorem dX7_join_6 : decode cX7_join 6 = .ok (.iload 4, 2) := by decide +kernel
theorem dX7_join_8 : decode cX7_join 8 = .ok (.ishr, 1) := by decide +kernel
theorem dX7_join_9 : decode cX7_join 9 = .ok (.iconst 1, 1) := by decide +kernel
theorem dX7_join_10 : decode cX7_join 10 = .ok (.iand, 1) := by decide +kernel
theorem dX7_join_11 : decode cX7_join 11 = .ok (.iconst 1, 1) := by decide +kernel
theorem dX7_join_12 : decode cX7_join 12 = .ok (.if_icmp .ne 7, 3) := by decide +kernel
theorem dX7_join_15 : decode cX7_join 15 = .ok (.iconst 1, 1) := by decide +kernel
theorem dX7_join_16 : decode cX7_join 16 = .ok (.goto 4, 3) := by decide +kernel
theorem dX7_join_19 : decode cX7_join 19 = .ok (.iconst 0, 1) := by decide +kernel
theorem dX7_join_20 : decode cX7_join 20 = .ok (.ireturn, 1) := by decide +kernel
theorem dX7_parts_0 : decode cX7_parts 0 = .ok (.iconst 0, 1) := by decide +kernel
theorem dX7_parts_1 : decode cX7_parts 1 = .ok (.istore_n 3, 1) := by decide +kernel
theorem dX7_parts_2 : decode cX7_parts 2 = .ok (.iconst 0, 1) := by decide +kernel
theorem dX7_parts_3 : decode cX7_parts 3 = .ok (.istore 4, 2) := by decide +kernel
theorem dX7_parts_5 : decode cX7_parts 5 = .ok (.iconst 0, 1) := by decide +kernel
theorem dX7_parts_6 : decode cX7_parts 6 = .ok (.istore 5, 2) := by decide +kernel
theorem dX7_parts_8 : decode cX7_parts 8 = .ok (.iload 5, 2) := by decide +kernel
theorem dX7_parts_10 : decode cX7_parts 10 = .ok (.bipush 16, 2) := by decide +kernel
theorem dX7_parts_12 : decode cX7_parts 12 = .ok (.if_icmp .ge 34, 3) := by decide +kernel
theorem dX7_parts_15 : decode cX7_parts 15 = .ok (.iload 4, 2) := by decide +kernel
theorem dX7_parts_17 : decode cX7_parts 17 = .ok (.iload 5, 2) := by decide +kernel
theorem dX7_parts_19 : decode cX7_parts 19 = .ok (.ishr, 1) := by decide +kernel
theorem dX7_parts_20 : decode cX7_parts 20 = .ok (.iconst 1, 1) := by decide +kernel
theorem dX7_parts_21 : decode cX7_parts 21 = .ok (.iand, 1) := by decide +kernel
theorem dX7_parts_22 : decode cX7_parts 22 = .ok (.ifCond .ne 18, 3) := by decide +kernel
theorem dX7_parts_25 : decode cX7_parts 25 = .ok (.iload 4, 2) := by decide +kernel
theorem dX7_parts_27 : decode cX7_parts 27 = .ok (.aload_n 0, 1) := by decide +kernel
theorem dX7_parts_28 : decode cX7_parts 28 = .ok (.lload_n 1, 1) := by decide +kernel
theorem dX7_parts_29 : decode cX7_parts 29 = .ok (.iload 5, 2) := by decide +kernel
theorem dX7_parts_31 : decode cX7_parts 31 = .ok (.invokevirtual 54, 3) := by decide +kernel
theorem dX7_parts_34 : decode cX7_parts 34 = .ok (.ior, 1) := by decide +kernel
theorem dX7_parts_35 : decode cX7_parts 35 = .ok (.istore 4, 2) := by decide +kernel
theorem dX7_parts_37 : decode cX7_parts 37 = .ok (.iinc 3 1, 3) := by decide +kernel
theorem dX7_parts_40 : decode cX7_parts 40 = .ok (.iinc 5 1, 3) := by decide +kernel
theorem dX7_parts_43 : decode cX7_parts 43 = .ok (.goto (-35), 3) := by decide +kernel
theorem dX7_parts_46 : decode cX7_parts 46 = .ok (.iload_n 3, 1) := by decide +kernel
theorem dX7_parts_47 : decode cX7_parts 47 = .ok (.ireturn, 1) := by decide +kernel
theorem dX7_isNeeded_0 : decode cX7_isNeeded 0 = .ok (.aload_n 0, 1) := by decide +kernel
theorem dX7_isNeeded_1 : decode cX7_isNeeded 1 = .ok (.lload_n 1, 1) := by decide +kernel
theorem dX7_isNeeded_2 : decode cX7_isNeeded 2 = .ok (.lconst 1, 1) := by decide +kernel
theorem dX7_isNeeded_3 : decode cX7_isNeeded 3 = .ok (.iload_n 3, 1) := by decide +kernel
theorem dX7_isNeeded_4 : decode cX7_isNeeded 4 = .ok (.lshl, 1) := by decide +kernel
theorem dX7_isNeeded_5 : decode cX7_isNeeded 5 = .ok (.ldc2_w 58, 3) := by decide +kernel
theorem dX7_isNeeded_8 : decode cX7_isNeeded 8 = .ok (.lxor, 1) := by decide +kernel
theorem dX7_isNeeded_9 : decode cX7_isNeeded 9 = .ok (.land, 1) := by decide +kernel
theorem dX7_isNeeded_10 : decode cX7_isNeeded 10 = .ok (.aload_n 0, 1) := by decide +kernel
theorem dX7_isNeeded_11 : decode cX7_isNeeded 11 = .ok (.getfield 7, 3) := by decide +kernel
theorem dX7_isNeeded_14 : decode cX7_isNeeded 14 = .ok (.iconst 1, 1) := by decide +kernel
theorem dX7_isNeeded_15 : decode cX7_isNeeded 15 = .ok (.iload_n 3, 1) := by decide +kernel
theorem dX7_isNeeded_16 : decode cX7_isNeeded 16 = .ok (.iadd, 1) := by decide +kernel
theorem dX7_isNeeded_17 : decode cX7_isNeeded 17 = .ok (.iaload, 1) := by decide +kernel
theorem dX7_isNeeded_18 : decode cX7_isNeeded 18 = .ok (.aload_n 0, 1) := by decide +kernel
theorem dX7_isNeeded_19 : decode cX7_isNeeded 19 = .ok (.getfield 7, 3) := by decide +kernel
theorem dX7_isNeeded_22 : decode cX7_isNeeded 22 = .ok (.bipush 41, 2) := by decide +kernel
theorem dX7_isNeeded_24 : decode cX7_isNeeded 24 = .ok (.iload_n 3, 1) := by decide +kernel
theorem dX7_isNeeded_25 : decode cX7_isNeeded 25 = .ok (.iadd, 1) := by decide +kernel
theorem dX7_isNeeded_26 : decode cX7_isNeeded 26 = .ok (.iaload, 1) := by decide +kernel
theorem dX7_isNeeded_27 : decode cX7_isNeeded 27 = .ok (.invokevirtual 60, 3) := by decide +kernel
theorem dX7_isNeeded_30 : decode cX7_isNeeded 30 = .ok (.ifCond .ne 7, 3) := by decide +kernel
theorem dX7_isNeeded_33 : decode cX7_isNeeded 33 = .ok (.iconst 1, 1) := by decide +kernel
theorem dX7_isNeeded_34 : decode cX7_isNeeded 34 = .ok (.goto 4, 3) := by decide +kernel
theorem dX7_isNeeded_37 : decode cX7_isNeeded 37 = .ok (.iconst 0, 1) := by decide +kernel
theorem dX7_isNeeded_38 : decode cX7_isNeeded 38 = .ok (.ireturn, 1) := by decide +kernel
theorem dX7_isOdd_0 : decode cX7_isOdd 0 = .ok (.iconst 0, 1) := by decide +kernel
theorem dX7_isOdd_1 : decode cX7_isOdd 1 = .ok (.istore_n 3, 1) := by decide +kernel
theorem dX7_isOdd_2 : decode cX7_isOdd 2 = .ok (.iconst 0, 1) := by decide +kernel
theorem dX7_isOdd_3 : decode cX7_isOdd 3 = .ok (.istore 4, 2) := by decide +kernel
theorem dX7_isOdd_5 : decode cX7_isOdd 5 = .ok (.iconst 0, 1) := by decide +kernel
theorem dX7_isOdd_6 : decode cX7_isOdd 6 = .ok (.istore 5, 2) := by decide +kernel
theorem dX7_isOdd_8 : decode cX7_isOdd 8 = .ok (.iload 5, 2) := by decide +kernel
theorem dX7_isOdd_10 : decode cX7_isOdd 10 = .ok (.bipush 16, 2) := by decide +kernel
theorem dX7_isOdd_12 : decode cX7_isOdd 12 = .ok (.if_icmp .ge 221, 3) := by decide +kernel
theorem dX7_isOdd_15 : decode cX7_isOdd 15 = .ok (.iload_n 3, 1) := by decide +kernel
theorem dX7_isOdd_16 : decode cX7_isOdd 16 = .ok (.iload 4, 2) := by decide +kernel
theorem dX7_isOdd_18 : decode cX7_isOdd 18 = .ok (.ior, 1) := by decide +kernel
theorem dX7_isOdd_19 : decode cX7_isOdd 19 = .ok (.iload 5, 2) := by decide +kernel
theorem dX7_isOdd_21 : decode cX7_isOdd 21 = .ok (.ishr, 1) := by decide +kernel
theorem dX7_isOdd_22 : decode cX7_isOdd 22 = .ok (.iconst 1, 1) := by decide +kernel
theorem dX7_isOdd_23 : decode cX7_isOdd 23 = .ok (.iand, 1) := by decide +kernel
theorem dX7_isOdd_24 : decode cX7_isOdd 24 = .ok (.ifCond .ne 203, 3) := by decide +kernel
theorem dX7_isOdd_27 : decode cX7_isOdd 27 = .ok (.iload_n 3, 1) := by decide +kernel
theorem dX7_isOdd_28 : decode cX7_isOdd 28 = .ok (.iconst 1, 1) := by decide +kernel
theorem dX7_isOdd_29 : decode cX7_isOdd 29 = .ok (.iload 5, 2) := by decide +kernel
theorem dX7_isOdd_31 : decode cX7_isOdd 31 = .ok (.ishl, 1) := by decide +kernel
theorem dX7_isOdd_32 : decode cX7_isOdd 32 = .ok (.ior, 1) := by decide +kernel
theorem dX7_isOdd_33 : decode cX7_isOdd 33 = .ok (.istore_n 3, 1) := by decide +kernel
theorem dX7_isOdd_34 : decode cX7_isOdd 34 = .ok (.iconst 1, 1) := by decide +kernel
theorem dX7_isOdd_35 : decode cX7_isOdd 35 = .ok (.istore 6, 2) := by decide +kernel
theorem dX7_isOdd_37 : decode cX7_isOdd 37 = .ok (.iload 6, 2) := by decide +kernel
theorem dX7_isOdd_39 : decode cX7_isOdd 39 = .ok (.ifCond .eq 188, 3) := by decide +kernel
theorem dX7_isOdd_42 : decode cX7_isOdd 42 = .ok (.iload_n 3, 1) := by decide +kernel
theorem dX7_isOdd_43 : decode cX7_isOdd 43 = .ok (.istore 7, 2) := by decide +kernel
theorem dX7_isOdd_45 : decode cX7_isOdd 45 = .ok (.iload 4, 2) := by decide +kernel
theorem dX7_isOdd_47 : decode cX7_isOdd 47 = .ok (.istore 8, 2) := by decide +kernel
theorem dX7_isOdd_49 : decode cX7_isOdd 49 = .ok (.iconst 0, 1) := by decide +kernel
theorem dX7_isOdd_50 : decode cX7_isOdd 50 = .ok (.istore 9, 2) := by decide +kernel
theorem dX7_isOdd_52 : decode cX7_isOdd 52 = .ok (.iload 9, 2) := by decide +kernel
theorem dX7_isOdd_54 : decode cX7_isOdd 54 = .ok (.aload_n 0, 1) := by decide +kernel
theorem dX7_isOdd_55 : decode cX7_isOdd 55 = .ok (.getfield 7, 3) := by decide +kernel
theorem dX7_isOdd_58 : decode cX7_isOdd 58 = .ok (.iconst 0, 1) := by decide +kernel
theorem dX7_isOdd_59 : decode cX7_isOdd 59 = .ok (.iaload, 1) := by decide +kernel
theorem dX7_isOdd_60 : decode cX7_isOdd 60 = .ok (.if_icmp .ge 144, 3) := by decide +kernel
theorem dX7_isOdd_63 : decode cX7_isOdd 63 = .ok (.iconst 1, 1) := by decide +kernel
theorem dX7_isOdd_64 : decode cX7_isOdd 64 = .ok (.aload_n 0, 1) := by decide +kernel
theorem dX7_isOdd_65 : decode cX7_isOdd 65 = .ok (.getfield 7, 3) := by decide +kernel
theorem dX7_isOdd_68 : decode cX7_isOdd 68 = .ok (.iconst 1, 1) := by decide +kernel
theorem dX7_isOdd_69 : decode cX7_isOdd 69 = .ok (.iload 9, 2) := by decide +kernel
theorem dX7_isOdd_71 : decode cX7_isOdd 71 = .ok (.iadd, 1) := by decide +kernel
theorem dX7_isOdd_72 : decode cX7_isOdd 72 = .ok (.iaload, 1) := by decide +kernel
theorem dX7_isOdd_73 : decode cX7_isOdd 73 = .ok (.ishl, 1) := by decide +kernel
theorem dX7_isOdd_74 : decode cX7_isOdd 74 = .ok (.istore 10, 2) := by decide +kernel
theorem dX7_isOdd_76 : decode cX7_isOdd 76 = .ok (.iconst 1, 1) := by decide +kernel
theorem dX7_isOdd_77 : decode cX7_isOdd 77 = .ok (.aload_n 0, 1) := by decide +kernel
theorem dX7_isOdd_78 : decode cX7_isOdd 78 = .ok (.getfield 7, 3) := by decide +kernel
theorem dX7_isOdd_81 : decode cX7_isOdd 81 = .ok (.bipush 41, 2) := by decide +kernel
theorem dX7_isOdd_83 : decode cX7_isOdd 83 = .ok (.iload 9, 2) := by decide +kernel
theorem dX7_isOdd_85 : decode cX7_isOdd 85 = .ok (.iadd, 1) := by decide +kernel
theorem dX7_isOdd_86 : decode cX7_isOdd 86 = .ok (.iaload, 1) := by decide +kernel
theorem dX7_isOdd_87 : decode cX7_isOdd 87 = .ok (.ishl, 1) := by decide +kernel
theorem dX7_isOdd_88 : decode cX7_isOdd 88 = .ok (.istore 11, 2) := by decide +kernel
theorem dX7_isOdd_90 : decode cX7_isOdd 90 = .ok (.lload_n 1, 1) := by decide +kernel
theorem dX7_isOdd_91 : decode cX7_isOdd 91 = .ok (.iload 9, 2) := by decide +kernel
theorem dX7_isOdd_93 : decode cX7_isOdd 93 = .ok (.lshr, 1) := by decide +kernel
theorem dX7_isOdd_94 : decode cX7_isOdd 94 = .ok (.lconst 1, 1) := by decide +kernel
theorem dX7_isOdd_95 : decode cX7_isOdd 95 = .ok (.land, 1) := by decide +kernel
theorem dX7_isOdd_96 : decode cX7_isOdd 96 = .ok (.lconst 1, 1) := by decide +kernel
theorem dX7_isOdd_97 : decode cX7_isOdd 97 = .ok (.lcmp, 1) := by decide +kernel
theorem dX7_isOdd_98 : decode cX7_isOdd 98 = .ok (.ifCond .ne 7, 3) := by decide +kernel
theorem dX7_isOdd_101 : decode cX7_isOdd 101 = .ok (.iconst 1, 1) := by decide +kernel
theorem dX7_isOdd_102 : decode cX7_isOdd 102 = .ok (.goto 4, 3) := by decide +kernel
theorem dX7_isOdd_105 : decode cX7_isOdd 105 = .ok (.iconst 0, 1) := by decide +kernel
theorem dX7_isOdd_106 : decode cX7_isOdd 106 = .ok (.istore 12, 2) := by decide +kernel
theorem dX7_isOdd_108 : decode cX7_isOdd 108 = .ok (.iload 4, 2) := by decide +kernel
theorem dX7_isOdd_110 : decode cX7_isOdd 110 = .ok (.iload 12, 2) := by decide +kernel
theorem dX7_isOdd_112 : decode cX7_isOdd 112 = .ok (.ifCond .eq 15, 3) := by decide +kernel
theorem dX7_isOdd_115 : decode cX7_isOdd 115 = .ok (.iload_n 3, 1) := by decide +kernel
theorem dX7_isOdd_116 : decode cX7_isOdd 116 = .ok (.iload 10, 2) := by decide +kernel
theorem dX7_isOdd_118 : decode cX7_isOdd 118 = .ok (.iand, 1) := by decide +kernel
theorem dX7_isOdd_119 : decode cX7_isOdd 119 = .ok (.ifCond .eq 8, 3) := by decide +kernel
theorem dX7_isOdd_122 : decode cX7_isOdd 122 = .ok (.iload 11, 2) := by decide +kernel
theorem dX7_isOdd_124 : decode cX7_isOdd 124 = .ok (.goto 4, 3) := by decide +kernel
theorem dX7_isOdd_127 : decode cX7_isOdd 127 = .ok (.iconst 0, 1) := by decide +kernel
theorem dX7_isOdd_128 : decode cX7_isOdd 128 = .ok (.ior, 1) := by decide +kernel
theorem dX7_isOdd_129 : decode cX7_isOdd 129 = .ok (.istore 4, 2) := by decide +kernel
theorem dX7_isOdd_131 : decode cX7_isOdd 131 = .ok (.iload 4, 2) := by decide +kernel
theorem dX7_isOdd_133 : decode cX7_isOdd 133 = .ok (.iload 12, 2) := by decide +kernel
theorem dX7_isOdd_135 : decode cX7_isOdd 135 = .ok (.ifCond .eq 15, 3) := by decide +kernel
theorem dX7_isOdd_138 : decode cX7_isOdd 138 = .ok (.iload_n 3, 1) := by decide +kernel
theorem dX7_isOdd_139 : decode cX7_isOdd 139 = .ok (.iload 11, 2) := by decide +kernel
theorem dX7_isOdd_141 : decode cX7_isOdd 141 = .ok (.iand, 1) := by decide +kernel
theorem dX7_isOdd_142 : decode cX7_isOdd 142 = .ok (.ifCond .eq 8, 3) := by decide +kernel
theorem dX7_isOdd_145 : decode cX7_isOdd 145 = .ok (.iload 10, 2) := by decide +kernel
theorem dX7_isOdd_147 : decode cX7_isOdd 147 = .ok (.goto 4, 3) := by decide +kernel
theorem dX7_isOdd_150 : decode cX7_isOdd 150 = .ok (.iconst 0, 1) := by decide +kernel
theorem dX7_isOdd_151 : decode cX7_isOdd 151 = .ok (.ior, 1) := by decide +kernel
theorem dX7_isOdd_152 : decode cX7_isOdd 152 = .ok (.istore 4, 2) := by decide +kernel
theorem dX7_isOdd_154 : decode cX7_isOdd 154 = .ok (.iload_n 3, 1) := by decide +kernel
theorem dX7_isOdd_155 : decode cX7_isOdd 155 = .ok (.iload 12, 2) := by decide +kernel
theorem dX7_isOdd_157 : decode cX7_isOdd 157 = .ok (.ifCond .eq 16, 3) := by decide +kernel
theorem dX7_isOdd_160 : decode cX7_isOdd 160 = .ok (.iload 4, 2) := by decide +kernel
theorem dX7_isOdd_162 : decode cX7_isOdd 162 = .ok (.iload 10, 2) := by decide +kernel
theorem dX7_isOdd_164 : decode cX7_isOdd 164 = .ok (.iand, 1) := by decide +kernel
theorem dX7_isOdd_165 : decode cX7_isOdd 165 = .ok (.ifCond .eq 8, 3) := by decide +kernel
theorem dX7_isOdd_168 : decode cX7_isOdd 168 = .ok (.iload 11, 2) := by decide +kernel
theorem dX7_isOdd_170 : decode cX7_isOdd 170 = .ok (.goto 4, 3) := by decide +kernel
theorem dX7_isOdd_173 : decode cX7_isOdd 173 = .ok (.iconst 0, 1) := by decide +kernel
theorem dX7_isOdd_174 : decode cX7_isOdd 174 = .ok (.ior, 1) := by decide +kernel
theorem dX7_isOdd_175 : decode cX7_isOdd 175 = .ok (.istore_n 3, 1) := by decide +kernel
theorem dX7_isOdd_176 : decode cX7_isOdd 176 = .ok (.iload_n 3, 1) := by decide +kernel
theorem dX7_isOdd_177 : decode cX7_isOdd 177 = .ok (.iload 12, 2) := by decide +kernel
theorem dX7_isOdd_179 : decode cX7_isOdd 179 = .ok (.ifCond .eq 16, 3) := by decide +kernel
theorem dX7_isOdd_182 : decode cX7_isOdd 182 = .ok (.iload 4, 2) := by decide +kernel
theorem dX7_isOdd_184 : decode cX7_isOdd 184 = .ok (.iload 11, 2) := by decide +kernel
theorem dX7_isOdd_186 : decode cX7_isOdd 186 = .ok (.iand, 1) := by decide +kernel
theorem dX7_isOdd_187 : decode cX7_isOdd 187 = .ok (.ifCond .eq 8, 3) := by decide +kernel
theorem dX7_isOdd_190 : decode cX7_isOdd 190 = .ok (.iload 10, 2) := by decide +kernel
theorem dX7_isOdd_192 : decode cX7_isOdd 192 = .ok (.goto 4, 3) := by decide +kernel
theorem dX7_isOdd_195 : decode cX7_isOdd 195 = .ok (.iconst 0, 1) := by decide +kernel
theorem dX7_isOdd_196 : decode cX7_isOdd 196 = .ok (.ior, 1) := by decide +kernel
theorem dX7_isOdd_197 : decode cX7_isOdd 197 = .ok (.istore_n 3, 1) := by decide +kernel
theorem dX7_isOdd_198 : decode cX7_isOdd 198 = .ok (.iinc 9 1, 3) := by decide +kernel
theorem dX7_isOdd_201 : decode cX7_isOdd 201 = .ok (.goto (-149), 3) := by decide +kernel
theorem dX7_isOdd_204 : decode cX7_isOdd 204 = .ok (.iload_n 3, 1) := by decide +kernel
theorem dX7_isOdd_205 : decode cX7_isOdd 205 = .ok (.iload 7, 2) := by decide +kernel
theorem dX7_isOdd_207 : decode cX7_isOdd 207 = .ok (.if_icmp .ne 10, 3) := by decide +kernel
theorem dX7_isOdd_210 : decode cX7_isOdd 210 = .ok (.iload 4, 2) := by decide +kernel
theorem dX7_isOdd_212 : decode cX7_isOdd 212 = .ok (.iload 8, 2) := by decide +kernel
theorem dX7_isOdd_214 : decode cX7_isOdd 214 = .ok (.if_icmp .eq 7, 3) := by decide +kernel
theorem dX7_isOdd_217 : decode cX7_isOdd 217 = .ok (.iconst 1, 1) := by decide +kernel
theorem dX7_isOdd_218 : decode cX7_isOdd 218 = .ok (.goto 4, 3) := by decide +kernel
theorem dX7_isOdd_221 : decode cX7_isOdd 221 = .ok (.iconst 0, 1) := by decide +kernel
theorem dX7_isOdd_222 : decode cX7_isOdd 222 = .ok (.istore 6, 2) := by decide +kernel
theorem dX7_isOdd_224 : decode cX7_isOdd 224 = .ok (.goto (-187), 3) := by decide +kernel
theorem dX7_isOdd_227 : decode cX7_isOdd 227 = .ok (.iinc 5 1, 3) := by decide +kernel
theorem dX7_isOdd_230 : decode cX7_isOdd 230 = .ok (.goto (-222), 3) := by decide +kernel
theorem dX7_isOdd_233 : decode cX7_isOdd 233 = .ok (.iload_n 3, 1) := by decide +kernel
theorem dX7_isOdd_234 : decode cX7_isOdd 234 = .ok (.iload 4, 2) := by decide +kernel
theorem dX7_isOdd_236 : decode cX7_isOdd 236 = .ok (.iand, 1) := by decide +kernel
theorem dX7_isOdd_237 : decode cX7_isOdd 237 = .ok (.ifCond .eq 7, 3) := by decide +kernel
theorem dX7_isOdd_240 : decode cX7_isOdd 240 = .ok (.iconst 1, 1) := by decide +kernel
theorem dX7_isOdd_241 : decode cX7_isOdd 241 = .ok (.goto 4, 3) := by decide +kernel
theorem dX7_isOdd_244 : decode cX7_isOdd 244 = .ok (.iconst 0, 1) := by decide +kernel
theorem dX7_isOdd_245 : decode cX7_isOdd 245 = .ok (.ireturn, 1) := by decide +kernel
theorem dX7_spanLong_0 : decode cX7_spanLong 0 = .ok (.bipush 64, 2) := by decide +kernel
theorem dX7_spanLong_2 : decode cX7_spanLong 2 = .ok (.iload_n 0, 1) := by decide +kernel
theorem dX7_spanLong_3 : decode cX7_spanLong 3 = .ok (.ishr, 1) := by decide +kernel
theorem dX7_spanLong_4 : decode cX7_spanLong 4 = .ok (.ireturn, 1) := by decide +kernel
theorem dX7_begin_0 : decode cX7_begin 0 = .ok (.iload_n 0, 1) := by decide +kernel
theorem dX7_begin_1 : decode cX7_begin 1 = .ok (.iload_n 0, 1) := by decide +kernel
theorem dX7_begin_2 : decode cX7_begin 2 = .ok (.iload_n 1, 1) := by decide +kernel
theorem dX7_begin_3 : decode cX7_begin 3 = .ok (.invokestatic 64, 3) := by decide +kernel
theorem dX7_begin_6 : decode cX7_begin 6 = .ok (.irem, 1) := by decide +kernel
theorem dX7_begin_7 : decode cX7_begin 7 = .ok (.isub, 1) := by decide +kernel
theorem dX7_begin_8 : decode cX7_begin 8 = .ok (.ireturn, 1) := by decide +kernel
theorem dX7_covers_0 : decode cX7_covers 0 = .ok (.iload_n 2, 1) := by decide +kernel
theorem dX7_covers_1 : decode cX7_covers 1 = .ok (.iload_n 3, 1) := by decide +kernel
theorem dX7_covers_2 : decode cX7_covers 2 = .ok (.invokestatic 68, 3) := by decide +kernel
theorem dX7_covers_5 : decode cX7_covers 5 = .ok (.istore 4, 2) := by decide +kernel
theorem dX7_covers_7 : decode cX7_covers 7 = .ok (.aload_n 0, 1) := by decide +kernel
theorem dX7_covers_8 : decode cX7_covers 8 = .ok (.iload_n 1, 1) := by decide +kernel
theorem dX7_covers_9 : decode cX7_covers 9 = .ok (.iload 4, 2) := by decide +kernel
theorem dX7_covers_11 : decode cX7_covers 11 = .ok (.iload 4, 2) := by decide +kernel
theorem dX7_covers_13 : decode cX7_covers 13 = .ok (.iload_n 3, 1) := by decide +kernel
theorem dX7_covers_14 : decode cX7_covers 14 = .ok (.invokestatic 64, 3) := by decide +kernel
theorem dX7_covers_17 : decode cX7_covers 17 = .ok (.iadd, 1) := by decide +kernel
theorem dX7_covers_18 : decode cX7_covers 18 = .ok (.invokevirtual 46, 3) := by decide +kernel
theorem dX7_covers_21 : decode cX7_covers 21 = .ok (.ireturn, 1) := by decide +kernel
theorem dX7_laidAt_0 : decode cX7_laidAt 0 = .ok (.lconst 0, 1) := by decide +kernel
theorem dX7_laidAt_1 : decode cX7_laidAt 1 = .ok (.lstore_n 3, 1) := by decide +kernel
theorem dX7_laidAt_2 : decode cX7_laidAt 2 = .ok (.iconst 0, 1) := by decide +kernel
theorem dX7_laidAt_3 : decode cX7_laidAt 3 = .ok (.istore 5, 2) := by decide +kernel
theorem dX7_laidAt_5 : decode cX7_laidAt 5 = .ok (.iload 5, 2) := by decide +kernel
theorem dX7_laidAt_7 : decode cX7_laidAt 7 = .ok (.aload_n 0, 1) := by decide +kernel
theorem dX7_laidAt_8 : decode cX7_laidAt 8 = .ok (.getfield 7, 3) := by decide +kernel
theorem dX7_laidAt_11 : decode cX7_laidAt 11 = .ok (.iconst 0, 1) := by decide +kernel
theorem dX7_laidAt_12 : decode cX7_laidAt 12 = .ok (.iaload, 1) := by decide +kernel
theorem dX7_laidAt_13 : decode cX7_laidAt 13 = .ok (.if_icmp .ge 48, 3) := by decide +kernel
theorem dX7_laidAt_16 : decode cX7_laidAt 16 = .ok (.lload_n 3, 1) := by decide +kernel
theorem dX7_laidAt_17 : decode cX7_laidAt 17 = .ok (.aload_n 0, 1) := by decide +kernel
theorem dX7_laidAt_18 : decode cX7_laidAt 18 = .ok (.iload 5, 2) := by decide +kernel
theorem dX7_laidAt_20 : decode cX7_laidAt 20 = .ok (.iload_n 1, 1) := by decide +kernel
theorem dX7_laidAt_21 : decode cX7_laidAt 21 = .ok (.iload_n 2, 1) := by decide +kernel
theorem dX7_laidAt_22 : decode cX7_laidAt 22 = .ok (.invokevirtual 72, 3) := by decide +kernel
theorem dX7_laidAt_25 : decode cX7_laidAt 25 = .ok (.ifCond .eq 27, 3) := by decide +kernel
theorem dX7_laidAt_28 : decode cX7_laidAt 28 = .ok (.iload_n 2, 1) := by decide +kernel
theorem dX7_laidAt_29 : decode cX7_laidAt 29 = .ok (.ifCond .eq 16, 3) := by decide +kernel
theorem dX7_laidAt_32 : decode cX7_laidAt 32 = .ok (.aload_n 0, 1) := by decide +kernel
theorem dX7_laidAt_33 : decode cX7_laidAt 33 = .ok (.iload 5, 2) := by decide +kernel
theorem dX7_laidAt_35 : decode cX7_laidAt 35 = .ok (.iload_n 1, 1) := by decide +kernel
theorem dX7_laidAt_36 : decode cX7_laidAt 36 = .ok (.iload_n 2, 1) := by decide +kernel
theorem dX7_laidAt_37 : decode cX7_laidAt 37 = .ok (.iconst 1, 1) := by decide +kernel
theorem dX7_laidAt_38 : decode cX7_laidAt 38 = .ok (.isub, 1) := by decide +kernel
theorem dX7_laidAt_39 : decode cX7_laidAt 39 = .ok (.invokevirtual 72, 3) := by decide +kernel
theorem dX7_laidAt_42 : decode cX7_laidAt 42 = .ok (.ifCond .ne 10, 3) := by decide +kernel
theorem dX7_laidAt_45 : decode cX7_laidAt 45 = .ok (.lconst 1, 1) := by decide +kernel
theorem dX7_laidAt_46 : decode cX7_laidAt 46 = .ok (.iload 5, 2) := by decide +kernel
theorem dX7_laidAt_48 : decode cX7_laidAt 48 = .ok (.lshl, 1) := by decide +kernel
theorem dX7_laidAt_49 : decode cX7_laidAt 49 = .ok (.goto 4, 3) := by decide +kernel
theorem dX7_laidAt_52 : decode cX7_laidAt 52 = .ok (.lconst 0, 1) := by decide +kernel
theorem dX7_laidAt_53 : decode cX7_laidAt 53 = .ok (.lor, 1) := by decide +kernel
theorem dX7_laidAt_54 : decode cX7_laidAt 54 = .ok (.lstore_n 3, 1) := by decide +kernel
theorem dX7_laidAt_55 : decode cX7_laidAt 55 = .ok (.iinc 5 1, 3) := by decide +kernel
theorem dX7_laidAt_58 : decode cX7_laidAt 58 = .ok (.goto (-53), 3) := by decide +kernel
theorem dX7_laidAt_61 : decode cX7_laidAt 61 = .ok (.lload_n 3, 1) := by decide +kernel
theorem dX7_laidAt_62 : decode cX7_laidAt 62 = .ok (.lreturn, 1) := by decide +kernel
theorem dX7_livingAll_0 : decode cX7_livingAll 0 = .ok (.lconst 0, 1) := by decide +kernel
theorem dX7_livingAll_1 : decode cX7_livingAll 1 = .ok (.lstore_n 3, 1) := by decide +kernel
theorem dX7_livingAll_2 : decode cX7_livingAll 2 = .ok (.iconst 0, 1) := by decide +kernel
theorem dX7_livingAll_3 : decode cX7_livingAll 3 = .ok (.istore 5, 2) := by decide +kernel
theorem dX7_livingAll_5 : decode cX7_livingAll 5 = .ok (.iload 5, 2) := by decide +kernel
theorem dX7_livingAll_7 : decode cX7_livingAll 7 = .ok (.aload_n 0, 1) := by decide +kernel
theorem dX7_livingAll_8 : decode cX7_livingAll 8 = .ok (.getfield 7, 3) := by decide +kernel
theorem dX7_livingAll_11 : decode cX7_livingAll 11 = .ok (.iconst 0, 1) := by decide +kernel
theorem dX7_livingAll_12 : decode cX7_livingAll 12 = .ok (.iaload, 1) := by decide +kernel
theorem dX7_livingAll_13 : decode cX7_livingAll 13 = .ok (.if_icmp .ge 31, 3) := by decide +kernel
theorem dX7_livingAll_16 : decode cX7_livingAll 16 = .ok (.lload_n 3, 1) := by decide +kernel
theorem dX7_livingAll_17 : decode cX7_livingAll 17 = .ok (.aload_n 0, 1) := by decide +kernel
theorem dX7_livingAll_18 : decode cX7_livingAll 18 = .ok (.iload 5, 2) := by decide +kernel
theorem dX7_livingAll_20 : decode cX7_livingAll 20 = .ok (.iload_n 1, 1) := by decide +kernel
theorem dX7_livingAll_21 : decode cX7_livingAll 21 = .ok (.iload_n 2, 1) := by decide +kernel
theorem dX7_livingAll_22 : decode cX7_livingAll 22 = .ok (.invokevirtual 72, 3) := by decide +kernel
theorem dX7_livingAll_25 : decode cX7_livingAll 25 = .ok (.ifCond .eq 10, 3) := by decide +kernel
theorem dX7_livingAll_28 : decode cX7_livingAll 28 = .ok (.lconst 1, 1) := by decide +kernel
theorem dX7_livingAll_29 : decode cX7_livingAll 29 = .ok (.iload 5, 2) := by decide +kernel
theorem dX7_livingAll_31 : decode cX7_livingAll 31 = .ok (.lshl, 1) := by decide +kernel
theorem dX7_livingAll_32 : decode cX7_livingAll 32 = .ok (.goto 4, 3) := by decide +kernel
theorem dX7_livingAll_35 : decode cX7_livingAll 35 = .ok (.lconst 0, 1) := by decide +kernel
theorem dX7_livingAll_36 : decode cX7_livingAll 36 = .ok (.lor, 1) := by decide +kernel
theorem dX7_livingAll_37 : decode cX7_livingAll 37 = .ok (.lstore_n 3, 1) := by decide +kernel
theorem dX7_livingAll_38 : decode cX7_livingAll 38 = .ok (.iinc 5 1, 3) := by decide +kernel
theorem dX7_livingAll_41 : decode cX7_livingAll 41 = .ok (.goto (-36), 3) := by decide +kernel
theorem dX7_livingAll_44 : decode cX7_livingAll 44 = .ok (.lload_n 3, 1) := by decide +kernel
theorem dX7_livingAll_45 : decode cX7_livingAll 45 = .ok (.lreturn, 1) := by decide +kernel
theorem dX7_madeAt_0 : decode cX7_madeAt 0 = .ok (.iload_n 2, 1) := by decide +kernel
theorem dX7_madeAt_1 : decode cX7_madeAt 1 = .ok (.ifCond .ne 8, 3) := by decide +kernel
theorem dX7_madeAt_4 : decode cX7_madeAt 4 = .ok (.bipush 16, 2) := by decide +kernel
theorem dX7_madeAt_6 : decode cX7_madeAt 6 = .ok (.goto 15, 3) := by decide +kernel
theorem dX7_madeAt_9 : decode cX7_madeAt 9 = .ok (.aload_n 0, 1) := by decide +kernel
theorem dX7_madeAt_10 : decode cX7_madeAt 10 = .ok (.aload_n 0, 1) := by decide +kernel
theorem dX7_madeAt_11 : decode cX7_madeAt 11 = .ok (.iload_n 1, 1) := by decide +kernel
theorem dX7_madeAt_12 : decode cX7_madeAt 12 = .ok (.iload_n 2, 1) := by decide +kernel
theorem dX7_madeAt_13 : decode cX7_madeAt 13 = .ok (.iconst 1, 1) := by decide +kernel
theorem dX7_madeAt_14 : decode cX7_madeAt 14 = .ok (.isub, 1) := by decide +kernel
theorem dX7_madeAt_15 : decode cX7_madeAt 15 = .ok (.invokevirtual 75, 3) := by decide +kernel
theorem dX7_madeAt_18 : decode cX7_madeAt 18 = .ok (.invokevirtual 79, 3) := by decide +kernel
theorem dX7_madeAt_21 : decode cX7_madeAt 21 = .ok (.aload_n 0, 1) := by decide +kernel
theorem dX7_madeAt_22 : decode cX7_madeAt 22 = .ok (.aload_n 0, 1) := by decide +kernel
theorem dX7_madeAt_23 : decode cX7_madeAt 23 = .ok (.iload_n 1, 1) := by decide +kernel
theorem dX7_madeAt_24 : decode cX7_madeAt 24 = .ok (.iload_n 2, 1) := by decide +kernel
theorem dX7_madeAt_25 : decode cX7_madeAt 25 = .ok (.invokevirtual 75, 3) := by decide +kernel
theorem dX7_madeAt_28 : decode cX7_madeAt 28 = .ok (.invokevirtual 79, 3) := by decide +kernel
theorem dX7_madeAt_31 : decode cX7_madeAt 31 = .ok (.isub, 1) := by decide +kernel
theorem dX7_madeAt_32 : decode cX7_madeAt 32 = .ok (.ireturn, 1) := by decide +kernel
theorem dX7_spansOf_0 : decode cX7_spansOf 0 = .ok (.iconst 0, 1) := by decide +kernel
theorem dX7_spansOf_1 : decode cX7_spansOf 1 = .ok (.istore_n 2, 1) := by decide +kernel
theorem dX7_spansOf_2 : decode cX7_spansOf 2 = .ok (.iconst 0, 1) := by decide +kernel
theorem dX7_spansOf_3 : decode cX7_spansOf 3 = .ok (.istore_n 3, 1) := by decide +kernel
theorem dX7_spansOf_4 : decode cX7_spansOf 4 = .ok (.iload_n 3, 1) := by decide +kernel
theorem dX7_spansOf_5 : decode cX7_spansOf 5 = .ok (.bipush 6, 2) := by decide +kernel
theorem dX7_spansOf_7 : decode cX7_spansOf 7 = .ok (.if_icmp .gt 67, 3) := by decide +kernel
theorem dX7_spansOf_10 : decode cX7_spansOf 10 = .ok (.iconst 0, 1) := by decide +kernel
theorem dX7_spansOf_11 : decode cX7_spansOf 11 = .ok (.istore 4, 2) := by decide +kernel
theorem dX7_spansOf_13 : decode cX7_spansOf 13 = .ok (.iload 4, 2) := by decide +kernel
theorem dX7_spansOf_15 : decode cX7_spansOf 15 = .ok (.bipush 64, 2) := by decide +kernel
theorem dX7_spansOf_17 : decode cX7_spansOf 17 = .ok (.if_icmp .ge 51, 3) := by decide +kernel
theorem dX7_spansOf_20 : decode cX7_spansOf 20 = .ok (.iload_n 2, 1) := by decide +kernel
theorem dX7_spansOf_21 : decode cX7_spansOf 21 = .ok (.aload_n 0, 1) := by decide +kernel
theorem dX7_spansOf_22 : decode cX7_spansOf 22 = .ok (.iload_n 1, 1) := by decide +kernel
theorem dX7_spansOf_23 : decode cX7_spansOf 23 = .ok (.iload 4, 2) := by decide +kernel
theorem dX7_spansOf_25 : decode cX7_spansOf 25 = .ok (.iload_n 3, 1) := by decide +kernel
theorem dX7_spansOf_26 : decode cX7_spansOf 26 = .ok (.invokevirtual 72, 3) := by decide +kernel
theorem dX7_spansOf_29 : decode cX7_spansOf 29 = .ok (.ifCond .eq 24, 3) := by decide +kernel
theorem dX7_spansOf_32 : decode cX7_spansOf 32 = .ok (.iload_n 3, 1) := by decide +kernel
theorem dX7_spansOf_33 : decode cX7_spansOf 33 = .ok (.ifCond .eq 16, 3) := by decide +kernel
theorem dX7_spansOf_36 : decode cX7_spansOf 36 = .ok (.aload_n 0, 1) := by decide +kernel
theorem dX7_spansOf_37 : decode cX7_spansOf 37 = .ok (.iload_n 1, 1) := by decide +kernel
theorem dX7_spansOf_38 : decode cX7_spansOf 38 = .ok (.iload 4, 2) := by decide +kernel
theorem dX7_spansOf_40 : decode cX7_spansOf 40 = .ok (.iload_n 3, 1) := by decide +kernel
theorem dX7_spansOf_41 : decode cX7_spansOf 41 = .ok (.iconst 1, 1) := by decide +kernel
theorem dX7_spansOf_42 : decode cX7_spansOf 42 = .ok (.isub, 1) := by decide +kernel
theorem dX7_spansOf_43 : decode cX7_spansOf 43 = .ok (.invokevirtual 72, 3) := by decide +kernel
theorem dX7_spansOf_46 : decode cX7_spansOf 46 = .ok (.ifCond .ne 7, 3) := by decide +kernel
theorem dX7_spansOf_49 : decode cX7_spansOf 49 = .ok (.iconst 1, 1) := by decide +kernel
theorem dX7_spansOf_50 : decode cX7_spansOf 50 = .ok (.goto 4, 3) := by decide +kernel
theorem dX7_spansOf_53 : decode cX7_spansOf 53 = .ok (.iconst 0, 1) := by decide +kernel
theorem dX7_spansOf_54 : decode cX7_spansOf 54 = .ok (.iadd, 1) := by decide +kernel
theorem dX7_spansOf_55 : decode cX7_spansOf 55 = .ok (.istore_n 2, 1) := by decide +kernel
theorem dX7_spansOf_56 : decode cX7_spansOf 56 = .ok (.iload 4, 2) := by decide +kernel
theorem dX7_spansOf_58 : decode cX7_spansOf 58 = .ok (.iload_n 3, 1) := by decide +kernel
theorem dX7_spansOf_59 : decode cX7_spansOf 59 = .ok (.invokestatic 64, 3) := by decide +kernel
theorem dX7_spansOf_62 : decode cX7_spansOf 62 = .ok (.iadd, 1) := by decide +kernel
theorem dX7_spansOf_63 : decode cX7_spansOf 63 = .ok (.istore 4, 2) := by decide +kernel
theorem dX7_spansOf_65 : decode cX7_spansOf 65 = .ok (.goto (-52), 3) := by decide +kernel
theorem dX7_spansOf_68 : decode cX7_spansOf 68 = .ok (.iinc 3 1, 3) := by decide +kernel
theorem dX7_spansOf_71 : decode cX7_spansOf 71 = .ok (.goto (-67), 3) := by decide +kernel
theorem dX7_spansOf_74 : decode cX7_spansOf 74 = .ok (.iload_n 2, 1) := by decide +kernel
theorem dX7_spansOf_75 : decode cX7_spansOf 75 = .ok (.ireturn, 1) := by decide +kernel
theorem dX7_adds_0 : decode cX7_adds 0 = .ok (.aload_n 0, 1) := by decide +kernel
theorem dX7_adds_1 : decode cX7_adds 1 = .ok (.getfield 7, 3) := by decide +kernel
theorem dX7_adds_4 : decode cX7_adds 4 = .ok (.iconst 0, 1) := by decide +kernel
theorem dX7_adds_5 : decode cX7_adds 5 = .ok (.iaload, 1) := by decide +kernel
theorem dX7_adds_6 : decode cX7_adds 6 = .ok (.istore 5, 2) := by decide +kernel
theorem dX7_adds_8 : decode cX7_adds 8 = .ok (.aload_n 0, 1) := by decide +kernel
theorem dX7_adds_9 : decode cX7_adds 9 = .ok (.getfield 7, 3) := by decide +kernel
theorem dX7_adds_12 : decode cX7_adds 12 = .ok (.iconst 1, 1) := by decide +kernel
theorem dX7_adds_13 : decode cX7_adds 13 = .ok (.iload 5, 2) := by decide +kernel
theorem dX7_adds_15 : decode cX7_adds 15 = .ok (.iadd, 1) := by decide +kernel
theorem dX7_adds_16 : decode cX7_adds 16 = .ok (.iload_n 1, 1) := by decide +kernel
theorem dX7_adds_17 : decode cX7_adds 17 = .ok (.iastore, 1) := by decide +kernel
theorem dX7_adds_18 : decode cX7_adds 18 = .ok (.aload_n 0, 1) := by decide +kernel
theorem dX7_adds_19 : decode cX7_adds 19 = .ok (.getfield 7, 3) := by decide +kernel
theorem dX7_adds_22 : decode cX7_adds 22 = .ok (.bipush 41, 2) := by decide +kernel
theorem dX7_adds_24 : decode cX7_adds 24 = .ok (.iload 5, 2) := by decide +kernel
theorem dX7_adds_26 : decode cX7_adds 26 = .ok (.iadd, 1) := by decide +kernel
theorem dX7_adds_27 : decode cX7_adds 27 = .ok (.iload_n 2, 1) := by decide +kernel
theorem dX7_adds_28 : decode cX7_adds 28 = .ok (.iastore, 1) := by decide +kernel
theorem dX7_adds_29 : decode cX7_adds 29 = .ok (.aload_n 0, 1) := by decide +kernel
theorem dX7_adds_30 : decode cX7_adds 30 = .ok (.getfield 7, 3) := by decide +kernel
theorem dX7_adds_33 : decode cX7_adds 33 = .ok (.bipush 81, 2) := by decide +kernel
theorem dX7_adds_35 : decode cX7_adds 35 = .ok (.iload 5, 2) := by decide +kernel
theorem dX7_adds_37 : decode cX7_adds 37 = .ok (.iadd, 1) := by decide +kernel
theorem dX7_adds_38 : decode cX7_adds 38 = .ok (.iload_n 3, 1) := by decide +kernel
theorem dX7_adds_39 : decode cX7_adds 39 = .ok (.iastore, 1) := by decide +kernel
theorem dX7_adds_40 : decode cX7_adds 40 = .ok (.aload_n 0, 1) := by decide +kernel
theorem dX7_adds_41 : decode cX7_adds 41 = .ok (.getfield 7, 3) := by decide +kernel
theorem dX7_adds_44 : decode cX7_adds 44 = .ok (.bipush 121, 2) := by decide +kernel
theorem dX7_adds_46 : decode cX7_adds 46 = .ok (.iload 5, 2) := by decide +kernel
theorem dX7_adds_48 : decode cX7_adds 48 = .ok (.iadd, 1) := by decide +kernel
theorem dX7_adds_49 : decode cX7_adds 49 = .ok (.iload 4, 2) := by decide +kernel
theorem dX7_adds_51 : decode cX7_adds 51 = .ok (.iastore, 1) := by decide +kernel
theorem dX7_adds_52 : decode cX7_adds 52 = .ok (.aload_n 0, 1) := by decide +kernel
theorem dX7_adds_53 : decode cX7_adds 53 = .ok (.getfield 7, 3) := by decide +kernel
theorem dX7_adds_56 : decode cX7_adds 56 = .ok (.iconst 0, 1) := by decide +kernel
theorem dX7_adds_57 : decode cX7_adds 57 = .ok (.dup2, 1) := by decide +kernel
theorem dX7_adds_58 : decode cX7_adds 58 = .ok (.iaload, 1) := by decide +kernel
theorem dX7_adds_59 : decode cX7_adds 59 = .ok (.iconst 1, 1) := by decide +kernel
theorem dX7_adds_60 : decode cX7_adds 60 = .ok (.iadd, 1) := by decide +kernel
theorem dX7_adds_61 : decode cX7_adds 61 = .ok (.iastore, 1) := by decide +kernel
theorem dX7_adds_62 : decode cX7_adds 62 = .ok (.return_, 1) := by decide +kernel
theorem dX7_addLink_0 : decode cX7_addLink 0 = .ok (.iload_n 1, 1) := by decide +kernel
theorem dX7_addLink_1 : decode cX7_addLink 1 = .ok (.invokestatic 83, 3) := by decide +kernel
theorem dX7_addLink_4 : decode cX7_addLink 4 = .ok (.ifCond .eq 10, 3) := by decide +kernel
theorem dX7_addLink_7 : decode cX7_addLink 7 = .ok (.iload_n 2, 1) := by decide +kernel
theorem dX7_addLink_8 : decode cX7_addLink 8 = .ok (.invokestatic 83, 3) := by decide +kernel
theorem dX7_addLink_11 : decode cX7_addLink 11 = .ok (.ifCond .ne 5, 3) := by decide +kernel
theorem dX7_addLink_14 : decode cX7_addLink 14 = .ok (.iconst (-1), 1) := by decide +kernel
theorem dX7_addLink_15 : decode cX7_addLink 15 = .ok (.ireturn, 1) := by decide +kernel
theorem dX7_addLink_16 : decode cX7_addLink 16 = .ok (.iload_n 3, 1) := by decide +kernel
theorem dX7_addLink_17 : decode cX7_addLink 17 = .ok (.iload 4, 2) := by decide +kernel
theorem dX7_addLink_19 : decode cX7_addLink 19 = .ok (.invokestatic 86, 3) := by decide +kernel
theorem dX7_addLink_22 : decode cX7_addLink 22 = .ok (.ifCond .eq 8, 3) := by decide +kernel
theorem dX7_addLink_25 : decode cX7_addLink 25 = .ok (.iload_n 1, 1) := by decide +kernel
theorem dX7_addLink_26 : decode cX7_addLink 26 = .ok (.iload_n 2, 1) := by decide +kernel
theorem dX7_addLink_27 : decode cX7_addLink 27 = .ok (.if_icmp .ne 6, 3) := by decide +kernel
theorem dX7_addLink_30 : decode cX7_addLink 30 = .ok (.bipush (-2), 2) := by decide +kernel
theorem dX7_addLink_32 : decode cX7_addLink 32 = .ok (.ireturn, 1) := by decide +kernel
theorem dX7_addLink_33 : decode cX7_addLink 33 = .ok (.aload_n 0, 1) := by decide +kernel
theorem dX7_addLink_34 : decode cX7_addLink 34 = .ok (.getfield 7, 3) := by decide +kernel
theorem dX7_addLink_37 : decode cX7_addLink 37 = .ok (.iconst 0, 1) := by decide +kernel
theorem dX7_addLink_38 : decode cX7_addLink 38 = .ok (.iaload, 1) := by decide +kernel
theorem dX7_addLink_39 : decode cX7_addLink 39 = .ok (.bipush 40, 2) := by decide +kernel
theorem dX7_addLink_41 : decode cX7_addLink 41 = .ok (.if_icmp .ne 6, 3) := by decide +kernel
theorem dX7_addLink_44 : decode cX7_addLink 44 = .ok (.bipush (-3), 2) := by decide +kernel
theorem dX7_addLink_46 : decode cX7_addLink 46 = .ok (.ireturn, 1) := by decide +kernel
theorem dX7_addLink_47 : decode cX7_addLink 47 = .ok (.aload_n 0, 1) := by decide +kernel
theorem dX7_addLink_48 : decode cX7_addLink 48 = .ok (.invokevirtual 89, 3) := by decide +kernel
theorem dX7_addLink_51 : decode cX7_addLink 51 = .ok (.aload_n 0, 1) := by decide +kernel
theorem dX7_addLink_52 : decode cX7_addLink 52 = .ok (.iload_n 1, 1) := by decide +kernel
theorem dX7_addLink_53 : decode cX7_addLink 53 = .ok (.iload_n 2, 1) := by decide +kernel
theorem dX7_addLink_54 : decode cX7_addLink 54 = .ok (.iload_n 3, 1) := by decide +kernel
theorem dX7_addLink_55 : decode cX7_addLink 55 = .ok (.iload 4, 2) := by decide +kernel
theorem dX7_addLink_57 : decode cX7_addLink 57 = .ok (.invokevirtual 92, 3) := by decide +kernel
theorem dX7_addLink_60 : decode cX7_addLink 60 = .ok (.aload_n 0, 1) := by decide +kernel
theorem dX7_addLink_61 : decode cX7_addLink 61 = .ok (.aload_n 0, 1) := by decide +kernel
theorem dX7_addLink_62 : decode cX7_addLink 62 = .ok (.getfield 7, 3) := by decide +kernel
theorem dX7_addLink_65 : decode cX7_addLink 65 = .ok (.iconst 0, 1) := by decide +kernel
theorem dX7_addLink_66 : decode cX7_addLink 66 = .ok (.iaload, 1) := by decide +kernel
theorem dX7_addLink_67 : decode cX7_addLink 67 = .ok (.iconst 1, 1) := by decide +kernel
theorem dX7_addLink_68 : decode cX7_addLink 68 = .ok (.isub, 1) := by decide +kernel
theorem dX7_addLink_69 : decode cX7_addLink 69 = .ok (.invokevirtual 96, 3) := by decide +kernel
theorem dX7_addLink_72 : decode cX7_addLink 72 = .ok (.ireturn, 1) := by decide +kernel
theorem dX7_takesOut_0 : decode cX7_takesOut 0 = .ok (.aload_n 0, 1) := by decide +kernel
theorem dX7_takesOut_1 : decode cX7_takesOut 1 = .ok (.getfield 7, 3) := by decide +kernel
theorem dX7_takesOut_4 : decode cX7_takesOut 4 = .ok (.iconst 0, 1) := by decide +kernel
theorem dX7_takesOut_5 : decode cX7_takesOut 5 = .ok (.dup2, 1) := by decide +kernel
theorem dX7_takesOut_6 : decode cX7_takesOut 6 = .ok (.iaload, 1) := by decide +kernel
theorem dX7_takesOut_7 : decode cX7_takesOut 7 = .ok (.iconst 1, 1) := by decide +kernel
theorem dX7_takesOut_8 : decode cX7_takesOut 8 = .ok (.isub, 1) := by decide +kernel
theorem dX7_takesOut_9 : decode cX7_takesOut 9 = .ok (.iastore, 1) := by decide +kernel
theorem dX7_takesOut_10 : decode cX7_takesOut 10 = .ok (.iload_n 1, 1) := by decide +kernel
theorem dX7_takesOut_11 : decode cX7_takesOut 11 = .ok (.istore_n 2, 1) := by decide +kernel
theorem dX7_takesOut_12 : decode cX7_takesOut 12 = .ok (.iload_n 2, 1) := by decide +kernel
theorem dX7_takesOut_13 : decode cX7_takesOut 13 = .ok (.aload_n 0, 1) := by decide +kernel
theorem dX7_takesOut_14 : decode cX7_takesOut 14 = .ok (.getfield 7, 3) := by decide +kernel
theorem dX7_takesOut_17 : decode cX7_takesOut 17 = .ok (.iconst 0, 1) := by decide +kernel
theorem dX7_takesOut_18 : decode cX7_takesOut 18 = .ok (.iaload, 1) := by decide +kernel
theorem dX7_takesOut_19 : decode cX7_takesOut 19 = .ok (.if_icmp .ge 41, 3) := by decide +kernel
theorem dX7_takesOut_22 : decode cX7_takesOut 22 = .ok (.iconst 1, 1) := by decide +kernel
theorem dX7_takesOut_23 : decode cX7_takesOut 23 = .ok (.istore_n 3, 1) := by decide +kernel
theorem dX7_takesOut_24 : decode cX7_takesOut 24 = .ok (.iload_n 3, 1) := by decide +kernel
theorem dX7_takesOut_25 : decode cX7_takesOut 25 = .ok (.bipush 121, 2) := by decide +kernel
theorem dX7_takesOut_27 : decode cX7_takesOut 27 = .ok (.if_icmp .gt 27, 3) := by decide +kernel
theorem dX7_takesOut_30 : decode cX7_takesOut 30 = .ok (.aload_n 0, 1) := by decide +kernel
theorem dX7_takesOut_31 : decode cX7_takesOut 31 = .ok (.getfield 7, 3) := by decide +kernel
theorem dX7_takesOut_34 : decode cX7_takesOut 34 = .ok (.iload_n 3, 1) := by decide +kernel
theorem dX7_takesOut_35 : decode cX7_takesOut 35 = .ok (.iload_n 2, 1) := by decide +kernel
theorem dX7_takesOut_36 : decode cX7_takesOut 36 = .ok (.iadd, 1) := by decide +kernel
theorem dX7_takesOut_37 : decode cX7_takesOut 37 = .ok (.aload_n 0, 1) := by decide +kernel
theorem dX7_takesOut_38 : decode cX7_takesOut 38 = .ok (.getfield 7, 3) := by decide +kernel
theorem dX7_takesOut_41 : decode cX7_takesOut 41 = .ok (.iload_n 3, 1) := by decide +kernel
theorem dX7_takesOut_42 : decode cX7_takesOut 42 = .ok (.iload_n 2, 1) := by decide +kernel
theorem dX7_takesOut_43 : decode cX7_takesOut 43 = .ok (.iadd, 1) := by decide +kernel
theorem dX7_takesOut_44 : decode cX7_takesOut 44 = .ok (.iconst 1, 1) := by decide +kernel
theorem dX7_takesOut_45 : decode cX7_takesOut 45 = .ok (.iadd, 1) := by decide +kernel
theorem dX7_takesOut_46 : decode cX7_takesOut 46 = .ok (.iaload, 1) := by decide +kernel
theorem dX7_takesOut_47 : decode cX7_takesOut 47 = .ok (.iastore, 1) := by decide +kernel
theorem dX7_takesOut_48 : decode cX7_takesOut 48 = .ok (.iinc 3 40, 3) := by decide +kernel
theorem dX7_takesOut_51 : decode cX7_takesOut 51 = .ok (.goto (-27), 3) := by decide +kernel
theorem dX7_takesOut_54 : decode cX7_takesOut 54 = .ok (.iinc 2 1, 3) := by decide +kernel
theorem dX7_takesOut_57 : decode cX7_takesOut 57 = .ok (.goto (-45), 3) := by decide +kernel
theorem dX7_takesOut_60 : decode cX7_takesOut 60 = .ok (.return_, 1) := by decide +kernel
theorem dX7_removeLink_0 : decode cX7_removeLink 0 = .ok (.aload_n 0, 1) := by decide +kernel
theorem dX7_removeLink_1 : decode cX7_removeLink 1 = .ok (.iload_n 1, 1) := by decide +kernel
theorem dX7_removeLink_2 : decode cX7_removeLink 2 = .ok (.invokevirtual 99, 3) := by decide +kernel
theorem dX7_removeLink_5 : decode cX7_removeLink 5 = .ok (.ifCond .ne 5, 3) := by decide +kernel
theorem dX7_removeLink_8 : decode cX7_removeLink 8 = .ok (.iconst (-1), 1) := by decide +kernel
theorem dX7_removeLink_9 : decode cX7_removeLink 9 = .ok (.ireturn, 1) := by decide +kernel
theorem dX7_removeLink_10 : decode cX7_removeLink 10 = .ok (.aload_n 0, 1) := by decide +kernel
theorem dX7_removeLink_11 : decode cX7_removeLink 11 = .ok (.invokevirtual 89, 3) := by decide +kernel
theorem dX7_removeLink_14 : decode cX7_removeLink 14 = .ok (.aload_n 0, 1) := by decide +kernel
theorem dX7_removeLink_15 : decode cX7_removeLink 15 = .ok (.iload_n 1, 1) := by decide +kernel
theorem dX7_removeLink_16 : decode cX7_removeLink 16 = .ok (.invokevirtual 102, 3) := by decide +kernel
theorem dX7_removeLink_19 : decode cX7_removeLink 19 = .ok (.aload_n 0, 1) := by decide +kernel
theorem dX7_removeLink_20 : decode cX7_removeLink 20 = .ok (.aload_n 0, 1) := by decide +kernel
theorem dX7_removeLink_21 : decode cX7_removeLink 21 = .ok (.getfield 7, 3) := by decide +kernel
theorem dX7_removeLink_24 : decode cX7_removeLink 24 = .ok (.iconst 0, 1) := by decide +kernel
theorem dX7_removeLink_25 : decode cX7_removeLink 25 = .ok (.iaload, 1) := by decide +kernel
theorem dX7_removeLink_26 : decode cX7_removeLink 26 = .ok (.invokevirtual 96, 3) := by decide +kernel
theorem dX7_removeLink_29 : decode cX7_removeLink 29 = .ok (.ireturn, 1) := by decide +kernel
theorem dX7_setLife_0 : decode cX7_setLife 0 = .ok (.aload_n 0, 1) := by decide +kernel
theorem dX7_setLife_1 : decode cX7_setLife 1 = .ok (.iload_n 1, 1) := by decide +kernel
theorem dX7_setLife_2 : decode cX7_setLife 2 = .ok (.invokevirtual 99, 3) := by decide +kernel
theorem dX7_setLife_5 : decode cX7_setLife 5 = .ok (.ifCond .ne 5, 3) := by decide +kernel
theorem dX7_setLife_8 : decode cX7_setLife 8 = .ok (.iconst (-1), 1) := by decide +kernel
theorem dX7_setLife_9 : decode cX7_setLife 9 = .ok (.ireturn, 1) := by decide +kernel
theorem dX7_setLife_10 : decode cX7_setLife 10 = .ok (.iload_n 2, 1) := by decide +kernel
theorem dX7_setLife_11 : decode cX7_setLife 11 = .ok (.iload_n 3, 1) := by decide +kernel
theorem dX7_setLife_12 : decode cX7_setLife 12 = .ok (.invokestatic 86, 3) := by decide +kernel
theorem dX7_setLife_15 : decode cX7_setLife 15 = .ok (.ifCond .ne 6, 3) := by decide +kernel
theorem dX7_setLife_18 : decode cX7_setLife 18 = .ok (.bipush (-2), 2) := by decide +kernel
theorem dX7_setLife_20 : decode cX7_setLife 20 = .ok (.ireturn, 1) := by decide +kernel
theorem dX7_setLife_21 : decode cX7_setLife 21 = .ok (.aload_n 0, 1) := by decide +kernel
theorem dX7_setLife_22 : decode cX7_setLife 22 = .ok (.getfield 7, 3) := by decide +kernel
theorem dX7_setLife_25 : decode cX7_setLife 25 = .ok (.bipush 81, 2) := by decide +kernel
theorem dX7_setLife_27 : decode cX7_setLife 27 = .ok (.iload_n 1, 1) := by decide +kernel
theorem dX7_setLife_28 : decode cX7_setLife 28 = .ok (.iadd, 1) := by decide +kernel
theorem dX7_setLife_29 : decode cX7_setLife 29 = .ok (.iaload, 1) := by decide +kernel
theorem dX7_setLife_30 : decode cX7_setLife 30 = .ok (.iload_n 2, 1) := by decide +kernel
theorem dX7_setLife_31 : decode cX7_setLife 31 = .ok (.if_icmp .ne 19, 3) := by decide +kernel
theorem dX7_setLife_34 : decode cX7_setLife 34 = .ok (.aload_n 0, 1) := by decide +kernel
theorem dX7_setLife_35 : decode cX7_setLife 35 = .ok (.getfield 7, 3) := by decide +kernel
theorem dX7_setLife_38 : decode cX7_setLife 38 = .ok (.bipush 121, 2) := by decide +kernel
theorem dX7_setLife_40 : decode cX7_setLife 40 = .ok (.iload_n 1, 1) := by decide +kernel
theorem dX7_setLife_41 : decode cX7_setLife 41 = .ok (.iadd, 1) := by decide +kernel
theorem dX7_setLife_42 : decode cX7_setLife 42 = .ok (.iaload, 1) := by decide +kernel
theorem dX7_setLife_43 : decode cX7_setLife 43 = .ok (.iload_n 3, 1) := by decide +kernel
theorem dX7_setLife_44 : decode cX7_setLife 44 = .ok (.if_icmp .ne 6, 3) := by decide +kernel
theorem dX7_setLife_47 : decode cX7_setLife 47 = .ok (.bipush (-5), 2) := by decide +kernel
theorem dX7_setLife_49 : decode cX7_setLife 49 = .ok (.ireturn, 1) := by decide +kernel
theorem dX7_setLife_50 : decode cX7_setLife 50 = .ok (.aload_n 0, 1) := by decide +kernel
theorem dX7_setLife_51 : decode cX7_setLife 51 = .ok (.invokevirtual 89, 3) := by decide +kernel
theorem dX7_setLife_54 : decode cX7_setLife 54 = .ok (.aload_n 0, 1) := by decide +kernel
theorem dX7_setLife_55 : decode cX7_setLife 55 = .ok (.getfield 7, 3) := by decide +kernel
theorem dX7_setLife_58 : decode cX7_setLife 58 = .ok (.bipush 81, 2) := by decide +kernel
theorem dX7_setLife_60 : decode cX7_setLife 60 = .ok (.iload_n 1, 1) := by decide +kernel
theorem dX7_setLife_61 : decode cX7_setLife 61 = .ok (.iadd, 1) := by decide +kernel
theorem dX7_setLife_62 : decode cX7_setLife 62 = .ok (.iload_n 2, 1) := by decide +kernel
theorem dX7_setLife_63 : decode cX7_setLife 63 = .ok (.iastore, 1) := by decide +kernel
theorem dX7_setLife_64 : decode cX7_setLife 64 = .ok (.aload_n 0, 1) := by decide +kernel
theorem dX7_setLife_65 : decode cX7_setLife 65 = .ok (.getfield 7, 3) := by decide +kernel
theorem dX7_setLife_68 : decode cX7_setLife 68 = .ok (.bipush 121, 2) := by decide +kernel
theorem dX7_setLife_70 : decode cX7_setLife 70 = .ok (.iload_n 1, 1) := by decide +kernel
theorem dX7_setLife_71 : decode cX7_setLife 71 = .ok (.iadd, 1) := by decide +kernel
theorem dX7_setLife_72 : decode cX7_setLife 72 = .ok (.iload_n 3, 1) := by decide +kernel
theorem dX7_setLife_73 : decode cX7_setLife 73 = .ok (.iastore, 1) := by decide +kernel
theorem dX7_setLife_74 : decode cX7_setLife 74 = .ok (.aload_n 0, 1) := by decide +kernel
theorem dX7_setLife_75 : decode cX7_setLife 75 = .ok (.iload_n 3, 1) := by decide +kernel
theorem dX7_setLife_76 : decode cX7_setLife 76 = .ok (.iload_n 2, 1) := by decide +kernel
theorem dX7_setLife_77 : decode cX7_setLife 77 = .ok (.isub, 1) := by decide +kernel
theorem dX7_setLife_78 : decode cX7_setLife 78 = .ok (.invokevirtual 96, 3) := by decide +kernel
theorem dX7_setLife_81 : decode cX7_setLife 81 = .ok (.ireturn, 1) := by decide +kernel
theorem dX7_cut_0 : decode cX7_cut 0 = .ok (.aload_n 0, 1) := by decide +kernel
theorem dX7_cut_1 : decode cX7_cut 1 = .ok (.iload_n 1, 1) := by decide +kernel
theorem dX7_cut_2 : decode cX7_cut 2 = .ok (.invokevirtual 99, 3) := by decide +kernel
theorem dX7_cut_5 : decode cX7_cut 5 = .ok (.ifCond .ne 5, 3) := by decide +kernel
theorem dX7_cut_8 : decode cX7_cut 8 = .ok (.iconst (-1), 1) := by decide +kernel
theorem dX7_cut_9 : decode cX7_cut 9 = .ok (.ireturn, 1) := by decide +kernel
theorem dX7_cut_10 : decode cX7_cut 10 = .ok (.iload_n 2, 1) := by decide +kernel
theorem dX7_cut_11 : decode cX7_cut 11 = .ok (.invokestatic 40, 3) := by decide +kernel
theorem dX7_cut_14 : decode cX7_cut 14 = .ok (.ifCond .ne 6, 3) := by decide +kernel
theorem dX7_cut_17 : decode cX7_cut 17 = .ok (.bipush (-2), 2) := by decide +kernel
theorem dX7_cut_19 : decode cX7_cut 19 = .ok (.ireturn, 1) := by decide +kernel
theorem dX7_cut_20 : decode cX7_cut 20 = .ok (.aload_n 0, 1) := by decide +kernel
theorem dX7_cut_21 : decode cX7_cut 21 = .ok (.iload_n 1, 1) := by decide +kernel
theorem dX7_cut_22 : decode cX7_cut 22 = .ok (.iload_n 2, 1) := by decide +kernel
theorem dX7_cut_23 : decode cX7_cut 23 = .ok (.invokevirtual 50, 3) := by decide +kernel
theorem dX7_cut_26 : decode cX7_cut 26 = .ok (.ifCond .eq 14, 3) := by decide +kernel
theorem dX7_cut_29 : decode cX7_cut 29 = .ok (.aload_n 0, 1) := by decide +kernel
theorem dX7_cut_30 : decode cX7_cut 30 = .ok (.iload_n 1, 1) := by decide +kernel
theorem dX7_cut_31 : decode cX7_cut 31 = .ok (.iload_n 2, 1) := by decide +kernel
theorem dX7_cut_32 : decode cX7_cut 32 = .ok (.iconst 1, 1) := by decide +kernel
theorem dX7_cut_33 : decode cX7_cut 33 = .ok (.isub, 1) := by decide +kernel
theorem dX7_cut_34 : decode cX7_cut 34 = .ok (.invokevirtual 50, 3) := by decide +kernel
theorem dX7_cut_37 : decode cX7_cut 37 = .ok (.ifCond .ne 6, 3) := by decide +kernel
theorem dX7_cut_40 : decode cX7_cut 40 = .ok (.bipush (-4), 2) := by decide +kernel
theorem dX7_cut_42 : decode cX7_cut 42 = .ok (.ireturn, 1) := by decide +kernel
theorem dX7_cut_43 : decode cX7_cut 43 = .ok (.aload_n 0, 1) := by decide +kernel
theorem dX7_cut_44 : decode cX7_cut 44 = .ok (.getfield 7, 3) := by decide +kernel
theorem dX7_cut_47 : decode cX7_cut 47 = .ok (.iconst 0, 1) := by decide +kernel
theorem dX7_cut_48 : decode cX7_cut 48 = .ok (.iaload, 1) := by decide +kernel
theorem dX7_cut_49 : decode cX7_cut 49 = .ok (.bipush 40, 2) := by decide +kernel
theorem dX7_cut_51 : decode cX7_cut 51 = .ok (.if_icmp .ne 6, 3) := by decide +kernel
theorem dX7_cut_54 : decode cX7_cut 54 = .ok (.bipush (-3), 2) := by decide +kernel
theorem dX7_cut_56 : decode cX7_cut 56 = .ok (.ireturn, 1) := by decide +kernel
theorem dX7_cut_57 : decode cX7_cut 57 = .ok (.aload_n 0, 1) := by decide +kernel
theorem dX7_cut_58 : decode cX7_cut 58 = .ok (.invokevirtual 89, 3) := by decide +kernel
theorem dX7_cut_61 : decode cX7_cut 61 = .ok (.aload_n 0, 1) := by decide +kernel
theorem dX7_cut_62 : decode cX7_cut 62 = .ok (.aload_n 0, 1) := by decide +kernel
theorem dX7_cut_63 : decode cX7_cut 63 = .ok (.getfield 7, 3) := by decide +kernel
theorem dX7_cut_66 : decode cX7_cut 66 = .ok (.iconst 1, 1) := by decide +kernel
theorem dX7_cut_67 : decode cX7_cut 67 = .ok (.iload_n 1, 1) := by decide +kernel
theorem dX7_cut_68 : decode cX7_cut 68 = .ok (.iadd, 1) := by decide +kernel
theorem dX7_cut_69 : decode cX7_cut 69 = .ok (.iaload, 1) := by decide +kernel
theorem dX7_cut_70 : decode cX7_cut 70 = .ok (.aload_n 0, 1) := by decide +kernel
theorem dX7_cut_71 : decode cX7_cut 71 = .ok (.getfield 7, 3) := by decide +kernel
theorem dX7_cut_74 : decode cX7_cut 74 = .ok (.bipush 41, 2) := by decide +kernel
theorem dX7_cut_76 : decode cX7_cut 76 = .ok (.iload_n 1, 1) := by decide +kernel
theorem dX7_cut_77 : decode cX7_cut 77 = .ok (.iadd, 1) := by decide +kernel
theorem dX7_cut_78 : decode cX7_cut 78 = .ok (.iaload, 1) := by decide +kernel
theorem dX7_cut_79 : decode cX7_cut 79 = .ok (.iload_n 2, 1) := by decide +kernel
theorem dX7_cut_80 : decode cX7_cut 80 = .ok (.aload_n 0, 1) := by decide +kernel
theorem dX7_cut_81 : decode cX7_cut 81 = .ok (.getfield 7, 3) := by decide +kernel
theorem dX7_cut_84 : decode cX7_cut 84 = .ok (.bipush 121, 2) := by decide +kernel
theorem dX7_cut_86 : decode cX7_cut 86 = .ok (.iload_n 1, 1) := by decide +kernel
theorem dX7_cut_87 : decode cX7_cut 87 = .ok (.iadd, 1) := by decide +kernel
theorem dX7_cut_88 : decode cX7_cut 88 = .ok (.iaload, 1) := by decide +kernel
theorem dX7_cut_89 : decode cX7_cut 89 = .ok (.invokevirtual 92, 3) := by decide +kernel
theorem dX7_cut_92 : decode cX7_cut 92 = .ok (.aload_n 0, 1) := by decide +kernel
theorem dX7_cut_93 : decode cX7_cut 93 = .ok (.getfield 7, 3) := by decide +kernel
theorem dX7_cut_96 : decode cX7_cut 96 = .ok (.bipush 121, 2) := by decide +kernel
theorem dX7_cut_98 : decode cX7_cut 98 = .ok (.iload_n 1, 1) := by decide +kernel
theorem dX7_cut_99 : decode cX7_cut 99 = .ok (.iadd, 1) := by decide +kernel
theorem dX7_cut_100 : decode cX7_cut 100 = .ok (.iload_n 2, 1) := by decide +kernel
theorem dX7_cut_101 : decode cX7_cut 101 = .ok (.iastore, 1) := by decide +kernel
theorem dX7_cut_102 : decode cX7_cut 102 = .ok (.aload_n 0, 1) := by decide +kernel
theorem dX7_cut_103 : decode cX7_cut 103 = .ok (.aload_n 0, 1) := by decide +kernel
theorem dX7_cut_104 : decode cX7_cut 104 = .ok (.getfield 7, 3) := by decide +kernel
theorem dX7_cut_107 : decode cX7_cut 107 = .ok (.iconst 0, 1) := by decide +kernel
theorem dX7_cut_108 : decode cX7_cut 108 = .ok (.iaload, 1) := by decide +kernel
theorem dX7_cut_109 : decode cX7_cut 109 = .ok (.iconst 1, 1) := by decide +kernel
theorem dX7_cut_110 : decode cX7_cut 110 = .ok (.isub, 1) := by decide +kernel
theorem dX7_cut_111 : decode cX7_cut 111 = .ok (.invokevirtual 96, 3) := by decide +kernel
theorem dX7_cut_114 : decode cX7_cut 114 = .ok (.ireturn, 1) := by decide +kernel
theorem dX7_clear_0 : decode cX7_clear 0 = .ok (.iload_n 1, 1) := by decide +kernel
theorem dX7_clear_1 : decode cX7_clear 1 = .ok (.invokestatic 40, 3) := by decide +kernel
theorem dX7_clear_4 : decode cX7_clear 4 = .ok (.ifCond .ne 5, 3) := by decide +kernel
theorem dX7_clear_7 : decode cX7_clear 7 = .ok (.iconst (-1), 1) := by decide +kernel
theorem dX7_clear_8 : decode cX7_clear 8 = .ok (.ireturn, 1) := by decide +kernel
theorem dX7_clear_9 : decode cX7_clear 9 = .ok (.aload_n 0, 1) := by decide +kernel
theorem dX7_clear_10 : decode cX7_clear 10 = .ok (.iload_n 1, 1) := by decide +kernel
theorem dX7_clear_11 : decode cX7_clear 11 = .ok (.invokevirtual 106, 3) := by decide +kernel
theorem dX7_clear_14 : decode cX7_clear 14 = .ok (.invokestatic 110, 3) := by decide +kernel
theorem dX7_clear_17 : decode cX7_clear 17 = .ok (.istore_n 2, 1) := by decide +kernel
theorem dX7_clear_18 : decode cX7_clear 18 = .ok (.iload_n 2, 1) := by decide +kernel
theorem dX7_clear_19 : decode cX7_clear 19 = .ok (.ifCond .ne 6, 3) := by decide +kernel
theorem dX7_clear_22 : decode cX7_clear 22 = .ok (.bipush (-5), 2) := by decide +kernel
theorem dX7_clear_24 : decode cX7_clear 24 = .ok (.ireturn, 1) := by decide +kernel
theorem dX7_clear_25 : decode cX7_clear 25 = .ok (.aload_n 0, 1) := by decide +kernel
theorem dX7_clear_26 : decode cX7_clear 26 = .ok (.invokevirtual 89, 3) := by decide +kernel
theorem dX7_clear_29 : decode cX7_clear 29 = .ok (.aload_n 0, 1) := by decide +kernel
theorem dX7_clear_30 : decode cX7_clear 30 = .ok (.getfield 7, 3) := by decide +kernel
theorem dX7_clear_33 : decode cX7_clear 33 = .ok (.iconst 0, 1) := by decide +kernel
theorem dX7_clear_34 : decode cX7_clear 34 = .ok (.iaload, 1) := by decide +kernel
theorem dX7_clear_35 : decode cX7_clear 35 = .ok (.iconst 1, 1) := by decide +kernel
theorem dX7_clear_36 : decode cX7_clear 36 = .ok (.isub, 1) := by decide +kernel
theorem dX7_clear_37 : decode cX7_clear 37 = .ok (.istore_n 3, 1) := by decide +kernel
theorem dX7_clear_38 : decode cX7_clear 38 = .ok (.iload_n 3, 1) := by decide +kernel
theorem dX7_clear_39 : decode cX7_clear 39 = .ok (.ifCond .lt 23, 3) := by decide +kernel
theorem dX7_clear_42 : decode cX7_clear 42 = .ok (.aload_n 0, 1) := by decide +kernel
theorem dX7_clear_43 : decode cX7_clear 43 = .ok (.iload_n 3, 1) := by decide +kernel
theorem dX7_clear_44 : decode cX7_clear 44 = .ok (.iload_n 1, 1) := by decide +kernel
theorem dX7_clear_45 : decode cX7_clear 45 = .ok (.invokevirtual 50, 3) := by decide +kernel
theorem dX7_clear_48 : decode cX7_clear 48 = .ok (.ifCond .eq 8, 3) := by decide +kernel
theorem dX7_clear_51 : decode cX7_clear 51 = .ok (.aload_n 0, 1) := by decide +kernel
theorem dX7_clear_52 : decode cX7_clear 52 = .ok (.iload_n 3, 1) := by decide +kernel
theorem dX7_clear_53 : decode cX7_clear 53 = .ok (.invokevirtual 102, 3) := by decide +kernel
theorem dX7_clear_56 : decode cX7_clear 56 = .ok (.iinc 3 (-1), 3) := by decide +kernel
theorem dX7_clear_59 : decode cX7_clear 59 = .ok (.goto (-21), 3) := by decide +kernel
theorem dX7_clear_62 : decode cX7_clear 62 = .ok (.aload_n 0, 1) := by decide +kernel
theorem dX7_clear_63 : decode cX7_clear 63 = .ok (.iload_n 2, 1) := by decide +kernel
theorem dX7_clear_64 : decode cX7_clear 64 = .ok (.invokevirtual 96, 3) := by decide +kernel
theorem dX7_clear_67 : decode cX7_clear 67 = .ok (.ireturn, 1) := by decide +kernel
theorem dX7_type_0 : decode cX7_type 0 = .ok (.aload_n 0, 1) := by decide +kernel
theorem dX7_type_1 : decode cX7_type 1 = .ok (.getfield 113, 3) := by decide +kernel
theorem dX7_type_4 : decode cX7_type 4 = .ok (.bipush 60, 2) := by decide +kernel
theorem dX7_type_6 : decode cX7_type 6 = .ok (.if_icmp .ne 6, 3) := by decide +kernel
theorem dX7_type_9 : decode cX7_type 9 = .ok (.bipush (-3), 2) := by decide +kernel
theorem dX7_type_11 : decode cX7_type 11 = .ok (.ireturn, 1) := by decide +kernel
theorem dX7_type_12 : decode cX7_type 12 = .ok (.aload_n 0, 1) := by decide +kernel
theorem dX7_type_13 : decode cX7_type 13 = .ok (.getfield 22, 3) := by decide +kernel
theorem dX7_type_16 : decode cX7_type 16 = .ok (.aload_n 0, 1) := by decide +kernel
theorem dX7_type_17 : decode cX7_type 17 = .ok (.getfield 113, 3) := by decide +kernel
theorem dX7_type_20 : decode cX7_type 20 = .ok (.iload_n 1, 1) := by decide +kernel
theorem dX7_type_21 : decode cX7_type 21 = .ok (.iastore, 1) := by decide +kernel
theorem dX7_type_22 : decode cX7_type 22 = .ok (.aload_n 0, 1) := by decide +kernel
theorem dX7_type_23 : decode cX7_type 23 = .ok (.dup, 1) := by decide +kernel
theorem dX7_type_24 : decode cX7_type 24 = .ok (.getfield 113, 3) := by decide +kernel
theorem dX7_type_27 : decode cX7_type 27 = .ok (.iconst 1, 1) := by decide +kernel
theorem dX7_type_28 : decode cX7_type 28 = .ok (.iadd, 1) := by decide +kernel
theorem dX7_type_29 : decode cX7_type 29 = .ok (.putfield 113, 3) := by decide +kernel
theorem dX7_type_32 : decode cX7_type 32 = .ok (.aload_n 0, 1) := by decide +kernel
theorem dX7_type_33 : decode cX7_type 33 = .ok (.getfield 113, 3) := by decide +kernel
theorem dX7_type_36 : decode cX7_type 36 = .ok (.ireturn, 1) := by decide +kernel
theorem dX7_clearText_0 : decode cX7_clearText 0 = .ok (.aload_n 0, 1) := by decide +kernel
theorem dX7_clearText_1 : decode cX7_clearText 1 = .ok (.getfield 113, 3) := by decide +kernel
theorem dX7_clearText_4 : decode cX7_clearText 4 = .ok (.istore_n 1, 1) := by decide +kernel
theorem dX7_clearText_5 : decode cX7_clearText 5 = .ok (.aload_n 0, 1) := by decide +kernel
theorem dX7_clearText_6 : decode cX7_clearText 6 = .ok (.iconst 0, 1) := by decide +kernel
theorem dX7_clearText_7 : decode cX7_clearText 7 = .ok (.putfield 113, 3) := by decide +kernel
theorem dX7_clearText_10 : decode cX7_clearText 10 = .ok (.iload_n 1, 1) := by decide +kernel
theorem dX7_clearText_11 : decode cX7_clearText 11 = .ok (.ireturn, 1) := by decide +kernel
theorem dX7_isHere_0 : decode cX7_isHere 0 = .ok (.aload_n 0, 1) := by decide +kernel
theorem dX7_isHere_1 : decode cX7_isHere 1 = .ok (.getfield 116, 3) := by decide +kernel
theorem dX7_isHere_4 : decode cX7_isHere 4 = .ok (.aload_n 0, 1) := by decide +kernel
theorem dX7_isHere_5 : decode cX7_isHere 5 = .ok (.getfield 113, 3) := by decide +kernel
theorem dX7_isHere_8 : decode cX7_isHere 8 = .ok (.if_icmp .ge 27, 3) := by decide +kernel
theorem dX7_isHere_11 : decode cX7_isHere 11 = .ok (.aload_n 0, 1) := by decide +kernel
theorem dX7_isHere_12 : decode cX7_isHere 12 = .ok (.getfield 22, 3) := by decide +kernel
theorem dX7_isHere_15 : decode cX7_isHere 15 = .ok (.aload_n 0, 1) := by decide +kernel
theorem dX7_isHere_16 : decode cX7_isHere 16 = .ok (.getfield 116, 3) := by decide +kernel
theorem dX7_isHere_19 : decode cX7_isHere 19 = .ok (.iaload, 1) := by decide +kernel
theorem dX7_isHere_20 : decode cX7_isHere 20 = .ok (.i2l, 1) := by decide +kernel
theorem dX7_isHere_21 : decode cX7_isHere 21 = .ok (.iload_n 1, 1) := by decide +kernel
theorem dX7_isHere_22 : decode cX7_isHere 22 = .ok (.i2l, 1) := by decide +kernel
theorem dX7_isHere_23 : decode cX7_isHere 23 = .ok (.iload_n 2, 1) := by decide +kernel
theorem dX7_isHere_24 : decode cX7_isHere 24 = .ok (.i2l, 1) := by decide +kernel
theorem dX7_isHere_25 : decode cX7_isHere 25 = .ok (.invokestatic 34, 3) := by decide +kernel
theorem dX7_isHere_28 : decode cX7_isHere 28 = .ok (.ifCond .eq 7, 3) := by decide +kernel
theorem dX7_isHere_31 : decode cX7_isHere 31 = .ok (.iconst 1, 1) := by decide +kernel
theorem dX7_isHere_32 : decode cX7_isHere 32 = .ok (.goto 4, 3) := by decide +kernel
theorem dX7_isHere_35 : decode cX7_isHere 35 = .ok (.iconst 0, 1) := by decide +kernel
theorem dX7_isHere_36 : decode cX7_isHere 36 = .ok (.ireturn, 1) := by decide +kernel
theorem dX7_takes_0 : decode cX7_takes 0 = .ok (.aload_n 0, 1) := by decide +kernel
theorem dX7_takes_1 : decode cX7_takes 1 = .ok (.iload_n 1, 1) := by decide +kernel
theorem dX7_takes_2 : decode cX7_takes 2 = .ok (.iload_n 1, 1) := by decide +kernel
theorem dX7_takes_3 : decode cX7_takes 3 = .ok (.invokevirtual 119, 3) := by decide +kernel
theorem dX7_takes_6 : decode cX7_takes 6 = .ok (.istore_n 2, 1) := by decide +kernel
theorem dX7_takes_7 : decode cX7_takes 7 = .ok (.aload_n 0, 1) := by decide +kernel
theorem dX7_takes_8 : decode cX7_takes 8 = .ok (.dup, 1) := by decide +kernel
theorem dX7_takes_9 : decode cX7_takes 9 = .ok (.getfield 116, 3) := by decide +kernel
theorem dX7_takes_12 : decode cX7_takes 12 = .ok (.iload_n 2, 1) := by decide +kernel
theorem dX7_takes_13 : decode cX7_takes 13 = .ok (.ifCond .eq 7, 3) := by decide +kernel
theorem dX7_takes_16 : decode cX7_takes 16 = .ok (.iconst 1, 1) := by decide +kernel
theorem dX7_takes_17 : decode cX7_takes 17 = .ok (.goto 4, 3) := by decide +kernel
theorem dX7_takes_20 : decode cX7_takes 20 = .ok (.iconst 0, 1) := by decide +kernel
theorem dX7_takes_21 : decode cX7_takes 21 = .ok (.iadd, 1) := by decide +kernel
theorem dX7_takes_22 : decode cX7_takes 22 = .ok (.putfield 116, 3) := by decide +kernel
theorem dX7_takes_25 : decode cX7_takes 25 = .ok (.iload_n 2, 1) := by decide +kernel
theorem dX7_takes_26 : decode cX7_takes 26 = .ok (.ireturn, 1) := by decide +kernel
theorem dX7_readsNumber_0 : decode cX7_readsNumber 0 = .ok (.aload_n 0, 1) := by decide +kernel
theorem dX7_readsNumber_1 : decode cX7_readsNumber 1 = .ok (.bipush 48, 2) := by decide +kernel
theorem dX7_readsNumber_3 : decode cX7_readsNumber 3 = .ok (.bipush 57, 2) := by decide +kernel
theorem dX7_readsNumber_5 : decode cX7_readsNumber 5 = .ok (.invokevirtual 119, 3) := by decide +kernel
theorem dX7_readsNumber_8 : decode cX7_readsNumber 8 = .ok (.ifCond .ne 5, 3) := by decide +kernel
theorem dX7_readsNumber_11 : decode cX7_readsNumber 11 = .ok (.iconst 0, 1) := by decide +kernel
theorem dX7_readsNumber_12 : decode cX7_readsNumber 12 = .ok (.ireturn, 1) := by decide +kernel
theorem dX7_readsNumber_13 : decode cX7_readsNumber 13 = .ok (.aload_n 0, 1) := by decide +kernel
theorem dX7_readsNumber_14 : decode cX7_readsNumber 14 = .ok (.aload_n 0, 1) := by decide +kernel
theorem dX7_readsNumber_15 : decode cX7_readsNumber 15 = .ok (.getfield 22, 3) := by decide +kernel
theorem dX7_readsNumber_18 : decode cX7_readsNumber 18 = .ok (.aload_n 0, 1) := by decide +kernel
theorem dX7_readsNumber_19 : decode cX7_readsNumber 19 = .ok (.getfield 116, 3) := by decide +kernel
theorem dX7_readsNumber_22 : decode cX7_readsNumber 22 = .ok (.iaload, 1) := by decide +kernel
theorem dX7_readsNumber_23 : decode cX7_readsNumber 23 = .ok (.bipush 48, 2) := by decide +kernel
theorem dX7_readsNumber_25 : decode cX7_readsNumber 25 = .ok (.isub, 1) := by decide +kernel
theorem dX7_readsNumber_26 : decode cX7_readsNumber 26 = .ok (.putfield 122, 3) := by decide +kernel
theorem dX7_readsNumber_29 : decode cX7_readsNumber 29 = .ok (.aload_n 0, 1) := by decide +kernel
theorem dX7_readsNumber_30 : decode cX7_readsNumber 30 = .ok (.dup, 1) := by decide +kernel
theorem dX7_readsNumber_31 : decode cX7_readsNumber 31 = .ok (.getfield 116, 3) := by decide +kernel
theorem dX7_readsNumber_34 : decode cX7_readsNumber 34 = .ok (.iconst 1, 1) := by decide +kernel
theorem dX7_readsNumber_35 : decode cX7_readsNumber 35 = .ok (.iadd, 1) := by decide +kernel
theorem dX7_readsNumber_36 : decode cX7_readsNumber 36 = .ok (.putfield 116, 3) := by decide +kernel
theorem dX7_readsNumber_39 : decode cX7_readsNumber 39 = .ok (.aload_n 0, 1) := by decide +kernel
theorem dX7_readsNumber_40 : decode cX7_readsNumber 40 = .ok (.getfield 122, 3) := by decide +kernel
theorem dX7_readsNumber_43 : decode cX7_readsNumber 43 = .ok (.ifCond .le 72, 3) := by decide +kernel
theorem dX7_readsNumber_46 : decode cX7_readsNumber 46 = .ok (.aload_n 0, 1) := by decide +kernel
theorem dX7_readsNumber_47 : decode cX7_readsNumber 47 = .ok (.bipush 48, 2) := by decide +kernel
theorem dX7_readsNumber_49 : decode cX7_readsNumber 49 = .ok (.bipush 57, 2) := by decide +kernel
theorem dX7_readsNumber_51 : decode cX7_readsNumber 51 = .ok (.invokevirtual 119, 3) := by decide +kernel
theorem dX7_readsNumber_54 : decode cX7_readsNumber 54 = .ok (.ifCond .eq 61, 3) := by decide +kernel
theorem dX7_readsNumber_57 : decode cX7_readsNumber 57 = .ok (.bipush 10, 2) := by decide +kernel
theorem dX7_readsNumber_59 : decode cX7_readsNumber 59 = .ok (.aload_n 0, 1) := by decide +kernel
theorem dX7_readsNumber_60 : decode cX7_readsNumber 60 = .ok (.getfield 122, 3) := by decide +kernel
theorem dX7_readsNumber_63 : decode cX7_readsNumber 63 = .ok (.imul, 1) := by decide +kernel
theorem dX7_readsNumber_64 : decode cX7_readsNumber 64 = .ok (.aload_n 0, 1) := by decide +kernel
theorem dX7_readsNumber_65 : decode cX7_readsNumber 65 = .ok (.getfield 22, 3) := by decide +kernel
theorem dX7_readsNumber_68 : decode cX7_readsNumber 68 = .ok (.aload_n 0, 1) := by decide +kernel
theorem dX7_readsNumber_69 : decode cX7_readsNumber 69 = .ok (.getfield 116, 3) := by decide +kernel
theorem dX7_readsNumber_72 : decode cX7_readsNumber 72 = .ok (.iaload, 1) := by decide +kernel
theorem dX7_readsNumber_73 : decode cX7_readsNumber 73 = .ok (.iadd, 1) := by decide +kernel
theorem dX7_readsNumber_74 : decode cX7_readsNumber 74 = .ok (.bipush 48, 2) := by decide +kernel
theorem dX7_readsNumber_76 : decode cX7_readsNumber 76 = .ok (.isub, 1) := by decide +kernel
theorem dX7_readsNumber_77 : decode cX7_readsNumber 77 = .ok (.iload_n 1, 1) := by decide +kernel
theorem dX7_readsNumber_78 : decode cX7_readsNumber 78 = .ok (.if_icmp .gt 37, 3) := by decide +kernel
theorem dX7_readsNumber_81 : decode cX7_readsNumber 81 = .ok (.aload_n 0, 1) := by decide +kernel
theorem dX7_readsNumber_82 : decode cX7_readsNumber 82 = .ok (.bipush 10, 2) := by decide +kernel
theorem dX7_readsNumber_84 : decode cX7_readsNumber 84 = .ok (.aload_n 0, 1) := by decide +kernel
theorem dX7_readsNumber_85 : decode cX7_readsNumber 85 = .ok (.getfield 122, 3) := by decide +kernel
theorem dX7_readsNumber_88 : decode cX7_readsNumber 88 = .ok (.imul, 1) := by decide +kernel
theorem dX7_readsNumber_89 : decode cX7_readsNumber 89 = .ok (.aload_n 0, 1) := by decide +kernel
theorem dX7_readsNumber_90 : decode cX7_readsNumber 90 = .ok (.getfield 22, 3) := by decide +kernel
theorem dX7_readsNumber_93 : decode cX7_readsNumber 93 = .ok (.aload_n 0, 1) := by decide +kernel
theorem dX7_readsNumber_94 : decode cX7_readsNumber 94 = .ok (.getfield 116, 3) := by decide +kernel
theorem dX7_readsNumber_97 : decode cX7_readsNumber 97 = .ok (.iaload, 1) := by decide +kernel
theorem dX7_readsNumber_98 : decode cX7_readsNumber 98 = .ok (.iadd, 1) := by decide +kernel
theorem dX7_readsNumber_99 : decode cX7_readsNumber 99 = .ok (.bipush 48, 2) := by decide +kernel
theorem dX7_readsNumber_101 : decode cX7_readsNumber 101 = .ok (.isub, 1) := by decide +kernel
theorem dX7_readsNumber_102 : decode cX7_readsNumber 102 = .ok (.putfield 122, 3) := by decide +kernel
theorem dX7_readsNumber_105 : decode cX7_readsNumber 105 = .ok (.aload_n 0, 1) := by decide +kernel
theorem dX7_readsNumber_106 : decode cX7_readsNumber 106 = .ok (.dup, 1) := by decide +kernel
theorem dX7_readsNumber_107 : decode cX7_readsNumber 107 = .ok (.getfield 116, 3) := by decide +kernel
theorem dX7_readsNumber_110 : decode cX7_readsNumber 110 = .ok (.iconst 1, 1) := by decide +kernel
theorem dX7_readsNumber_111 : decode cX7_readsNumber 111 = .ok (.iadd, 1) := by decide +kernel
theorem dX7_readsNumber_112 : decode cX7_readsNumber 112 = .ok (.putfield 116, 3) := by decide +kernel
theorem dX7_readsNumber_115 : decode cX7_readsNumber 115 = .ok (.iconst 1, 1) := by decide +kernel
theorem dX7_readsNumber_116 : decode cX7_readsNumber 116 = .ok (.ireturn, 1) := by decide +kernel
theorem dX7_isTold_0 : decode cX7_isTold 0 = .ok (.aload_n 0, 1) := by decide +kernel
theorem dX7_isTold_1 : decode cX7_isTold 1 = .ok (.dup, 1) := by decide +kernel
theorem dX7_isTold_2 : decode cX7_isTold 2 = .ok (.getfield 116, 3) := by decide +kernel
theorem dX7_isTold_5 : decode cX7_isTold 5 = .ok (.iload_n 1, 1) := by decide +kernel
theorem dX7_isTold_6 : decode cX7_isTold 6 = .ok (.ifCond .eq 7, 3) := by decide +kernel
theorem dX7_isTold_9 : decode cX7_isTold 9 = .ok (.iconst 0, 1) := by decide +kernel
theorem dX7_isTold_10 : decode cX7_isTold 10 = .ok (.goto 4, 3) := by decide +kernel
theorem dX7_isTold_13 : decode cX7_isTold 13 = .ok (.iconst 1, 1) := by decide +kernel
theorem dX7_isTold_14 : decode cX7_isTold 14 = .ok (.isub, 1) := by decide +kernel
theorem dX7_isTold_15 : decode cX7_isTold 15 = .ok (.putfield 116, 3) := by decide +kernel
theorem dX7_isTold_18 : decode cX7_isTold 18 = .ok (.iload_n 1, 1) := by decide +kernel
theorem dX7_isTold_19 : decode cX7_isTold 19 = .ok (.ireturn, 1) := by decide +kernel
theorem dX7_readsLink_0 : decode cX7_readsLink 0 = .ok (.iconst 4, 1) := by decide +kernel
theorem dX7_readsLink_1 : decode cX7_readsLink 1 = .ok (.aload_n 0, 1) := by decide +kernel
theorem dX7_readsLink_2 : decode cX7_readsLink 2 = .ok (.getfield 125, 3) := by decide +kernel
theorem dX7_readsLink_5 : decode cX7_readsLink 5 = .ok (.imul, 1) := by decide +kernel
theorem dX7_readsLink_6 : decode cX7_readsLink 6 = .ok (.istore_n 1, 1) := by decide +kernel
theorem dX7_readsLink_7 : decode cX7_readsLink 7 = .ok (.aload_n 0, 1) := by decide +kernel
theorem dX7_readsLink_8 : decode cX7_readsLink 8 = .ok (.bipush 15, 2) := by decide +kernel
theorem dX7_readsLink_10 : decode cX7_readsLink 10 = .ok (.invokevirtual 128, 3) := by decide +kernel
theorem dX7_readsLink_13 : decode cX7_readsLink 13 = .ok (.ifCond .ne 5, 3) := by decide +kernel
theorem dX7_readsLink_16 : decode cX7_readsLink 16 = .ok (.iconst 0, 1) := by decide +kernel
theorem dX7_readsLink_17 : decode cX7_readsLink 17 = .ok (.ireturn, 1) := by decide +kernel
theorem dX7_readsLink_18 : decode cX7_readsLink 18 = .ok (.aload_n 0, 1) := by decide +kernel
theorem dX7_readsLink_19 : decode cX7_readsLink 19 = .ok (.getfield 122, 3) := by decide +kernel
theorem dX7_readsLink_22 : decode cX7_readsLink 22 = .ok (.istore_n 2, 1) := by decide +kernel
theorem dX7_readsLink_23 : decode cX7_readsLink 23 = .ok (.aload_n 0, 1) := by decide +kernel
theorem dX7_readsLink_24 : decode cX7_readsLink 24 = .ok (.bipush 45, 2) := by decide +kernel
theorem dX7_readsLink_26 : decode cX7_readsLink 26 = .ok (.invokevirtual 131, 3) := by decide +kernel
theorem dX7_readsLink_29 : decode cX7_readsLink 29 = .ok (.ifCond .eq 32, 3) := by decide +kernel
theorem dX7_readsLink_32 : decode cX7_readsLink 32 = .ok (.aload_n 0, 1) := by decide +kernel
theorem dX7_readsLink_33 : decode cX7_readsLink 33 = .ok (.bipush 15, 2) := by decide +kernel
theorem dX7_readsLink_35 : decode cX7_readsLink 35 = .ok (.invokevirtual 128, 3) := by decide +kernel
theorem dX7_readsLink_38 : decode cX7_readsLink 38 = .ok (.ifCond .eq 23, 3) := by decide +kernel
theorem dX7_readsLink_41 : decode cX7_readsLink 41 = .ok (.aload_n 0, 1) := by decide +kernel
theorem dX7_readsLink_42 : decode cX7_readsLink 42 = .ok (.aload_n 0, 1) := by decide +kernel
theorem dX7_readsLink_43 : decode cX7_readsLink 43 = .ok (.getfield 122, 3) := by decide +kernel
theorem dX7_readsLink_46 : decode cX7_readsLink 46 = .ok (.iload_n 2, 1) := by decide +kernel
theorem dX7_readsLink_47 : decode cX7_readsLink 47 = .ok (.if_icmp .eq 7, 3) := by decide +kernel
theorem dX7_readsLink_50 : decode cX7_readsLink 50 = .ok (.iconst 1, 1) := by decide +kernel
theorem dX7_readsLink_51 : decode cX7_readsLink 51 = .ok (.goto 4, 3) := by decide +kernel
theorem dX7_readsLink_54 : decode cX7_readsLink 54 = .ok (.iconst 0, 1) := by decide +kernel
theorem dX7_readsLink_55 : decode cX7_readsLink 55 = .ok (.invokevirtual 134, 3) := by decide +kernel
theorem dX7_readsLink_58 : decode cX7_readsLink 58 = .ok (.ifCond .ne 5, 3) := by decide +kernel
theorem dX7_readsLink_61 : decode cX7_readsLink 61 = .ok (.iconst 0, 1) := by decide +kernel
theorem dX7_readsLink_62 : decode cX7_readsLink 62 = .ok (.ireturn, 1) := by decide +kernel
theorem dX7_readsLink_63 : decode cX7_readsLink 63 = .ok (.aload_n 0, 1) := by decide +kernel
theorem dX7_readsLink_64 : decode cX7_readsLink 64 = .ok (.getfield 122, 3) := by decide +kernel
theorem dX7_readsLink_67 : decode cX7_readsLink 67 = .ok (.istore_n 3, 1) := by decide +kernel
theorem dX7_readsLink_68 : decode cX7_readsLink 68 = .ok (.aload_n 0, 1) := by decide +kernel
theorem dX7_readsLink_69 : decode cX7_readsLink 69 = .ok (.bipush 64, 2) := by decide +kernel
theorem dX7_readsLink_71 : decode cX7_readsLink 71 = .ok (.invokevirtual 131, 3) := by decide +kernel
theorem dX7_readsLink_74 : decode cX7_readsLink 74 = .ok (.ifCond .eq 12, 3) := by decide +kernel
theorem dX7_readsLink_77 : decode cX7_readsLink 77 = .ok (.aload_n 0, 1) := by decide +kernel
theorem dX7_readsLink_78 : decode cX7_readsLink 78 = .ok (.bipush 63, 2) := by decide +kernel
theorem dX7_readsLink_80 : decode cX7_readsLink 80 = .ok (.invokevirtual 128, 3) := by decide +kernel
theorem dX7_readsLink_83 : decode cX7_readsLink 83 = .ok (.ifCond .ne 5, 3) := by decide +kernel
theorem dX7_readsLink_86 : decode cX7_readsLink 86 = .ok (.iconst 0, 1) := by decide +kernel
theorem dX7_readsLink_87 : decode cX7_readsLink 87 = .ok (.ireturn, 1) := by decide +kernel
theorem dX7_readsLink_88 : decode cX7_readsLink 88 = .ok (.aload_n 0, 1) := by decide +kernel
theorem dX7_readsLink_89 : decode cX7_readsLink 89 = .ok (.getfield 122, 3) := by decide +kernel
theorem dX7_readsLink_92 : decode cX7_readsLink 92 = .ok (.istore 4, 2) := by decide +kernel
theorem dX7_readsLink_94 : decode cX7_readsLink 94 = .ok (.aload_n 0, 1) := by decide +kernel
theorem dX7_readsLink_95 : decode cX7_readsLink 95 = .ok (.bipush 58, 2) := by decide +kernel
theorem dX7_readsLink_97 : decode cX7_readsLink 97 = .ok (.invokevirtual 131, 3) := by decide +kernel
theorem dX7_readsLink_100 : decode cX7_readsLink 100 = .ok (.ifCond .eq 33, 3) := by decide +kernel
theorem dX7_readsLink_103 : decode cX7_readsLink 103 = .ok (.aload_n 0, 1) := by decide +kernel
theorem dX7_readsLink_104 : decode cX7_readsLink 104 = .ok (.bipush 64, 2) := by decide +kernel
theorem dX7_readsLink_106 : decode cX7_readsLink 106 = .ok (.invokevirtual 128, 3) := by decide +kernel
theorem dX7_readsLink_109 : decode cX7_readsLink 109 = .ok (.ifCond .eq 24, 3) := by decide +kernel
theorem dX7_readsLink_112 : decode cX7_readsLink 112 = .ok (.aload_n 0, 1) := by decide +kernel
theorem dX7_readsLink_113 : decode cX7_readsLink 113 = .ok (.aload_n 0, 1) := by decide +kernel
theorem dX7_readsLink_114 : decode cX7_readsLink 114 = .ok (.getfield 122, 3) := by decide +kernel
theorem dX7_readsLink_117 : decode cX7_readsLink 117 = .ok (.iload 4, 2) := by decide +kernel
theorem dX7_readsLink_119 : decode cX7_readsLink 119 = .ok (.if_icmp .le 7, 3) := by decide +kernel
theorem dX7_readsLink_122 : decode cX7_readsLink 122 = .ok (.iconst 1, 1) := by decide +kernel
theorem dX7_readsLink_123 : decode cX7_readsLink 123 = .ok (.goto 4, 3) := by decide +kernel
theorem dX7_readsLink_126 : decode cX7_readsLink 126 = .ok (.iconst 0, 1) := by decide +kernel
theorem dX7_readsLink_127 : decode cX7_readsLink 127 = .ok (.invokevirtual 134, 3) := by decide +kernel
theorem dX7_readsLink_130 : decode cX7_readsLink 130 = .ok (.ifCond .ne 5, 3) := by decide +kernel
theorem dX7_readsLink_133 : decode cX7_readsLink 133 = .ok (.iconst 0, 1) := by decide +kernel
theorem dX7_readsLink_134 : decode cX7_readsLink 134 = .ok (.ireturn, 1) := by decide +kernel
theorem dX7_readsLink_135 : decode cX7_readsLink 135 = .ok (.aload_n 0, 1) := by decide +kernel
theorem dX7_readsLink_136 : decode cX7_readsLink 136 = .ok (.getfield 25, 3) := by decide +kernel
theorem dX7_readsLink_139 : decode cX7_readsLink 139 = .ok (.iload_n 1, 1) := by decide +kernel
theorem dX7_readsLink_140 : decode cX7_readsLink 140 = .ok (.iload_n 2, 1) := by decide +kernel
theorem dX7_readsLink_141 : decode cX7_readsLink 141 = .ok (.iastore, 1) := by decide +kernel
theorem dX7_readsLink_142 : decode cX7_readsLink 142 = .ok (.aload_n 0, 1) := by decide +kernel
theorem dX7_readsLink_143 : decode cX7_readsLink 143 = .ok (.getfield 25, 3) := by decide +kernel
theorem dX7_readsLink_146 : decode cX7_readsLink 146 = .ok (.iload_n 1, 1) := by decide +kernel
theorem dX7_readsLink_147 : decode cX7_readsLink 147 = .ok (.iconst 1, 1) := by decide +kernel
theorem dX7_readsLink_148 : decode cX7_readsLink 148 = .ok (.iadd, 1) := by decide +kernel
theorem dX7_readsLink_149 : decode cX7_readsLink 149 = .ok (.iload_n 3, 1) := by decide +kernel
theorem dX7_readsLink_150 : decode cX7_readsLink 150 = .ok (.iastore, 1) := by decide +kernel
theorem dX7_readsLink_151 : decode cX7_readsLink 151 = .ok (.aload_n 0, 1) := by decide +kernel
theorem dX7_readsLink_152 : decode cX7_readsLink 152 = .ok (.getfield 25, 3) := by decide +kernel
theorem dX7_readsLink_155 : decode cX7_readsLink 155 = .ok (.iload_n 1, 1) := by decide +kernel
theorem dX7_readsLink_156 : decode cX7_readsLink 156 = .ok (.iconst 2, 1) := by decide +kernel
theorem dX7_readsLink_157 : decode cX7_readsLink 157 = .ok (.iadd, 1) := by decide +kernel
theorem dX7_readsLink_158 : decode cX7_readsLink 158 = .ok (.iload 4, 2) := by decide +kernel
theorem dX7_readsLink_160 : decode cX7_readsLink 160 = .ok (.iastore, 1) := by decide +kernel
theorem dX7_readsLink_161 : decode cX7_readsLink 161 = .ok (.aload_n 0, 1) := by decide +kernel
theorem dX7_readsLink_162 : decode cX7_readsLink 162 = .ok (.getfield 25, 3) := by decide +kernel
theorem dX7_readsLink_165 : decode cX7_readsLink 165 = .ok (.iload_n 1, 1) := by decide +kernel
theorem dX7_readsLink_166 : decode cX7_readsLink 166 = .ok (.iconst 3, 1) := by decide +kernel
theorem dX7_readsLink_167 : decode cX7_readsLink 167 = .ok (.iadd, 1) := by decide +kernel
theorem dX7_readsLink_168 : decode cX7_readsLink 168 = .ok (.aload_n 0, 1) := by decide +kernel
theorem dX7_readsLink_169 : decode cX7_readsLink 169 = .ok (.getfield 122, 3) := by decide +kernel
theorem dX7_readsLink_172 : decode cX7_readsLink 172 = .ok (.iastore, 1) := by decide +kernel
theorem dX7_readsLink_173 : decode cX7_readsLink 173 = .ok (.aload_n 0, 1) := by decide +kernel
theorem dX7_readsLink_174 : decode cX7_readsLink 174 = .ok (.dup, 1) := by decide +kernel
theorem dX7_readsLink_175 : decode cX7_readsLink 175 = .ok (.getfield 125, 3) := by decide +kernel
theorem dX7_readsLink_178 : decode cX7_readsLink 178 = .ok (.iconst 1, 1) := by decide +kernel
theorem dX7_readsLink_179 : decode cX7_readsLink 179 = .ok (.iadd, 1) := by decide +kernel
theorem dX7_readsLink_180 : decode cX7_readsLink 180 = .ok (.putfield 125, 3) := by decide +kernel
theorem dX7_readsLink_183 : decode cX7_readsLink 183 = .ok (.iconst 1, 1) := by decide +kernel
theorem dX7_readsLink_184 : decode cX7_readsLink 184 = .ok (.ireturn, 1) := by decide +kernel
theorem dX7_fault_0 : decode cX7_fault 0 = .ok (.aload_n 0, 1) := by decide +kernel
theorem dX7_fault_1 : decode cX7_fault 1 = .ok (.iconst 0, 1) := by decide +kernel
theorem dX7_fault_2 : decode cX7_fault 2 = .ok (.putfield 116, 3) := by decide +kernel
theorem dX7_fault_5 : decode cX7_fault 5 = .ok (.aload_n 0, 1) := by decide +kernel
theorem dX7_fault_6 : decode cX7_fault 6 = .ok (.iconst 0, 1) := by decide +kernel
theorem dX7_fault_7 : decode cX7_fault 7 = .ok (.putfield 125, 3) := by decide +kernel
theorem dX7_fault_10 : decode cX7_fault 10 = .ok (.iconst 1, 1) := by decide +kernel
theorem dX7_fault_11 : decode cX7_fault 11 = .ok (.istore_n 1, 1) := by decide +kernel
theorem dX7_fault_12 : decode cX7_fault 12 = .ok (.iload_n 1, 1) := by decide +kernel
theorem dX7_fault_13 : decode cX7_fault 13 = .ok (.ifCond .eq 25, 3) := by decide +kernel
theorem dX7_fault_16 : decode cX7_fault 16 = .ok (.aload_n 0, 1) := by decide +kernel
theorem dX7_fault_17 : decode cX7_fault 17 = .ok (.invokevirtual 138, 3) := by decide +kernel
theorem dX7_fault_20 : decode cX7_fault 20 = .ok (.ifCond .ne 8, 3) := by decide +kernel
theorem dX7_fault_23 : decode cX7_fault 23 = .ok (.aload_n 0, 1) := by decide +kernel
theorem dX7_fault_24 : decode cX7_fault 24 = .ok (.getfield 116, 3) := by decide +kernel
theorem dX7_fault_27 : decode cX7_fault 27 = .ok (.ireturn, 1) := by decide +kernel
theorem dX7_fault_28 : decode cX7_fault 28 = .ok (.aload_n 0, 1) := by decide +kernel
theorem dX7_fault_29 : decode cX7_fault 29 = .ok (.bipush 44, 2) := by decide +kernel
theorem dX7_fault_31 : decode cX7_fault 31 = .ok (.invokevirtual 131, 3) := by decide +kernel
theorem dX7_fault_34 : decode cX7_fault 34 = .ok (.istore_n 1, 1) := by decide +kernel
theorem dX7_fault_35 : decode cX7_fault 35 = .ok (.goto (-23), 3) := by decide +kernel
theorem dX7_fault_38 : decode cX7_fault 38 = .ok (.aload_n 0, 1) := by decide +kernel
theorem dX7_fault_39 : decode cX7_fault 39 = .ok (.getfield 116, 3) := by decide +kernel
theorem dX7_fault_42 : decode cX7_fault 42 = .ok (.aload_n 0, 1) := by decide +kernel
theorem dX7_fault_43 : decode cX7_fault 43 = .ok (.getfield 113, 3) := by decide +kernel
theorem dX7_fault_46 : decode cX7_fault 46 = .ok (.if_icmp .ne 8, 3) := by decide +kernel
theorem dX7_fault_49 : decode cX7_fault 49 = .ok (.bipush (-5), 2) := by decide +kernel
theorem dX7_fault_51 : decode cX7_fault 51 = .ok (.goto 7, 3) := by decide +kernel
theorem dX7_fault_54 : decode cX7_fault 54 = .ok (.aload_n 0, 1) := by decide +kernel
theorem dX7_fault_55 : decode cX7_fault 55 = .ok (.getfield 116, 3) := by decide +kernel
theorem dX7_fault_58 : decode cX7_fault 58 = .ok (.ireturn, 1) := by decide +kernel
theorem dX7_readLinks_0 : decode cX7_readLinks 0 = .ok (.aload_n 0, 1) := by decide +kernel
theorem dX7_readLinks_1 : decode cX7_readLinks 1 = .ok (.invokevirtual 142, 3) := by decide +kernel
theorem dX7_readLinks_4 : decode cX7_readLinks 4 = .ok (.istore_n 1, 1) := by decide +kernel
theorem dX7_readLinks_5 : decode cX7_readLinks 5 = .ok (.iload_n 1, 1) := by decide +kernel
theorem dX7_readLinks_6 : decode cX7_readLinks 6 = .ok (.bipush (-5), 2) := by decide +kernel
theorem dX7_readLinks_8 : decode cX7_readLinks 8 = .ok (.if_icmp .eq 8, 3) := by decide +kernel
theorem dX7_readLinks_11 : decode cX7_readLinks 11 = .ok (.bipush (-100), 2) := by decide +kernel
theorem dX7_readLinks_13 : decode cX7_readLinks 13 = .ok (.iload_n 1, 1) := by decide +kernel
theorem dX7_readLinks_14 : decode cX7_readLinks 14 = .ok (.isub, 1) := by decide +kernel
theorem dX7_readLinks_15 : decode cX7_readLinks 15 = .ok (.ireturn, 1) := by decide +kernel
theorem dX7_readLinks_16 : decode cX7_readLinks 16 = .ok (.aload_n 0, 1) := by decide +kernel
theorem dX7_readLinks_17 : decode cX7_readLinks 17 = .ok (.getfield 7, 3) := by decide +kernel
theorem dX7_readLinks_20 : decode cX7_readLinks 20 = .ok (.iconst 0, 1) := by decide +kernel
theorem dX7_readLinks_21 : decode cX7_readLinks 21 = .ok (.iaload, 1) := by decide +kernel
theorem dX7_readLinks_22 : decode cX7_readLinks 22 = .ok (.aload_n 0, 1) := by decide +kernel
theorem dX7_readLinks_23 : decode cX7_readLinks 23 = .ok (.getfield 125, 3) := by decide +kernel
theorem dX7_readLinks_26 : decode cX7_readLinks 26 = .ok (.iadd, 1) := by decide +kernel
theorem dX7_readLinks_27 : decode cX7_readLinks 27 = .ok (.bipush 40, 2) := by decide +kernel
theorem dX7_readLinks_29 : decode cX7_readLinks 29 = .ok (.if_icmp .le 6, 3) := by decide +kernel
theorem dX7_readLinks_32 : decode cX7_readLinks 32 = .ok (.bipush (-3), 2) := by decide +kernel
theorem dX7_readLinks_34 : decode cX7_readLinks 34 = .ok (.ireturn, 1) := by decide +kernel
theorem dX7_readLinks_35 : decode cX7_readLinks 35 = .ok (.aload_n 0, 1) := by decide +kernel
theorem dX7_readLinks_36 : decode cX7_readLinks 36 = .ok (.invokevirtual 89, 3) := by decide +kernel
theorem dX7_readLinks_39 : decode cX7_readLinks 39 = .ok (.iconst 0, 1) := by decide +kernel
theorem dX7_readLinks_40 : decode cX7_readLinks 40 = .ok (.istore_n 2, 1) := by decide +kernel
theorem dX7_readLinks_41 : decode cX7_readLinks 41 = .ok (.iload_n 2, 1) := by decide +kernel
theorem dX7_readLinks_42 : decode cX7_readLinks 42 = .ok (.aload_n 0, 1) := by decide +kernel
theorem dX7_readLinks_43 : decode cX7_readLinks 43 = .ok (.getfield 125, 3) := by decide +kernel
theorem dX7_readLinks_46 : decode cX7_readLinks 46 = .ok (.if_icmp .ge 51, 3) := by decide +kernel
theorem dX7_readLinks_49 : decode cX7_readLinks 49 = .ok (.aload_n 0, 1) := by decide +kernel
theorem dX7_readLinks_50 : decode cX7_readLinks 50 = .ok (.aload_n 0, 1) := by decide +kernel
theorem dX7_readLinks_51 : decode cX7_readLinks 51 = .ok (.getfield 25, 3) := by decide +kernel
theorem dX7_readLinks_54 : decode cX7_readLinks 54 = .ok (.iconst 4, 1) := by decide +kernel
theorem dX7_readLinks_55 : decode cX7_readLinks 55 = .ok (.iload_n 2, 1) := by decide +kernel
theorem dX7_readLinks_56 : decode cX7_readLinks 56 = .ok (.imul, 1) := by decide +kernel
theorem dX7_readLinks_57 : decode cX7_readLinks 57 = .ok (.iaload, 1) := by decide +kernel
theorem dX7_readLinks_58 : decode cX7_readLinks 58 = .ok (.aload_n 0, 1) := by decide +kernel
theorem dX7_readLinks_59 : decode cX7_readLinks 59 = .ok (.getfield 25, 3) := by decide +kernel
theorem dX7_readLinks_62 : decode cX7_readLinks 62 = .ok (.iconst 4, 1) := by decide +kernel
theorem dX7_readLinks_63 : decode cX7_readLinks 63 = .ok (.iload_n 2, 1) := by decide +kernel
theorem dX7_readLinks_64 : decode cX7_readLinks 64 = .ok (.imul, 1) := by decide +kernel
theorem dX7_readLinks_65 : decode cX7_readLinks 65 = .ok (.iconst 1, 1) := by decide +kernel
theorem dX7_readLinks_66 : decode cX7_readLinks 66 = .ok (.iadd, 1) := by decide +kernel
theorem dX7_readLinks_67 : decode cX7_readLinks 67 = .ok (.iaload, 1) := by decide +kernel
theorem dX7_readLinks_68 : decode cX7_readLinks 68 = .ok (.aload_n 0, 1) := by decide +kernel
theorem dX7_readLinks_69 : decode cX7_readLinks 69 = .ok (.getfield 25, 3) := by decide +kernel
theorem dX7_readLinks_72 : decode cX7_readLinks 72 = .ok (.iconst 4, 1) := by decide +kernel
theorem dX7_readLinks_73 : decode cX7_readLinks 73 = .ok (.iload_n 2, 1) := by decide +kernel
theorem dX7_readLinks_74 : decode cX7_readLinks 74 = .ok (.imul, 1) := by decide +kernel
theorem dX7_readLinks_75 : decode cX7_readLinks 75 = .ok (.iconst 2, 1) := by decide +kernel
theorem dX7_readLinks_76 : decode cX7_readLinks 76 = .ok (.iadd, 1) := by decide +kernel
theorem dX7_readLinks_77 : decode cX7_readLinks 77 = .ok (.iaload, 1) := by decide +kernel
theorem dX7_readLinks_78 : decode cX7_readLinks 78 = .ok (.aload_n 0, 1) := by decide +kernel
theorem dX7_readLinks_79 : decode cX7_readLinks 79 = .ok (.getfield 25, 3) := by decide +kernel
theorem dX7_readLinks_82 : decode cX7_readLinks 82 = .ok (.iconst 4, 1) := by decide +kernel
theorem dX7_readLinks_83 : decode cX7_readLinks 83 = .ok (.iload_n 2, 1) := by decide +kernel
theorem dX7_readLinks_84 : decode cX7_readLinks 84 = .ok (.imul, 1) := by decide +kernel
theorem dX7_readLinks_85 : decode cX7_readLinks 85 = .ok (.iconst 3, 1) := by decide +kernel
theorem dX7_readLinks_86 : decode cX7_readLinks 86 = .ok (.iadd, 1) := by decide +kernel
theorem dX7_readLinks_87 : decode cX7_readLinks 87 = .ok (.iaload, 1) := by decide +kernel
theorem dX7_readLinks_88 : decode cX7_readLinks 88 = .ok (.invokevirtual 92, 3) := by decide +kernel
theorem dX7_readLinks_91 : decode cX7_readLinks 91 = .ok (.iinc 2 1, 3) := by decide +kernel
theorem dX7_readLinks_94 : decode cX7_readLinks 94 = .ok (.goto (-53), 3) := by decide +kernel
theorem dX7_readLinks_97 : decode cX7_readLinks 97 = .ok (.aload_n 0, 1) := by decide +kernel
theorem dX7_readLinks_98 : decode cX7_readLinks 98 = .ok (.aload_n 0, 1) := by decide +kernel
theorem dX7_readLinks_99 : decode cX7_readLinks 99 = .ok (.getfield 7, 3) := by decide +kernel
theorem dX7_readLinks_102 : decode cX7_readLinks 102 = .ok (.iconst 0, 1) := by decide +kernel
theorem dX7_readLinks_103 : decode cX7_readLinks 103 = .ok (.iaload, 1) := by decide +kernel
theorem dX7_readLinks_104 : decode cX7_readLinks 104 = .ok (.invokevirtual 96, 3) := by decide +kernel
theorem dX7_readLinks_107 : decode cX7_readLinks 107 = .ok (.ireturn, 1) := by decide +kernel
theorem dX7_undo_0 : decode cX7_undo 0 = .ok (.aload_n 0, 1) := by decide +kernel
theorem dX7_undo_1 : decode cX7_undo 1 = .ok (.getfield 28, 3) := by decide +kernel
theorem dX7_undo_4 : decode cX7_undo 4 = .ok (.ifCond .ne 6, 3) := by decide +kernel
theorem dX7_undo_7 : decode cX7_undo 7 = .ok (.bipush (-5), 2) := by decide +kernel
theorem dX7_undo_9 : decode cX7_undo 9 = .ok (.ireturn, 1) := by decide +kernel
theorem dX7_undo_10 : decode cX7_undo 10 = .ok (.aload_n 0, 1) := by decide +kernel
theorem dX7_undo_11 : decode cX7_undo 11 = .ok (.dup, 1) := by decide +kernel
theorem dX7_undo_12 : decode cX7_undo 12 = .ok (.getfield 28, 3) := by decide +kernel
theorem dX7_undo_15 : decode cX7_undo 15 = .ok (.iconst 1, 1) := by decide +kernel
theorem dX7_undo_16 : decode cX7_undo 16 = .ok (.isub, 1) := by decide +kernel
theorem dX7_undo_17 : decode cX7_undo 17 = .ok (.putfield 28, 3) := by decide +kernel
theorem dX7_undo_20 : decode cX7_undo 20 = .ok (.iconst 0, 1) := by decide +kernel
theorem dX7_undo_21 : decode cX7_undo 21 = .ok (.istore_n 1, 1) := by decide +kernel
theorem dX7_undo_22 : decode cX7_undo 22 = .ok (.iload_n 1, 1) := by decide +kernel
theorem dX7_undo_23 : decode cX7_undo 23 = .ok (.sipush 161, 3) := by decide +kernel
theorem dX7_undo_26 : decode cX7_undo 26 = .ok (.if_icmp .ge 30, 3) := by decide +kernel
theorem dX7_undo_29 : decode cX7_undo 29 = .ok (.aload_n 0, 1) := by decide +kernel
theorem dX7_undo_30 : decode cX7_undo 30 = .ok (.getfield 7, 3) := by decide +kernel
theorem dX7_undo_33 : decode cX7_undo 33 = .ok (.iload_n 1, 1) := by decide +kernel
theorem dX7_undo_34 : decode cX7_undo 34 = .ok (.aload_n 0, 1) := by decide +kernel
theorem dX7_undo_35 : decode cX7_undo 35 = .ok (.getfield 16, 3) := by decide +kernel
theorem dX7_undo_38 : decode cX7_undo 38 = .ok (.sipush 161, 3) := by decide +kernel
theorem dX7_undo_41 : decode cX7_undo 41 = .ok (.aload_n 0, 1) := by decide +kernel
theorem dX7_undo_42 : decode cX7_undo 42 = .ok (.getfield 28, 3) := by decide +kernel
theorem dX7_undo_45 : decode cX7_undo 45 = .ok (.imul, 1) := by decide +kernel
theorem dX7_undo_46 : decode cX7_undo 46 = .ok (.iload_n 1, 1) := by decide +kernel
theorem dX7_undo_47 : decode cX7_undo 47 = .ok (.iadd, 1) := by decide +kernel
theorem dX7_undo_48 : decode cX7_undo 48 = .ok (.iaload, 1) := by decide +kernel
theorem dX7_undo_49 : decode cX7_undo 49 = .ok (.iastore, 1) := by decide +kernel
theorem dX7_undo_50 : decode cX7_undo 50 = .ok (.iinc 1 1, 3) := by decide +kernel
theorem dX7_undo_53 : decode cX7_undo 53 = .ok (.goto (-31), 3) := by decide +kernel
theorem dX7_undo_56 : decode cX7_undo 56 = .ok (.aload_n 0, 1) := by decide +kernel
theorem dX7_undo_57 : decode cX7_undo 57 = .ok (.getfield 28, 3) := by decide +kernel
theorem dX7_undo_60 : decode cX7_undo 60 = .ok (.ireturn, 1) := by decide +kernel
theorem dX7_keep_0 : decode cX7_keep 0 = .ok (.iconst 0, 1) := by decide +kernel
theorem dX7_keep_1 : decode cX7_keep 1 = .ok (.istore_n 1, 1) := by decide +kernel
theorem dX7_keep_2 : decode cX7_keep 2 = .ok (.iload_n 1, 1) := by decide +kernel
theorem dX7_keep_3 : decode cX7_keep 3 = .ok (.sipush 161, 3) := by decide +kernel
theorem dX7_keep_6 : decode cX7_keep 6 = .ok (.if_icmp .ge 21, 3) := by decide +kernel
theorem dX7_keep_9 : decode cX7_keep 9 = .ok (.aload_n 0, 1) := by decide +kernel
theorem dX7_keep_10 : decode cX7_keep 10 = .ok (.getfield 19, 3) := by decide +kernel
theorem dX7_keep_13 : decode cX7_keep 13 = .ok (.iload_n 1, 1) := by decide +kernel
theorem dX7_keep_14 : decode cX7_keep 14 = .ok (.aload_n 0, 1) := by decide +kernel
theorem dX7_keep_15 : decode cX7_keep 15 = .ok (.getfield 7, 3) := by decide +kernel
theorem dX7_keep_18 : decode cX7_keep 18 = .ok (.iload_n 1, 1) := by decide +kernel
theorem dX7_keep_19 : decode cX7_keep 19 = .ok (.iaload, 1) := by decide +kernel
theorem dX7_keep_20 : decode cX7_keep 20 = .ok (.iastore, 1) := by decide +kernel
theorem dX7_keep_21 : decode cX7_keep 21 = .ok (.iinc 1 1, 3) := by decide +kernel
theorem dX7_keep_24 : decode cX7_keep 24 = .ok (.goto (-22), 3) := by decide +kernel
theorem dX7_keep_27 : decode cX7_keep 27 = .ok (.aload_n 0, 1) := by decide +kernel
theorem dX7_keep_28 : decode cX7_keep 28 = .ok (.iconst 1, 1) := by decide +kernel
theorem dX7_keep_29 : decode cX7_keep 29 = .ok (.putfield 146, 3) := by decide +kernel
theorem dX7_keep_32 : decode cX7_keep 32 = .ok (.aload_n 0, 1) := by decide +kernel
theorem dX7_keep_33 : decode cX7_keep 33 = .ok (.getfield 7, 3) := by decide +kernel
theorem dX7_keep_36 : decode cX7_keep 36 = .ok (.iconst 0, 1) := by decide +kernel
theorem dX7_keep_37 : decode cX7_keep 37 = .ok (.iaload, 1) := by decide +kernel
theorem dX7_keep_38 : decode cX7_keep 38 = .ok (.ireturn, 1) := by decide +kernel
theorem dX7_restore_0 : decode cX7_restore 0 = .ok (.aload_n 0, 1) := by decide +kernel
theorem dX7_restore_1 : decode cX7_restore 1 = .ok (.getfield 146, 3) := by decide +kernel
theorem dX7_restore_4 : decode cX7_restore 4 = .ok (.ifCond .ne 6, 3) := by decide +kernel
theorem dX7_restore_7 : decode cX7_restore 7 = .ok (.bipush (-5), 2) := by decide +kernel
theorem dX7_restore_9 : decode cX7_restore 9 = .ok (.ireturn, 1) := by decide +kernel
theorem dX7_restore_10 : decode cX7_restore 10 = .ok (.aload_n 0, 1) := by decide +kernel
theorem dX7_restore_11 : decode cX7_restore 11 = .ok (.invokevirtual 89, 3) := by decide +kernel
theorem dX7_restore_14 : decode cX7_restore 14 = .ok (.iconst 0, 1) := by decide +kernel
theorem dX7_restore_15 : decode cX7_restore 15 = .ok (.istore_n 1, 1) := by decide +kernel
theorem dX7_restore_16 : decode cX7_restore 16 = .ok (.iload_n 1, 1) := by decide +kernel
theorem dX7_restore_17 : decode cX7_restore 17 = .ok (.sipush 161, 3) := by decide +kernel
theorem dX7_restore_20 : decode cX7_restore 20 = .ok (.if_icmp .ge 21, 3) := by decide +kernel
theorem dX7_restore_23 : decode cX7_restore 23 = .ok (.aload_n 0, 1) := by decide +kernel
theorem dX7_restore_24 : decode cX7_restore 24 = .ok (.getfield 7, 3) := by decide +kernel
theorem dX7_restore_27 : decode cX7_restore 27 = .ok (.iload_n 1, 1) := by decide +kernel
theorem dX7_restore_28 : decode cX7_restore 28 = .ok (.aload_n 0, 1) := by decide +kernel
theorem dX7_restore_29 : decode cX7_restore 29 = .ok (.getfield 19, 3) := by decide +kernel
theorem dX7_restore_32 : decode cX7_restore 32 = .ok (.iload_n 1, 1) := by decide +kernel
theorem dX7_restore_33 : decode cX7_restore 33 = .ok (.iaload, 1) := by decide +kernel
theorem dX7_restore_34 : decode cX7_restore 34 = .ok (.iastore, 1) := by decide +kernel
theorem dX7_restore_35 : decode cX7_restore 35 = .ok (.iinc 1 1, 3) := by decide +kernel
theorem dX7_restore_38 : decode cX7_restore 38 = .ok (.goto (-22), 3) := by decide +kernel
theorem dX7_restore_41 : decode cX7_restore 41 = .ok (.aload_n 0, 1) := by decide +kernel
theorem dX7_restore_42 : decode cX7_restore 42 = .ok (.aload_n 0, 1) := by decide +kernel
theorem dX7_restore_43 : decode cX7_restore 43 = .ok (.getfield 7, 3) := by decide +kernel
theorem dX7_restore_46 : decode cX7_restore 46 = .ok (.iconst 0, 1) := by decide +kernel
theorem dX7_restore_47 : decode cX7_restore 47 = .ok (.iaload, 1) := by decide +kernel
theorem dX7_restore_48 : decode cX7_restore 48 = .ok (.invokevirtual 96, 3) := by decide +kernel
theorem dX7_restore_51 : decode cX7_restore 51 = .ok (.ireturn, 1) := by decide +kernel
theorem dX7_momentsNeeded_0 : decode cX7_momentsNeeded 0 = .ok (.iconst 0, 1) := by decide +kernel
theorem dX7_momentsNeeded_1 : decode cX7_momentsNeeded 1 = .ok (.istore_n 2, 1) := by decide +kernel
theorem dX7_momentsNeeded_2 : decode cX7_momentsNeeded 2 = .ok (.aload_n 0, 1) := by decide +kernel
theorem dX7_momentsNeeded_3 : decode cX7_momentsNeeded 3 = .ok (.getfield 7, 3) := by decide +kernel
theorem dX7_momentsNeeded_6 : decode cX7_momentsNeeded 6 = .ok (.bipush 81, 2) := by decide +kernel
theorem dX7_momentsNeeded_8 : decode cX7_momentsNeeded 8 = .ok (.iload_n 1, 1) := by decide +kernel
theorem dX7_momentsNeeded_9 : decode cX7_momentsNeeded 9 = .ok (.iadd, 1) := by decide +kernel
theorem dX7_momentsNeeded_10 : decode cX7_momentsNeeded 10 = .ok (.iaload, 1) := by decide +kernel
theorem dX7_momentsNeeded_11 : decode cX7_momentsNeeded 11 = .ok (.istore_n 3, 1) := by decide +kernel
theorem dX7_momentsNeeded_12 : decode cX7_momentsNeeded 12 = .ok (.iload_n 3, 1) := by decide +kernel
theorem dX7_momentsNeeded_13 : decode cX7_momentsNeeded 13 = .ok (.aload_n 0, 1) := by decide +kernel
theorem dX7_momentsNeeded_14 : decode cX7_momentsNeeded 14 = .ok (.getfield 7, 3) := by decide +kernel
theorem dX7_momentsNeeded_17 : decode cX7_momentsNeeded 17 = .ok (.bipush 121, 2) := by decide +kernel
theorem dX7_momentsNeeded_19 : decode cX7_momentsNeeded 19 = .ok (.iload_n 1, 1) := by decide +kernel
theorem dX7_momentsNeeded_20 : decode cX7_momentsNeeded 20 = .ok (.iadd, 1) := by decide +kernel
theorem dX7_momentsNeeded_21 : decode cX7_momentsNeeded 21 = .ok (.iaload, 1) := by decide +kernel
theorem dX7_momentsNeeded_22 : decode cX7_momentsNeeded 22 = .ok (.if_icmp .ge 30, 3) := by decide +kernel
theorem dX7_momentsNeeded_25 : decode cX7_momentsNeeded 25 = .ok (.iload_n 2, 1) := by decide +kernel
theorem dX7_momentsNeeded_26 : decode cX7_momentsNeeded 26 = .ok (.aload_n 0, 1) := by decide +kernel
theorem dX7_momentsNeeded_27 : decode cX7_momentsNeeded 27 = .ok (.aload_n 0, 1) := by decide +kernel
theorem dX7_momentsNeeded_28 : decode cX7_momentsNeeded 28 = .ok (.iload_n 3, 1) := by decide +kernel
theorem dX7_momentsNeeded_29 : decode cX7_momentsNeeded 29 = .ok (.invokevirtual 106, 3) := by decide +kernel
theorem dX7_momentsNeeded_32 : decode cX7_momentsNeeded 32 = .ok (.iload_n 1, 1) := by decide +kernel
theorem dX7_momentsNeeded_33 : decode cX7_momentsNeeded 33 = .ok (.invokevirtual 149, 3) := by decide +kernel
theorem dX7_momentsNeeded_36 : decode cX7_momentsNeeded 36 = .ok (.ifCond .eq 7, 3) := by decide +kernel
theorem dX7_momentsNeeded_39 : decode cX7_momentsNeeded 39 = .ok (.iconst 1, 1) := by decide +kernel
theorem dX7_momentsNeeded_40 : decode cX7_momentsNeeded 40 = .ok (.goto 4, 3) := by decide +kernel
theorem dX7_momentsNeeded_43 : decode cX7_momentsNeeded 43 = .ok (.iconst 0, 1) := by decide +kernel
theorem dX7_momentsNeeded_44 : decode cX7_momentsNeeded 44 = .ok (.iadd, 1) := by decide +kernel
theorem dX7_momentsNeeded_45 : decode cX7_momentsNeeded 45 = .ok (.istore_n 2, 1) := by decide +kernel
theorem dX7_momentsNeeded_46 : decode cX7_momentsNeeded 46 = .ok (.iinc 3 1, 3) := by decide +kernel
theorem dX7_momentsNeeded_49 : decode cX7_momentsNeeded 49 = .ok (.goto (-37), 3) := by decide +kernel
theorem dX7_momentsNeeded_52 : decode cX7_momentsNeeded 52 = .ok (.iload_n 2, 1) := by decide +kernel
theorem dX7_momentsNeeded_53 : decode cX7_momentsNeeded 53 = .ok (.ireturn, 1) := by decide +kernel
theorem dX7_link_0 : decode cX7_link 0 = .ok (.aload_n 0, 1) := by decide +kernel
theorem dX7_link_1 : decode cX7_link 1 = .ok (.iload_n 1, 1) := by decide +kernel
theorem dX7_link_2 : decode cX7_link 2 = .ok (.invokevirtual 99, 3) := by decide +kernel
theorem dX7_link_5 : decode cX7_link 5 = .ok (.ifCond .ne 5, 3) := by decide +kernel
theorem dX7_link_8 : decode cX7_link 8 = .ok (.iconst (-1), 1) := by decide +kernel
theorem dX7_link_9 : decode cX7_link 9 = .ok (.ireturn, 1) := by decide +kernel
theorem dX7_link_10 : decode cX7_link 10 = .ok (.iload_n 2, 1) := by decide +kernel
theorem dX7_link_11 : decode cX7_link 11 = .ok (.tableswitch 88 0 5 #[37, 46, 56, 66, 76, 82], 37) := by decide +kernel
theorem dX7_link_48 : decode cX7_link 48 = .ok (.aload_n 0, 1) := by decide +kernel
theorem dX7_link_49 : decode cX7_link 49 = .ok (.getfield 7, 3) := by decide +kernel
theorem dX7_link_52 : decode cX7_link 52 = .ok (.iconst 1, 1) := by decide +kernel
theorem dX7_link_53 : decode cX7_link 53 = .ok (.iload_n 1, 1) := by decide +kernel
theorem dX7_link_54 : decode cX7_link 54 = .ok (.iadd, 1) := by decide +kernel
theorem dX7_link_55 : decode cX7_link 55 = .ok (.iaload, 1) := by decide +kernel
theorem dX7_link_56 : decode cX7_link 56 = .ok (.ireturn, 1) := by decide +kernel
theorem dX7_link_57 : decode cX7_link 57 = .ok (.aload_n 0, 1) := by decide +kernel
theorem dX7_link_58 : decode cX7_link 58 = .ok (.getfield 7, 3) := by decide +kernel
theorem dX7_link_61 : decode cX7_link 61 = .ok (.bipush 41, 2) := by decide +kernel
theorem dX7_link_63 : decode cX7_link 63 = .ok (.iload_n 1, 1) := by decide +kernel
theorem dX7_link_64 : decode cX7_link 64 = .ok (.iadd, 1) := by decide +kernel
theorem dX7_link_65 : decode cX7_link 65 = .ok (.iaload, 1) := by decide +kernel
theorem dX7_link_66 : decode cX7_link 66 = .ok (.ireturn, 1) := by decide +kernel
theorem dX7_link_67 : decode cX7_link 67 = .ok (.aload_n 0, 1) := by decide +kernel
theorem dX7_link_68 : decode cX7_link 68 = .ok (.getfield 7, 3) := by decide +kernel
theorem dX7_link_71 : decode cX7_link 71 = .ok (.bipush 81, 2) := by decide +kernel
theorem dX7_link_73 : decode cX7_link 73 = .ok (.iload_n 1, 1) := by decide +kernel
theorem dX7_link_74 : decode cX7_link 74 = .ok (.iadd, 1) := by decide +kernel
theorem dX7_link_75 : decode cX7_link 75 = .ok (.iaload, 1) := by decide +kernel
theorem dX7_link_76 : decode cX7_link 76 = .ok (.ireturn, 1) := by decide +kernel
theorem dX7_link_77 : decode cX7_link 77 = .ok (.aload_n 0, 1) := by decide +kernel
theorem dX7_link_78 : decode cX7_link 78 = .ok (.getfield 7, 3) := by decide +kernel
theorem dX7_link_81 : decode cX7_link 81 = .ok (.bipush 121, 2) := by decide +kernel
theorem dX7_link_83 : decode cX7_link 83 = .ok (.iload_n 1, 1) := by decide +kernel
theorem dX7_link_84 : decode cX7_link 84 = .ok (.iadd, 1) := by decide +kernel
theorem dX7_link_85 : decode cX7_link 85 = .ok (.iaload, 1) := by decide +kernel
theorem dX7_link_86 : decode cX7_link 86 = .ok (.ireturn, 1) := by decide +kernel
theorem dX7_link_87 : decode cX7_link 87 = .ok (.aload_n 0, 1) := by decide +kernel
theorem dX7_link_88 : decode cX7_link 88 = .ok (.iload_n 1, 1) := by decide +kernel
theorem dX7_link_89 : decode cX7_link 89 = .ok (.invokevirtual 153, 3) := by decide +kernel
theorem dX7_link_92 : decode cX7_link 92 = .ok (.ireturn, 1) := by decide +kernel
theorem dX7_link_93 : decode cX7_link 93 = .ok (.aload_n 0, 1) := by decide +kernel
theorem dX7_link_94 : decode cX7_link 94 = .ok (.iload_n 1, 1) := by decide +kernel
theorem dX7_link_95 : decode cX7_link 95 = .ok (.invokevirtual 156, 3) := by decide +kernel
theorem dX7_link_98 : decode cX7_link 98 = .ok (.ireturn, 1) := by decide +kernel
theorem dX7_link_99 : decode cX7_link 99 = .ok (.bipush (-2), 2) := by decide +kernel
theorem dX7_link_101 : decode cX7_link 101 = .ok (.ireturn, 1) := by decide +kernel
theorem dX7_joined_0 : decode cX7_joined 0 = .ok (.iload_n 1, 1) := by decide +kernel
theorem dX7_joined_1 : decode cX7_joined 1 = .ok (.invokestatic 40, 3) := by decide +kernel
theorem dX7_joined_4 : decode cX7_joined 4 = .ok (.ifCond .eq 17, 3) := by decide +kernel
theorem dX7_joined_7 : decode cX7_joined 7 = .ok (.iload_n 2, 1) := by decide +kernel
theorem dX7_joined_8 : decode cX7_joined 8 = .ok (.invokestatic 83, 3) := by decide +kernel
theorem dX7_joined_11 : decode cX7_joined 11 = .ok (.ifCond .eq 10, 3) := by decide +kernel
theorem dX7_joined_14 : decode cX7_joined 14 = .ok (.iload_n 3, 1) := by decide +kernel
theorem dX7_joined_15 : decode cX7_joined 15 = .ok (.invokestatic 83, 3) := by decide +kernel
theorem dX7_joined_18 : decode cX7_joined 18 = .ok (.ifCond .ne 5, 3) := by decide +kernel
theorem dX7_joined_21 : decode cX7_joined 21 = .ok (.iconst (-1), 1) := by decide +kernel
theorem dX7_joined_22 : decode cX7_joined 22 = .ok (.ireturn, 1) := by decide +kernel
theorem dX7_joined_23 : decode cX7_joined 23 = .ok (.aload_n 0, 1) := by decide +kernel
theorem dX7_joined_24 : decode cX7_joined 24 = .ok (.aload_n 0, 1) := by decide +kernel
theorem dX7_joined_25 : decode cX7_joined 25 = .ok (.iload_n 1, 1) := by decide +kernel
theorem dX7_joined_26 : decode cX7_joined 26 = .ok (.invokevirtual 106, 3) := by decide +kernel
theorem dX7_joined_29 : decode cX7_joined 29 = .ok (.iload_n 2, 1) := by decide +kernel
theorem dX7_joined_30 : decode cX7_joined 30 = .ok (.iload_n 3, 1) := by decide +kernel
theorem dX7_joined_31 : decode cX7_joined 31 = .ok (.invokevirtual 60, 3) := by decide +kernel
theorem dX7_joined_34 : decode cX7_joined 34 = .ok (.ifCond .eq 7, 3) := by decide +kernel
theorem dX7_joined_37 : decode cX7_joined 37 = .ok (.iconst 1, 1) := by decide +kernel
theorem dX7_joined_38 : decode cX7_joined 38 = .ok (.goto 4, 3) := by decide +kernel
theorem dX7_joined_41 : decode cX7_joined 41 = .ok (.iconst 0, 1) := by decide +kernel
theorem dX7_joined_42 : decode cX7_joined 42 = .ok (.ireturn, 1) := by decide +kernel
theorem dX7_greatestPart_0 : decode cX7_greatestPart 0 = .ok (.iconst 0, 1) := by decide +kernel
theorem dX7_greatestPart_1 : decode cX7_greatestPart 1 = .ok (.istore_n 3, 1) := by decide +kernel
theorem dX7_greatestPart_2 : decode cX7_greatestPart 2 = .ok (.iconst 0, 1) := by decide +kernel
theorem dX7_greatestPart_3 : decode cX7_greatestPart 3 = .ok (.istore 4, 2) := by decide +kernel
theorem dX7_greatestPart_5 : decode cX7_greatestPart 5 = .ok (.iload 4, 2) := by decide +kernel
theorem dX7_greatestPart_7 : decode cX7_greatestPart 7 = .ok (.bipush 16, 2) := by decide +kernel
theorem dX7_greatestPart_9 : decode cX7_greatestPart 9 = .ok (.if_icmp .ge 35, 3) := by decide +kernel
theorem dX7_greatestPart_12 : decode cX7_greatestPart 12 = .ok (.aload_n 0, 1) := by decide +kernel
theorem dX7_greatestPart_13 : decode cX7_greatestPart 13 = .ok (.lload_n 1, 1) := by decide +kernel
theorem dX7_greatestPart_14 : decode cX7_greatestPart 14 = .ok (.iload 4, 2) := by decide +kernel
theorem dX7_greatestPart_16 : decode cX7_greatestPart 16 = .ok (.invokevirtual 54, 3) := by decide +kernel
theorem dX7_greatestPart_19 : decode cX7_greatestPart 19 = .ok (.i2l, 1) := by decide +kernel
theorem dX7_greatestPart_20 : decode cX7_greatestPart 20 = .ok (.invokestatic 110, 3) := by decide +kernel
theorem dX7_greatestPart_23 : decode cX7_greatestPart 23 = .ok (.istore 5, 2) := by decide +kernel
theorem dX7_greatestPart_25 : decode cX7_greatestPart 25 = .ok (.iload 5, 2) := by decide +kernel
theorem dX7_greatestPart_27 : decode cX7_greatestPart 27 = .ok (.iload_n 3, 1) := by decide +kernel
theorem dX7_greatestPart_28 : decode cX7_greatestPart 28 = .ok (.if_icmp .le 8, 3) := by decide +kernel
theorem dX7_greatestPart_31 : decode cX7_greatestPart 31 = .ok (.iload 5, 2) := by decide +kernel
theorem dX7_greatestPart_33 : decode cX7_greatestPart 33 = .ok (.goto 4, 3) := by decide +kernel
theorem dX7_greatestPart_36 : decode cX7_greatestPart 36 = .ok (.iload_n 3, 1) := by decide +kernel
theorem dX7_greatestPart_37 : decode cX7_greatestPart 37 = .ok (.istore_n 3, 1) := by decide +kernel
theorem dX7_greatestPart_38 : decode cX7_greatestPart 38 = .ok (.iinc 4 1, 3) := by decide +kernel
theorem dX7_greatestPart_41 : decode cX7_greatestPart 41 = .ok (.goto (-36), 3) := by decide +kernel
theorem dX7_greatestPart_44 : decode cX7_greatestPart 44 = .ok (.iload_n 3, 1) := by decide +kernel
theorem dX7_greatestPart_45 : decode cX7_greatestPart 45 = .ok (.ireturn, 1) := by decide +kernel
theorem dX7_neededAt_0 : decode cX7_neededAt 0 = .ok (.iconst 0, 1) := by decide +kernel
theorem dX7_neededAt_1 : decode cX7_neededAt 1 = .ok (.istore_n 3, 1) := by decide +kernel
theorem dX7_neededAt_2 : decode cX7_neededAt 2 = .ok (.iconst 0, 1) := by decide +kernel
theorem dX7_neededAt_3 : decode cX7_neededAt 3 = .ok (.istore 4, 2) := by decide +kernel
theorem dX7_neededAt_5 : decode cX7_neededAt 5 = .ok (.iload 4, 2) := by decide +kernel
theorem dX7_neededAt_7 : decode cX7_neededAt 7 = .ok (.aload_n 0, 1) := by decide +kernel
theorem dX7_neededAt_8 : decode cX7_neededAt 8 = .ok (.getfield 7, 3) := by decide +kernel
theorem dX7_neededAt_11 : decode cX7_neededAt 11 = .ok (.iconst 0, 1) := by decide +kernel
theorem dX7_neededAt_12 : decode cX7_neededAt 12 = .ok (.iaload, 1) := by decide +kernel
theorem dX7_neededAt_13 : decode cX7_neededAt 13 = .ok (.if_icmp .ge 38, 3) := by decide +kernel
theorem dX7_neededAt_16 : decode cX7_neededAt 16 = .ok (.iload_n 3, 1) := by decide +kernel
theorem dX7_neededAt_17 : decode cX7_neededAt 17 = .ok (.lload_n 1, 1) := by decide +kernel
theorem dX7_neededAt_18 : decode cX7_neededAt 18 = .ok (.iload 4, 2) := by decide +kernel
theorem dX7_neededAt_20 : decode cX7_neededAt 20 = .ok (.lshr, 1) := by decide +kernel
theorem dX7_neededAt_21 : decode cX7_neededAt 21 = .ok (.lconst 1, 1) := by decide +kernel
theorem dX7_neededAt_22 : decode cX7_neededAt 22 = .ok (.land, 1) := by decide +kernel
theorem dX7_neededAt_23 : decode cX7_neededAt 23 = .ok (.lconst 1, 1) := by decide +kernel
theorem dX7_neededAt_24 : decode cX7_neededAt 24 = .ok (.lcmp, 1) := by decide +kernel
theorem dX7_neededAt_25 : decode cX7_neededAt 25 = .ok (.ifCond .ne 17, 3) := by decide +kernel
theorem dX7_neededAt_28 : decode cX7_neededAt 28 = .ok (.aload_n 0, 1) := by decide +kernel
theorem dX7_neededAt_29 : decode cX7_neededAt 29 = .ok (.lload_n 1, 1) := by decide +kernel
theorem dX7_neededAt_30 : decode cX7_neededAt 30 = .ok (.iload 4, 2) := by decide +kernel
theorem dX7_neededAt_32 : decode cX7_neededAt 32 = .ok (.invokevirtual 149, 3) := by decide +kernel
theorem dX7_neededAt_35 : decode cX7_neededAt 35 = .ok (.ifCond .eq 7, 3) := by decide +kernel
theorem dX7_neededAt_38 : decode cX7_neededAt 38 = .ok (.iconst 1, 1) := by decide +kernel
theorem dX7_neededAt_39 : decode cX7_neededAt 39 = .ok (.goto 4, 3) := by decide +kernel
theorem dX7_neededAt_42 : decode cX7_neededAt 42 = .ok (.iconst 0, 1) := by decide +kernel
theorem dX7_neededAt_43 : decode cX7_neededAt 43 = .ok (.iadd, 1) := by decide +kernel
theorem dX7_neededAt_44 : decode cX7_neededAt 44 = .ok (.istore_n 3, 1) := by decide +kernel
theorem dX7_neededAt_45 : decode cX7_neededAt 45 = .ok (.iinc 4 1, 3) := by decide +kernel
theorem dX7_neededAt_48 : decode cX7_neededAt 48 = .ok (.goto (-43), 3) := by decide +kernel
theorem dX7_neededAt_51 : decode cX7_neededAt 51 = .ok (.iload_n 3, 1) := by decide +kernel
theorem dX7_neededAt_52 : decode cX7_neededAt 52 = .ok (.ireturn, 1) := by decide +kernel
theorem dX7_alone_0 : decode cX7_alone 0 = .ok (.iconst 0, 1) := by decide +kernel
theorem dX7_alone_1 : decode cX7_alone 1 = .ok (.istore_n 3, 1) := by decide +kernel
theorem dX7_alone_2 : decode cX7_alone 2 = .ok (.iconst 0, 1) := by decide +kernel
theorem dX7_alone_3 : decode cX7_alone 3 = .ok (.istore 4, 2) := by decide +kernel
theorem dX7_alone_5 : decode cX7_alone 5 = .ok (.iload 4, 2) := by decide +kernel
theorem dX7_alone_7 : decode cX7_alone 7 = .ok (.bipush 16, 2) := by decide +kernel
theorem dX7_alone_9 : decode cX7_alone 9 = .ok (.if_icmp .ge 31, 3) := by decide +kernel
theorem dX7_alone_12 : decode cX7_alone 12 = .ok (.iload_n 3, 1) := by decide +kernel
theorem dX7_alone_13 : decode cX7_alone 13 = .ok (.aload_n 0, 1) := by decide +kernel
theorem dX7_alone_14 : decode cX7_alone 14 = .ok (.lload_n 1, 1) := by decide +kernel
theorem dX7_alone_15 : decode cX7_alone 15 = .ok (.iload 4, 2) := by decide +kernel
theorem dX7_alone_17 : decode cX7_alone 17 = .ok (.invokevirtual 54, 3) := by decide +kernel
theorem dX7_alone_20 : decode cX7_alone 20 = .ok (.iconst 1, 1) := by decide +kernel
theorem dX7_alone_21 : decode cX7_alone 21 = .ok (.iload 4, 2) := by decide +kernel
theorem dX7_alone_23 : decode cX7_alone 23 = .ok (.ishl, 1) := by decide +kernel
theorem dX7_alone_24 : decode cX7_alone 24 = .ok (.if_icmp .ne 7, 3) := by decide +kernel
theorem dX7_alone_27 : decode cX7_alone 27 = .ok (.iconst 1, 1) := by decide +kernel
theorem dX7_alone_28 : decode cX7_alone 28 = .ok (.goto 4, 3) := by decide +kernel
theorem dX7_alone_31 : decode cX7_alone 31 = .ok (.iconst 0, 1) := by decide +kernel
theorem dX7_alone_32 : decode cX7_alone 32 = .ok (.iadd, 1) := by decide +kernel
theorem dX7_alone_33 : decode cX7_alone 33 = .ok (.istore_n 3, 1) := by decide +kernel
theorem dX7_alone_34 : decode cX7_alone 34 = .ok (.iinc 4 1, 3) := by decide +kernel
theorem dX7_alone_37 : decode cX7_alone 37 = .ok (.goto (-32), 3) := by decide +kernel
theorem dX7_alone_40 : decode cX7_alone 40 = .ok (.iload_n 3, 1) := by decide +kernel
theorem dX7_alone_41 : decode cX7_alone 41 = .ok (.ireturn, 1) := by decide +kernel
theorem dX7_moment_0 : decode cX7_moment 0 = .ok (.iload_n 1, 1) := by decide +kernel
theorem dX7_moment_1 : decode cX7_moment 1 = .ok (.invokestatic 40, 3) := by decide +kernel
theorem dX7_moment_4 : decode cX7_moment 4 = .ok (.ifCond .ne 5, 3) := by decide +kernel
theorem dX7_moment_7 : decode cX7_moment 7 = .ok (.iconst (-1), 1) := by decide +kernel
theorem dX7_moment_8 : decode cX7_moment 8 = .ok (.ireturn, 1) := by decide +kernel
theorem dX7_moment_9 : decode cX7_moment 9 = .ok (.aload_n 0, 1) := by decide +kernel
theorem dX7_moment_10 : decode cX7_moment 10 = .ok (.iload_n 1, 1) := by decide +kernel
theorem dX7_moment_11 : decode cX7_moment 11 = .ok (.invokevirtual 106, 3) := by decide +kernel
theorem dX7_moment_14 : decode cX7_moment 14 = .ok (.lstore_n 3, 1) := by decide +kernel
theorem dX7_moment_15 : decode cX7_moment 15 = .ok (.iload_n 2, 1) := by decide +kernel
theorem dX7_moment_16 : decode cX7_moment 16 = .ok (.tableswitch 83 0 5 #[40, 45, 51, 65, 71, 77], 40) := by decide +kernel
theorem dX7_moment_56 : decode cX7_moment 56 = .ok (.lload_n 3, 1) := by decide +kernel
theorem dX7_moment_57 : decode cX7_moment 57 = .ok (.invokestatic 110, 3) := by decide +kernel
theorem dX7_moment_60 : decode cX7_moment 60 = .ok (.ireturn, 1) := by decide +kernel
theorem dX7_moment_61 : decode cX7_moment 61 = .ok (.aload_n 0, 1) := by decide +kernel
theorem dX7_moment_62 : decode cX7_moment 62 = .ok (.lload_n 3, 1) := by decide +kernel
theorem dX7_moment_63 : decode cX7_moment 63 = .ok (.invokevirtual 79, 3) := by decide +kernel
theorem dX7_moment_66 : decode cX7_moment 66 = .ok (.ireturn, 1) := by decide +kernel
theorem dX7_moment_67 : decode cX7_moment 67 = .ok (.aload_n 0, 1) := by decide +kernel
theorem dX7_moment_68 : decode cX7_moment 68 = .ok (.lload_n 3, 1) := by decide +kernel
theorem dX7_moment_69 : decode cX7_moment 69 = .ok (.invokevirtual 159, 3) := by decide +kernel
theorem dX7_moment_72 : decode cX7_moment 72 = .ok (.ifCond .eq 7, 3) := by decide +kernel
theorem dX7_moment_75 : decode cX7_moment 75 = .ok (.iconst 1, 1) := by decide +kernel
theorem dX7_moment_76 : decode cX7_moment 76 = .ok (.goto 4, 3) := by decide +kernel
theorem dX7_moment_79 : decode cX7_moment 79 = .ok (.iconst 0, 1) := by decide +kernel
theorem dX7_moment_80 : decode cX7_moment 80 = .ok (.ireturn, 1) := by decide +kernel
theorem dX7_moment_81 : decode cX7_moment 81 = .ok (.aload_n 0, 1) := by decide +kernel
theorem dX7_moment_82 : decode cX7_moment 82 = .ok (.lload_n 3, 1) := by decide +kernel
theorem dX7_moment_83 : decode cX7_moment 83 = .ok (.invokevirtual 163, 3) := by decide +kernel
theorem dX7_moment_86 : decode cX7_moment 86 = .ok (.ireturn, 1) := by decide +kernel
theorem dX7_moment_87 : decode cX7_moment 87 = .ok (.aload_n 0, 1) := by decide +kernel
theorem dX7_moment_88 : decode cX7_moment 88 = .ok (.lload_n 3, 1) := by decide +kernel
theorem dX7_moment_89 : decode cX7_moment 89 = .ok (.invokevirtual 166, 3) := by decide +kernel
theorem dX7_moment_92 : decode cX7_moment 92 = .ok (.ireturn, 1) := by decide +kernel
theorem dX7_moment_93 : decode cX7_moment 93 = .ok (.aload_n 0, 1) := by decide +kernel
theorem dX7_moment_94 : decode cX7_moment 94 = .ok (.lload_n 3, 1) := by decide +kernel
theorem dX7_moment_95 : decode cX7_moment 95 = .ok (.invokevirtual 169, 3) := by decide +kernel
theorem dX7_moment_98 : decode cX7_moment 98 = .ok (.ireturn, 1) := by decide +kernel
theorem dX7_moment_99 : decode cX7_moment 99 = .ok (.bipush (-2), 2) := by decide +kernel
theorem dX7_moment_101 : decode cX7_moment 101 = .ok (.ireturn, 1) := by decide +kernel
theorem dX7_part_0 : decode cX7_part 0 = .ok (.iload_n 1, 1) := by decide +kernel
theorem dX7_part_1 : decode cX7_part 1 = .ok (.invokestatic 40, 3) := by decide +kernel
theorem dX7_part_4 : decode cX7_part 4 = .ok (.ifCond .eq 10, 3) := by decide +kernel
theorem dX7_part_7 : decode cX7_part 7 = .ok (.iload_n 2, 1) := by decide +kernel
theorem dX7_part_8 : decode cX7_part 8 = .ok (.invokestatic 83, 3) := by decide +kernel
theorem dX7_part_11 : decode cX7_part 11 = .ok (.ifCond .ne 5, 3) := by decide +kernel
theorem dX7_part_14 : decode cX7_part 14 = .ok (.iconst (-1), 1) := by decide +kernel
theorem dX7_part_15 : decode cX7_part 15 = .ok (.ireturn, 1) := by decide +kernel
theorem dX7_part_16 : decode cX7_part 16 = .ok (.aload_n 0, 1) := by decide +kernel
theorem dX7_part_17 : decode cX7_part 17 = .ok (.aload_n 0, 1) := by decide +kernel
theorem dX7_part_18 : decode cX7_part 18 = .ok (.iload_n 1, 1) := by decide +kernel
theorem dX7_part_19 : decode cX7_part 19 = .ok (.invokevirtual 106, 3) := by decide +kernel
theorem dX7_part_22 : decode cX7_part 22 = .ok (.iload_n 2, 1) := by decide +kernel
theorem dX7_part_23 : decode cX7_part 23 = .ok (.invokevirtual 54, 3) := by decide +kernel
theorem dX7_part_26 : decode cX7_part 26 = .ok (.istore 4, 2) := by decide +kernel
theorem dX7_part_28 : decode cX7_part 28 = .ok (.iload_n 3, 1) := by decide +kernel
theorem dX7_part_29 : decode cX7_part 29 = .ok (.ifCond .ne 18, 3) := by decide +kernel
theorem dX7_part_32 : decode cX7_part 32 = .ok (.iload 4, 2) := by decide +kernel
theorem dX7_part_34 : decode cX7_part 34 = .ok (.iload 4, 2) := by decide +kernel
theorem dX7_part_36 : decode cX7_part 36 = .ok (.ineg, 1) := by decide +kernel
theorem dX7_part_37 : decode cX7_part 37 = .ok (.iand, 1) := by decide +kernel
theorem dX7_part_38 : decode cX7_part 38 = .ok (.iconst 1, 1) := by decide +kernel
theorem dX7_part_39 : decode cX7_part 39 = .ok (.isub, 1) := by decide +kernel
theorem dX7_part_40 : decode cX7_part 40 = .ok (.i2l, 1) := by decide +kernel
theorem dX7_part_41 : decode cX7_part 41 = .ok (.invokestatic 110, 3) := by decide +kernel
theorem dX7_part_44 : decode cX7_part 44 = .ok (.goto 29, 3) := by decide +kernel
theorem dX7_part_47 : decode cX7_part 47 = .ok (.iload_n 3, 1) := by decide +kernel
theorem dX7_part_48 : decode cX7_part 48 = .ok (.iconst 1, 1) := by decide +kernel
theorem dX7_part_49 : decode cX7_part 49 = .ok (.if_icmp .ne 12, 3) := by decide +kernel
theorem dX7_part_52 : decode cX7_part 52 = .ok (.iload 4, 2) := by decide +kernel
theorem dX7_part_54 : decode cX7_part 54 = .ok (.i2l, 1) := by decide +kernel
theorem dX7_part_55 : decode cX7_part 55 = .ok (.invokestatic 110, 3) := by decide +kernel
theorem dX7_part_58 : decode cX7_part 58 = .ok (.goto 15, 3) := by decide +kernel
theorem dX7_part_61 : decode cX7_part 61 = .ok (.iload_n 3, 1) := by decide +kernel
theorem dX7_part_62 : decode cX7_part 62 = .ok (.iconst 2, 1) := by decide +kernel
theorem dX7_part_63 : decode cX7_part 63 = .ok (.if_icmp .ne 8, 3) := by decide +kernel
theorem dX7_part_66 : decode cX7_part 66 = .ok (.iload 4, 2) := by decide +kernel
theorem dX7_part_68 : decode cX7_part 68 = .ok (.goto 5, 3) := by decide +kernel
theorem dX7_part_71 : decode cX7_part 71 = .ok (.bipush (-2), 2) := by decide +kernel
theorem dX7_part_73 : decode cX7_part 73 = .ok (.ireturn, 1) := by decide +kernel
theorem dX7_needed_0 : decode cX7_needed 0 = .ok (.aload_n 0, 1) := by decide +kernel
theorem dX7_needed_1 : decode cX7_needed 1 = .ok (.iload_n 1, 1) := by decide +kernel
theorem dX7_needed_2 : decode cX7_needed 2 = .ok (.invokevirtual 99, 3) := by decide +kernel
theorem dX7_needed_5 : decode cX7_needed 5 = .ok (.ifCond .eq 10, 3) := by decide +kernel
theorem dX7_needed_8 : decode cX7_needed 8 = .ok (.iload_n 2, 1) := by decide +kernel
theorem dX7_needed_9 : decode cX7_needed 9 = .ok (.invokestatic 40, 3) := by decide +kernel
theorem dX7_needed_12 : decode cX7_needed 12 = .ok (.ifCond .ne 5, 3) := by decide +kernel
theorem dX7_needed_15 : decode cX7_needed 15 = .ok (.iconst (-1), 1) := by decide +kernel
theorem dX7_needed_16 : decode cX7_needed 16 = .ok (.ireturn, 1) := by decide +kernel
theorem dX7_needed_17 : decode cX7_needed 17 = .ok (.aload_n 0, 1) := by decide +kernel
theorem dX7_needed_18 : decode cX7_needed 18 = .ok (.iload_n 1, 1) := by decide +kernel
theorem dX7_needed_19 : decode cX7_needed 19 = .ok (.iload_n 2, 1) := by decide +kernel
theorem dX7_needed_20 : decode cX7_needed 20 = .ok (.invokevirtual 50, 3) := by decide +kernel
theorem dX7_needed_23 : decode cX7_needed 23 = .ok (.ifCond .ne 6, 3) := by decide +kernel
theorem dX7_needed_26 : decode cX7_needed 26 = .ok (.bipush (-5), 2) := by decide +kernel
theorem dX7_needed_28 : decode cX7_needed 28 = .ok (.ireturn, 1) := by decide +kernel
theorem dX7_needed_29 : decode cX7_needed 29 = .ok (.aload_n 0, 1) := by decide +kernel
theorem dX7_needed_30 : decode cX7_needed 30 = .ok (.aload_n 0, 1) := by decide +kernel
theorem dX7_needed_31 : decode cX7_needed 31 = .ok (.iload_n 2, 1) := by decide +kernel
theorem dX7_needed_32 : decode cX7_needed 32 = .ok (.invokevirtual 106, 3) := by decide +kernel
theorem dX7_needed_35 : decode cX7_needed 35 = .ok (.iload_n 1, 1) := by decide +kernel
theorem dX7_needed_36 : decode cX7_needed 36 = .ok (.invokevirtual 149, 3) := by decide +kernel
theorem dX7_needed_39 : decode cX7_needed 39 = .ok (.ifCond .eq 7, 3) := by decide +kernel
theorem dX7_needed_42 : decode cX7_needed 42 = .ok (.iconst 1, 1) := by decide +kernel
theorem dX7_needed_43 : decode cX7_needed 43 = .ok (.goto 4, 3) := by decide +kernel
theorem dX7_needed_46 : decode cX7_needed 46 = .ok (.iconst 0, 1) := by decide +kernel
theorem dX7_needed_47 : decode cX7_needed 47 = .ok (.ireturn, 1) := by decide +kernel
theorem dX7_together_0 : decode cX7_together 0 = .ok (.iload_n 1, 1) := by decide +kernel
theorem dX7_together_1 : decode cX7_together 1 = .ok (.invokestatic 83, 3) := by decide +kernel
theorem dX7_together_4 : decode cX7_together 4 = .ok (.ifCond .eq 10, 3) := by decide +kernel
theorem dX7_together_7 : decode cX7_together 7 = .ok (.iload_n 2, 1) := by decide +kernel
theorem dX7_together_8 : decode cX7_together 8 = .ok (.invokestatic 83, 3) := by decide +kernel
theorem dX7_together_11 : decode cX7_together 11 = .ok (.ifCond .ne 5, 3) := by decide +kernel
theorem dX7_together_14 : decode cX7_together 14 = .ok (.iconst (-1), 1) := by decide +kernel
theorem dX7_together_15 : decode cX7_together 15 = .ok (.ireturn, 1) := by decide +kernel
theorem dX7_together_16 : decode cX7_together 16 = .ok (.iconst 0, 1) := by decide +kernel
theorem dX7_together_17 : decode cX7_together 17 = .ok (.istore 4, 2) := by decide +kernel
theorem dX7_together_19 : decode cX7_together 19 = .ok (.bipush (-5), 2) := by decide +kernel
theorem dX7_together_21 : decode cX7_together 21 = .ok (.istore 5, 2) := by decide +kernel
theorem dX7_together_23 : decode cX7_together 23 = .ok (.bipush (-5), 2) := by decide +kernel
theorem dX7_together_25 : decode cX7_together 25 = .ok (.istore 6, 2) := by decide +kernel
theorem dX7_together_27 : decode cX7_together 27 = .ok (.iconst 0, 1) := by decide +kernel
theorem dX7_together_28 : decode cX7_together 28 = .ok (.istore 7, 2) := by decide +kernel
theorem dX7_together_30 : decode cX7_together 30 = .ok (.iconst 0, 1) := by decide +kernel
theorem dX7_together_31 : decode cX7_together 31 = .ok (.istore 8, 2) := by decide +kernel
theorem dX7_together_33 : decode cX7_together 33 = .ok (.bipush (-5), 2) := by decide +kernel
theorem dX7_together_35 : decode cX7_together 35 = .ok (.istore 9, 2) := by decide +kernel
theorem dX7_together_37 : decode cX7_together 37 = .ok (.iconst 0, 1) := by decide +kernel
theorem dX7_together_38 : decode cX7_together 38 = .ok (.istore 10, 2) := by decide +kernel
theorem dX7_together_40 : decode cX7_together 40 = .ok (.iload 10, 2) := by decide +kernel
theorem dX7_together_42 : decode cX7_together 42 = .ok (.bipush 64, 2) := by decide +kernel
theorem dX7_together_44 : decode cX7_together 44 = .ok (.if_icmp .ge 125, 3) := by decide +kernel
theorem dX7_together_47 : decode cX7_together 47 = .ok (.aload_n 0, 1) := by decide +kernel
theorem dX7_together_48 : decode cX7_together 48 = .ok (.aload_n 0, 1) := by decide +kernel
theorem dX7_together_49 : decode cX7_together 49 = .ok (.iload 10, 2) := by decide +kernel
theorem dX7_together_51 : decode cX7_together 51 = .ok (.invokevirtual 106, 3) := by decide +kernel
theorem dX7_together_54 : decode cX7_together 54 = .ok (.iload_n 1, 1) := by decide +kernel
theorem dX7_together_55 : decode cX7_together 55 = .ok (.iload_n 2, 1) := by decide +kernel
theorem dX7_together_56 : decode cX7_together 56 = .ok (.invokevirtual 60, 3) := by decide +kernel
theorem dX7_together_59 : decode cX7_together 59 = .ok (.istore 11, 2) := by decide +kernel
theorem dX7_together_61 : decode cX7_together 61 = .ok (.iload 11, 2) := by decide +kernel
theorem dX7_together_63 : decode cX7_together 63 = .ok (.ifCond .eq 10, 3) := by decide +kernel
theorem dX7_together_66 : decode cX7_together 66 = .ok (.iload 7, 2) := by decide +kernel
theorem dX7_together_68 : decode cX7_together 68 = .ok (.iconst 1, 1) := by decide +kernel
theorem dX7_together_69 : decode cX7_together 69 = .ok (.iadd, 1) := by decide +kernel
theorem dX7_together_70 : decode cX7_together 70 = .ok (.goto 4, 3) := by decide +kernel
theorem dX7_together_73 : decode cX7_together 73 = .ok (.iconst 0, 1) := by decide +kernel
theorem dX7_together_74 : decode cX7_together 74 = .ok (.istore 7, 2) := by decide +kernel
theorem dX7_together_76 : decode cX7_together 76 = .ok (.iload 4, 2) := by decide +kernel
theorem dX7_together_78 : decode cX7_together 78 = .ok (.iload 11, 2) := by decide +kernel
theorem dX7_together_80 : decode cX7_together 80 = .ok (.ifCond .eq 7, 3) := by decide +kernel
theorem dX7_together_83 : decode cX7_together 83 = .ok (.iconst 1, 1) := by decide +kernel
theorem dX7_together_84 : decode cX7_together 84 = .ok (.goto 4, 3) := by decide +kernel
theorem dX7_together_87 : decode cX7_together 87 = .ok (.iconst 0, 1) := by decide +kernel
theorem dX7_together_88 : decode cX7_together 88 = .ok (.iadd, 1) := by decide +kernel
theorem dX7_together_89 : decode cX7_together 89 = .ok (.istore 4, 2) := by decide +kernel
theorem dX7_together_91 : decode cX7_together 91 = .ok (.iload 11, 2) := by decide +kernel
theorem dX7_together_93 : decode cX7_together 93 = .ok (.ifCond .eq 15, 3) := by decide +kernel
theorem dX7_together_96 : decode cX7_together 96 = .ok (.iload 5, 2) := by decide +kernel
theorem dX7_together_98 : decode cX7_together 98 = .ok (.bipush (-5), 2) := by decide +kernel
theorem dX7_together_100 : decode cX7_together 100 = .ok (.if_icmp .ne 8, 3) := by decide +kernel
theorem dX7_together_103 : decode cX7_together 103 = .ok (.iload 10, 2) := by decide +kernel
theorem dX7_together_105 : decode cX7_together 105 = .ok (.goto 5, 3) := by decide +kernel
theorem dX7_together_108 : decode cX7_together 108 = .ok (.iload 5, 2) := by decide +kernel
theorem dX7_together_110 : decode cX7_together 110 = .ok (.istore 5, 2) := by decide +kernel
theorem dX7_together_112 : decode cX7_together 112 = .ok (.iload 11, 2) := by decide +kernel
theorem dX7_together_114 : decode cX7_together 114 = .ok (.ifCond .eq 8, 3) := by decide +kernel
theorem dX7_together_117 : decode cX7_together 117 = .ok (.iload 10, 2) := by decide +kernel
theorem dX7_together_119 : decode cX7_together 119 = .ok (.goto 5, 3) := by decide +kernel
theorem dX7_together_122 : decode cX7_together 122 = .ok (.iload 6, 2) := by decide +kernel
theorem dX7_together_124 : decode cX7_together 124 = .ok (.istore 6, 2) := by decide +kernel
theorem dX7_together_126 : decode cX7_together 126 = .ok (.iload 7, 2) := by decide +kernel
theorem dX7_together_128 : decode cX7_together 128 = .ok (.iload 8, 2) := by decide +kernel
theorem dX7_together_130 : decode cX7_together 130 = .ok (.if_icmp .le 13, 3) := by decide +kernel
theorem dX7_together_133 : decode cX7_together 133 = .ok (.iload 10, 2) := by decide +kernel
theorem dX7_together_135 : decode cX7_together 135 = .ok (.iload 7, 2) := by decide +kernel
theorem dX7_together_137 : decode cX7_together 137 = .ok (.isub, 1) := by decide +kernel
theorem dX7_together_138 : decode cX7_together 138 = .ok (.iconst 1, 1) := by decide +kernel
theorem dX7_together_139 : decode cX7_together 139 = .ok (.iadd, 1) := by decide +kernel
theorem dX7_together_140 : decode cX7_together 140 = .ok (.goto 5, 3) := by decide +kernel
theorem dX7_together_143 : decode cX7_together 143 = .ok (.iload 9, 2) := by decide +kernel
theorem dX7_together_145 : decode cX7_together 145 = .ok (.istore 9, 2) := by decide +kernel
theorem dX7_together_147 : decode cX7_together 147 = .ok (.iload 7, 2) := by decide +kernel
theorem dX7_together_149 : decode cX7_together 149 = .ok (.iload 8, 2) := by decide +kernel
theorem dX7_together_151 : decode cX7_together 151 = .ok (.if_icmp .le 8, 3) := by decide +kernel
theorem dX7_together_154 : decode cX7_together 154 = .ok (.iload 7, 2) := by decide +kernel
theorem dX7_together_156 : decode cX7_together 156 = .ok (.goto 5, 3) := by decide +kernel
theorem dX7_together_159 : decode cX7_together 159 = .ok (.iload 8, 2) := by decide +kernel
theorem dX7_together_161 : decode cX7_together 161 = .ok (.istore 8, 2) := by decide +kernel
theorem dX7_together_163 : decode cX7_together 163 = .ok (.iinc 10 1, 3) := by decide +kernel
theorem dX7_together_166 : decode cX7_together 166 = .ok (.goto (-126), 3) := by decide +kernel
theorem dX7_together_169 : decode cX7_together 169 = .ok (.iload_n 3, 1) := by decide +kernel
theorem dX7_together_170 : decode cX7_together 170 = .ok (.ifCond .ne 8, 3) := by decide +kernel
theorem dX7_together_173 : decode cX7_together 173 = .ok (.iload 4, 2) := by decide +kernel
theorem dX7_together_175 : decode cX7_together 175 = .ok (.goto 45, 3) := by decide +kernel
theorem dX7_together_178 : decode cX7_together 178 = .ok (.iload_n 3, 1) := by decide +kernel
theorem dX7_together_179 : decode cX7_together 179 = .ok (.iconst 1, 1) := by decide +kernel
theorem dX7_together_180 : decode cX7_together 180 = .ok (.if_icmp .ne 8, 3) := by decide +kernel
theorem dX7_together_183 : decode cX7_together 183 = .ok (.iload 5, 2) := by decide +kernel
theorem dX7_together_185 : decode cX7_together 185 = .ok (.goto 35, 3) := by decide +kernel
theorem dX7_together_188 : decode cX7_together 188 = .ok (.iload_n 3, 1) := by decide +kernel
theorem dX7_together_189 : decode cX7_together 189 = .ok (.iconst 2, 1) := by decide +kernel
theorem dX7_together_190 : decode cX7_together 190 = .ok (.if_icmp .ne 8, 3) := by decide +kernel
theorem dX7_together_193 : decode cX7_together 193 = .ok (.iload 6, 2) := by decide +kernel
theorem dX7_together_195 : decode cX7_together 195 = .ok (.goto 25, 3) := by decide +kernel
theorem dX7_together_198 : decode cX7_together 198 = .ok (.iload_n 3, 1) := by decide +kernel
theorem dX7_together_199 : decode cX7_together 199 = .ok (.iconst 3, 1) := by decide +kernel
theorem dX7_together_200 : decode cX7_together 200 = .ok (.if_icmp .ne 8, 3) := by decide +kernel
theorem dX7_together_203 : decode cX7_together 203 = .ok (.iload 8, 2) := by decide +kernel
theorem dX7_together_205 : decode cX7_together 205 = .ok (.goto 15, 3) := by decide +kernel
theorem dX7_together_208 : decode cX7_together 208 = .ok (.iload_n 3, 1) := by decide +kernel
theorem dX7_together_209 : decode cX7_together 209 = .ok (.iconst 4, 1) := by decide +kernel
theorem dX7_together_210 : decode cX7_together 210 = .ok (.if_icmp .ne 8, 3) := by decide +kernel
theorem dX7_together_213 : decode cX7_together 213 = .ok (.iload 9, 2) := by decide +kernel
theorem dX7_together_215 : decode cX7_together 215 = .ok (.goto 5, 3) := by decide +kernel
theorem dX7_together_218 : decode cX7_together 218 = .ok (.bipush (-2), 2) := by decide +kernel
theorem dX7_together_220 : decode cX7_together 220 = .ok (.ireturn, 1) := by decide +kernel
theorem dX7_odd_0 : decode cX7_odd 0 = .ok (.iload_n 1, 1) := by decide +kernel
theorem dX7_odd_1 : decode cX7_odd 1 = .ok (.invokestatic 40, 3) := by decide +kernel
theorem dX7_odd_4 : decode cX7_odd 4 = .ok (.ifCond .ne 5, 3) := by decide +kernel
theorem dX7_odd_7 : decode cX7_odd 7 = .ok (.iconst (-1), 1) := by decide +kernel
theorem dX7_odd_8 : decode cX7_odd 8 = .ok (.ireturn, 1) := by decide +kernel
theorem dX7_odd_9 : decode cX7_odd 9 = .ok (.iload_n 1, 1) := by decide +kernel
theorem dX7_odd_10 : decode cX7_odd 10 = .ok (.istore_n 2, 1) := by decide +kernel
theorem dX7_odd_11 : decode cX7_odd 11 = .ok (.iload_n 2, 1) := by decide +kernel
theorem dX7_odd_12 : decode cX7_odd 12 = .ok (.bipush 64, 2) := by decide +kernel
theorem dX7_odd_14 : decode cX7_odd 14 = .ok (.if_icmp .ge 23, 3) := by decide +kernel
theorem dX7_odd_17 : decode cX7_odd 17 = .ok (.aload_n 0, 1) := by decide +kernel
theorem dX7_odd_18 : decode cX7_odd 18 = .ok (.aload_n 0, 1) := by decide +kernel
theorem dX7_odd_19 : decode cX7_odd 19 = .ok (.iload_n 2, 1) := by decide +kernel
theorem dX7_odd_20 : decode cX7_odd 20 = .ok (.invokevirtual 106, 3) := by decide +kernel
theorem dX7_odd_23 : decode cX7_odd 23 = .ok (.invokevirtual 159, 3) := by decide +kernel
theorem dX7_odd_26 : decode cX7_odd 26 = .ok (.ifCond .eq 5, 3) := by decide +kernel
theorem dX7_odd_29 : decode cX7_odd 29 = .ok (.iload_n 2, 1) := by decide +kernel
theorem dX7_odd_30 : decode cX7_odd 30 = .ok (.ireturn, 1) := by decide +kernel
theorem dX7_odd_31 : decode cX7_odd 31 = .ok (.iinc 2 1, 3) := by decide +kernel
theorem dX7_odd_34 : decode cX7_odd 34 = .ok (.goto (-23), 3) := by decide +kernel
theorem dX7_odd_37 : decode cX7_odd 37 = .ok (.bipush (-5), 2) := by decide +kernel
theorem dX7_odd_39 : decode cX7_odd 39 = .ok (.ireturn, 1) := by decide +kernel
theorem dX7_span_0 : decode cX7_span 0 = .ok (.iload_n 1, 1) := by decide +kernel
theorem dX7_span_1 : decode cX7_span 1 = .ok (.invokestatic 40, 3) := by decide +kernel
theorem dX7_span_4 : decode cX7_span 4 = .ok (.ifCond .ne 5, 3) := by decide +kernel
theorem dX7_span_7 : decode cX7_span 7 = .ok (.iconst (-1), 1) := by decide +kernel
theorem dX7_span_8 : decode cX7_span 8 = .ok (.ireturn, 1) := by decide +kernel
theorem dX7_span_9 : decode cX7_span 9 = .ok (.iload_n 2, 1) := by decide +kernel
theorem dX7_span_10 : decode cX7_span 10 = .ok (.i2l, 1) := by decide +kernel
theorem dX7_span_11 : decode cX7_span 11 = .ok (.lconst 0, 1) := by decide +kernel
theorem dX7_span_12 : decode cX7_span 12 = .ok (.ldc2_w 172, 3) := by decide +kernel
theorem dX7_span_15 : decode cX7_span 15 = .ok (.invokestatic 34, 3) := by decide +kernel
theorem dX7_span_18 : decode cX7_span 18 = .ok (.ifCond .eq 15, 3) := by decide +kernel
theorem dX7_span_21 : decode cX7_span 21 = .ok (.iload_n 3, 1) := by decide +kernel
theorem dX7_span_22 : decode cX7_span 22 = .ok (.i2l, 1) := by decide +kernel
theorem dX7_span_23 : decode cX7_span 23 = .ok (.lconst 0, 1) := by decide +kernel
theorem dX7_span_24 : decode cX7_span 24 = .ok (.ldc2_w 174, 3) := by decide +kernel
theorem dX7_span_27 : decode cX7_span 27 = .ok (.invokestatic 34, 3) := by decide +kernel
theorem dX7_span_30 : decode cX7_span 30 = .ok (.ifCond .ne 6, 3) := by decide +kernel
theorem dX7_span_33 : decode cX7_span 33 = .ok (.bipush (-2), 2) := by decide +kernel
theorem dX7_span_35 : decode cX7_span 35 = .ok (.ireturn, 1) := by decide +kernel
theorem dX7_span_36 : decode cX7_span 36 = .ok (.iload_n 3, 1) := by decide +kernel
theorem dX7_span_37 : decode cX7_span 37 = .ok (.tableswitch 59 0 3 #[31, 37, 42, 52], 31) := by decide +kernel
theorem dX7_span_68 : decode cX7_span 68 = .ok (.iload_n 1, 1) := by decide +kernel
theorem dX7_span_69 : decode cX7_span 69 = .ok (.iload_n 2, 1) := by decide +kernel
theorem dX7_span_70 : decode cX7_span 70 = .ok (.invokestatic 68, 3) := by decide +kernel
theorem dX7_span_73 : decode cX7_span 73 = .ok (.ireturn, 1) := by decide +kernel
theorem dX7_span_74 : decode cX7_span 74 = .ok (.iload_n 2, 1) := by decide +kernel
theorem dX7_span_75 : decode cX7_span 75 = .ok (.invokestatic 64, 3) := by decide +kernel
theorem dX7_span_78 : decode cX7_span 78 = .ok (.ireturn, 1) := by decide +kernel
theorem dX7_span_79 : decode cX7_span 79 = .ok (.aload_n 0, 1) := by decide +kernel
theorem dX7_span_80 : decode cX7_span 80 = .ok (.iload_n 1, 1) := by decide +kernel
theorem dX7_span_81 : decode cX7_span 81 = .ok (.iload_n 2, 1) := by decide +kernel
theorem dX7_span_82 : decode cX7_span 82 = .ok (.invokevirtual 176, 3) := by decide +kernel
theorem dX7_span_85 : decode cX7_span 85 = .ok (.invokestatic 110, 3) := by decide +kernel
theorem dX7_span_88 : decode cX7_span 88 = .ok (.ireturn, 1) := by decide +kernel
theorem dX7_span_89 : decode cX7_span 89 = .ok (.aload_n 0, 1) := by decide +kernel
theorem dX7_span_90 : decode cX7_span 90 = .ok (.iload_n 1, 1) := by decide +kernel
theorem dX7_span_91 : decode cX7_span 91 = .ok (.iload_n 2, 1) := by decide +kernel
theorem dX7_span_92 : decode cX7_span 92 = .ok (.invokevirtual 179, 3) := by decide +kernel
theorem dX7_span_95 : decode cX7_span 95 = .ok (.ireturn, 1) := by decide +kernel
theorem dX7_span_96 : decode cX7_span 96 = .ok (.aload_n 0, 1) := by decide +kernel
theorem dX7_span_97 : decode cX7_span 97 = .ok (.iload_n 1, 1) := by decide +kernel
theorem dX7_span_98 : decode cX7_span 98 = .ok (.iload_n 2, 1) := by decide +kernel
theorem dX7_span_99 : decode cX7_span 99 = .ok (.invokevirtual 176, 3) := by decide +kernel
theorem dX7_span_102 : decode cX7_span 102 = .ok (.invokestatic 110, 3) := by decide +kernel
theorem dX7_span_105 : decode cX7_span 105 = .ok (.aload_n 0, 1) := by decide +kernel
theorem dX7_span_106 : decode cX7_span 106 = .ok (.iload_n 1, 1) := by decide +kernel
theorem dX7_span_107 : decode cX7_span 107 = .ok (.iload_n 2, 1) := by decide +kernel
theorem dX7_span_108 : decode cX7_span 108 = .ok (.invokevirtual 179, 3) := by decide +kernel
theorem dX7_span_111 : decode cX7_span 111 = .ok (.isub, 1) := by decide +kernel
theorem dX7_span_112 : decode cX7_span 112 = .ok (.ireturn, 1) := by decide +kernel
theorem dX7_ofSpans_0 : decode cX7_ofSpans 0 = .ok (.iconst 0, 1) := by decide +kernel
theorem dX7_ofSpans_1 : decode cX7_ofSpans 1 = .ok (.istore_n 2, 1) := by decide +kernel
theorem dX7_ofSpans_2 : decode cX7_ofSpans 2 = .ok (.iconst 0, 1) := by decide +kernel
theorem dX7_ofSpans_3 : decode cX7_ofSpans 3 = .ok (.istore_n 3, 1) := by decide +kernel
theorem dX7_ofSpans_4 : decode cX7_ofSpans 4 = .ok (.iconst 0, 1) := by decide +kernel
theorem dX7_ofSpans_5 : decode cX7_ofSpans 5 = .ok (.istore 4, 2) := by decide +kernel
theorem dX7_ofSpans_7 : decode cX7_ofSpans 7 = .ok (.iload 4, 2) := by decide +kernel
theorem dX7_ofSpans_9 : decode cX7_ofSpans 9 = .ok (.bipush 6, 2) := by decide +kernel
theorem dX7_ofSpans_11 : decode cX7_ofSpans 11 = .ok (.if_icmp .gt 57, 3) := by decide +kernel
theorem dX7_ofSpans_14 : decode cX7_ofSpans 14 = .ok (.iconst 0, 1) := by decide +kernel
theorem dX7_ofSpans_15 : decode cX7_ofSpans 15 = .ok (.istore 5, 2) := by decide +kernel
theorem dX7_ofSpans_17 : decode cX7_ofSpans 17 = .ok (.iload 5, 2) := by decide +kernel
theorem dX7_ofSpans_19 : decode cX7_ofSpans 19 = .ok (.bipush 64, 2) := by decide +kernel
theorem dX7_ofSpans_21 : decode cX7_ofSpans 21 = .ok (.if_icmp .ge 41, 3) := by decide +kernel
theorem dX7_ofSpans_24 : decode cX7_ofSpans 24 = .ok (.iload_n 2, 1) := by decide +kernel
theorem dX7_ofSpans_25 : decode cX7_ofSpans 25 = .ok (.aload_n 0, 1) := by decide +kernel
theorem dX7_ofSpans_26 : decode cX7_ofSpans 26 = .ok (.iload 5, 2) := by decide +kernel
theorem dX7_ofSpans_28 : decode cX7_ofSpans 28 = .ok (.iload 4, 2) := by decide +kernel
theorem dX7_ofSpans_30 : decode cX7_ofSpans 30 = .ok (.invokevirtual 179, 3) := by decide +kernel
theorem dX7_ofSpans_33 : decode cX7_ofSpans 33 = .ok (.iadd, 1) := by decide +kernel
theorem dX7_ofSpans_34 : decode cX7_ofSpans 34 = .ok (.istore_n 2, 1) := by decide +kernel
theorem dX7_ofSpans_35 : decode cX7_ofSpans 35 = .ok (.iload_n 3, 1) := by decide +kernel
theorem dX7_ofSpans_36 : decode cX7_ofSpans 36 = .ok (.aload_n 0, 1) := by decide +kernel
theorem dX7_ofSpans_37 : decode cX7_ofSpans 37 = .ok (.iload 5, 2) := by decide +kernel
theorem dX7_ofSpans_39 : decode cX7_ofSpans 39 = .ok (.iload 4, 2) := by decide +kernel
theorem dX7_ofSpans_41 : decode cX7_ofSpans 41 = .ok (.invokevirtual 176, 3) := by decide +kernel
theorem dX7_ofSpans_44 : decode cX7_ofSpans 44 = .ok (.invokestatic 110, 3) := by decide +kernel
theorem dX7_ofSpans_47 : decode cX7_ofSpans 47 = .ok (.iadd, 1) := by decide +kernel
theorem dX7_ofSpans_48 : decode cX7_ofSpans 48 = .ok (.istore_n 3, 1) := by decide +kernel
theorem dX7_ofSpans_49 : decode cX7_ofSpans 49 = .ok (.iload 5, 2) := by decide +kernel
theorem dX7_ofSpans_51 : decode cX7_ofSpans 51 = .ok (.iload 4, 2) := by decide +kernel
theorem dX7_ofSpans_53 : decode cX7_ofSpans 53 = .ok (.invokestatic 64, 3) := by decide +kernel
theorem dX7_ofSpans_56 : decode cX7_ofSpans 56 = .ok (.iadd, 1) := by decide +kernel
theorem dX7_ofSpans_57 : decode cX7_ofSpans 57 = .ok (.istore 5, 2) := by decide +kernel
theorem dX7_ofSpans_59 : decode cX7_ofSpans 59 = .ok (.goto (-42), 3) := by decide +kernel
theorem dX7_ofSpans_62 : decode cX7_ofSpans 62 = .ok (.iinc 4 1, 3) := by decide +kernel
theorem dX7_ofSpans_65 : decode cX7_ofSpans 65 = .ok (.goto (-58), 3) := by decide +kernel
theorem dX7_ofSpans_68 : decode cX7_ofSpans 68 = .ok (.iload_n 1, 1) := by decide +kernel
theorem dX7_ofSpans_69 : decode cX7_ofSpans 69 = .ok (.iconst 1, 1) := by decide +kernel
theorem dX7_ofSpans_70 : decode cX7_ofSpans 70 = .ok (.if_icmp .ne 7, 3) := by decide +kernel
theorem dX7_ofSpans_73 : decode cX7_ofSpans 73 = .ok (.iload_n 2, 1) := by decide +kernel
theorem dX7_ofSpans_74 : decode cX7_ofSpans 74 = .ok (.goto 6, 3) := by decide +kernel
theorem dX7_ofSpans_77 : decode cX7_ofSpans 77 = .ok (.iload_n 3, 1) := by decide +kernel
theorem dX7_ofSpans_78 : decode cX7_ofSpans 78 = .ok (.iload_n 2, 1) := by decide +kernel
theorem dX7_ofSpans_79 : decode cX7_ofSpans 79 = .ok (.isub, 1) := by decide +kernel
theorem dX7_ofSpans_80 : decode cX7_ofSpans 80 = .ok (.ireturn, 1) := by decide +kernel
theorem dX7_ofMoments_0 : decode cX7_ofMoments 0 = .ok (.iconst 0, 1) := by decide +kernel
theorem dX7_ofMoments_1 : decode cX7_ofMoments 1 = .ok (.istore_n 2, 1) := by decide +kernel
theorem dX7_ofMoments_2 : decode cX7_ofMoments 2 = .ok (.iconst 0, 1) := by decide +kernel
theorem dX7_ofMoments_3 : decode cX7_ofMoments 3 = .ok (.istore_n 3, 1) := by decide +kernel
theorem dX7_ofMoments_4 : decode cX7_ofMoments 4 = .ok (.bipush 16, 2) := by decide +kernel
theorem dX7_ofMoments_6 : decode cX7_ofMoments 6 = .ok (.istore 4, 2) := by decide +kernel
theorem dX7_ofMoments_8 : decode cX7_ofMoments 8 = .ok (.iconst 0, 1) := by decide +kernel
theorem dX7_ofMoments_9 : decode cX7_ofMoments 9 = .ok (.istore 5, 2) := by decide +kernel
theorem dX7_ofMoments_11 : decode cX7_ofMoments 11 = .ok (.iload 5, 2) := by decide +kernel
theorem dX7_ofMoments_13 : decode cX7_ofMoments 13 = .ok (.bipush 64, 2) := by decide +kernel
theorem dX7_ofMoments_15 : decode cX7_ofMoments 15 = .ok (.if_icmp .ge 71, 3) := by decide +kernel
theorem dX7_ofMoments_18 : decode cX7_ofMoments 18 = .ok (.aload_n 0, 1) := by decide +kernel
theorem dX7_ofMoments_19 : decode cX7_ofMoments 19 = .ok (.iload 5, 2) := by decide +kernel
theorem dX7_ofMoments_21 : decode cX7_ofMoments 21 = .ok (.invokevirtual 106, 3) := by decide +kernel
theorem dX7_ofMoments_24 : decode cX7_ofMoments 24 = .ok (.lstore 6, 2) := by decide +kernel
theorem dX7_ofMoments_26 : decode cX7_ofMoments 26 = .ok (.aload_n 0, 1) := by decide +kernel
theorem dX7_ofMoments_27 : decode cX7_ofMoments 27 = .ok (.lload 6, 2) := by decide +kernel
theorem dX7_ofMoments_29 : decode cX7_ofMoments 29 = .ok (.invokevirtual 79, 3) := by decide +kernel
theorem dX7_ofMoments_32 : decode cX7_ofMoments 32 = .ok (.istore 8, 2) := by decide +kernel
theorem dX7_ofMoments_34 : decode cX7_ofMoments 34 = .ok (.iload_n 2, 1) := by decide +kernel
theorem dX7_ofMoments_35 : decode cX7_ofMoments 35 = .ok (.aload_n 0, 1) := by decide +kernel
theorem dX7_ofMoments_36 : decode cX7_ofMoments 36 = .ok (.lload 6, 2) := by decide +kernel
theorem dX7_ofMoments_38 : decode cX7_ofMoments 38 = .ok (.invokevirtual 159, 3) := by decide +kernel
theorem dX7_ofMoments_41 : decode cX7_ofMoments 41 = .ok (.ifCond .eq 7, 3) := by decide +kernel
theorem dX7_ofMoments_44 : decode cX7_ofMoments 44 = .ok (.iconst 1, 1) := by decide +kernel
theorem dX7_ofMoments_45 : decode cX7_ofMoments 45 = .ok (.goto 4, 3) := by decide +kernel
theorem dX7_ofMoments_48 : decode cX7_ofMoments 48 = .ok (.iconst 0, 1) := by decide +kernel
theorem dX7_ofMoments_49 : decode cX7_ofMoments 49 = .ok (.iadd, 1) := by decide +kernel
theorem dX7_ofMoments_50 : decode cX7_ofMoments 50 = .ok (.istore_n 2, 1) := by decide +kernel
theorem dX7_ofMoments_51 : decode cX7_ofMoments 51 = .ok (.iload 8, 2) := by decide +kernel
theorem dX7_ofMoments_53 : decode cX7_ofMoments 53 = .ok (.iload_n 3, 1) := by decide +kernel
theorem dX7_ofMoments_54 : decode cX7_ofMoments 54 = .ok (.if_icmp .le 8, 3) := by decide +kernel
theorem dX7_ofMoments_57 : decode cX7_ofMoments 57 = .ok (.iload 8, 2) := by decide +kernel
theorem dX7_ofMoments_59 : decode cX7_ofMoments 59 = .ok (.goto 4, 3) := by decide +kernel
theorem dX7_ofMoments_62 : decode cX7_ofMoments 62 = .ok (.iload_n 3, 1) := by decide +kernel
theorem dX7_ofMoments_63 : decode cX7_ofMoments 63 = .ok (.istore_n 3, 1) := by decide +kernel
theorem dX7_ofMoments_64 : decode cX7_ofMoments 64 = .ok (.iload 8, 2) := by decide +kernel
theorem dX7_ofMoments_66 : decode cX7_ofMoments 66 = .ok (.iload 4, 2) := by decide +kernel
theorem dX7_ofMoments_68 : decode cX7_ofMoments 68 = .ok (.if_icmp .ge 8, 3) := by decide +kernel
theorem dX7_ofMoments_71 : decode cX7_ofMoments 71 = .ok (.iload 8, 2) := by decide +kernel
theorem dX7_ofMoments_73 : decode cX7_ofMoments 73 = .ok (.goto 5, 3) := by decide +kernel
theorem dX7_ofMoments_76 : decode cX7_ofMoments 76 = .ok (.iload 4, 2) := by decide +kernel
theorem dX7_ofMoments_78 : decode cX7_ofMoments 78 = .ok (.istore 4, 2) := by decide +kernel
theorem dX7_ofMoments_80 : decode cX7_ofMoments 80 = .ok (.iinc 5 1, 3) := by decide +kernel
theorem dX7_ofMoments_83 : decode cX7_ofMoments 83 = .ok (.goto (-72), 3) := by decide +kernel
theorem dX7_ofMoments_86 : decode cX7_ofMoments 86 = .ok (.iload_n 1, 1) := by decide +kernel
theorem dX7_ofMoments_87 : decode cX7_ofMoments 87 = .ok (.iconst 4, 1) := by decide +kernel
theorem dX7_ofMoments_88 : decode cX7_ofMoments 88 = .ok (.if_icmp .ne 7, 3) := by decide +kernel
theorem dX7_ofMoments_91 : decode cX7_ofMoments 91 = .ok (.iload_n 2, 1) := by decide +kernel
theorem dX7_ofMoments_92 : decode cX7_ofMoments 92 = .ok (.goto 14, 3) := by decide +kernel
theorem dX7_ofMoments_95 : decode cX7_ofMoments 95 = .ok (.iload_n 1, 1) := by decide +kernel
theorem dX7_ofMoments_96 : decode cX7_ofMoments 96 = .ok (.iconst 5, 1) := by decide +kernel
theorem dX7_ofMoments_97 : decode cX7_ofMoments 97 = .ok (.if_icmp .ne 7, 3) := by decide +kernel
theorem dX7_ofMoments_100 : decode cX7_ofMoments 100 = .ok (.iload_n 3, 1) := by decide +kernel
theorem dX7_ofMoments_101 : decode cX7_ofMoments 101 = .ok (.goto 5, 3) := by decide +kernel
theorem dX7_ofMoments_104 : decode cX7_ofMoments 104 = .ok (.iload 4, 2) := by decide +kernel
theorem dX7_ofMoments_106 : decode cX7_ofMoments 106 = .ok (.ireturn, 1) := by decide +kernel
theorem dX7_count_0 : decode cX7_count 0 = .ok (.iload_n 1, 1) := by decide +kernel
theorem dX7_count_1 : decode cX7_count 1 = .ok (.tableswitch 90 0 8 #[51, 58, 58, 64, 74, 74, 74, 80, 85], 51) := by decide +kernel
theorem dX7_count_52 : decode cX7_count 52 = .ok (.aload_n 0, 1) := by decide +kernel
theorem dX7_count_53 : decode cX7_count 53 = .ok (.getfield 7, 3) := by decide +kernel
theorem dX7_count_56 : decode cX7_count 56 = .ok (.iconst 0, 1) := by decide +kernel
theorem dX7_count_57 : decode cX7_count 57 = .ok (.iaload, 1) := by decide +kernel
theorem dX7_count_58 : decode cX7_count 58 = .ok (.ireturn, 1) := by decide +kernel
theorem dX7_count_59 : decode cX7_count 59 = .ok (.aload_n 0, 1) := by decide +kernel
theorem dX7_count_60 : decode cX7_count 60 = .ok (.iload_n 1, 1) := by decide +kernel
theorem dX7_count_61 : decode cX7_count 61 = .ok (.invokevirtual 182, 3) := by decide +kernel
theorem dX7_count_64 : decode cX7_count 64 = .ok (.ireturn, 1) := by decide +kernel
theorem dX7_count_65 : decode cX7_count 65 = .ok (.bipush 16, 2) := by decide +kernel
theorem dX7_count_67 : decode cX7_count 67 = .ok (.aload_n 0, 1) := by decide +kernel
theorem dX7_count_68 : decode cX7_count 68 = .ok (.bipush 6, 2) := by decide +kernel
theorem dX7_count_70 : decode cX7_count 70 = .ok (.invokevirtual 185, 3) := by decide +kernel
theorem dX7_count_73 : decode cX7_count 73 = .ok (.isub, 1) := by decide +kernel
theorem dX7_count_74 : decode cX7_count 74 = .ok (.ireturn, 1) := by decide +kernel
theorem dX7_count_75 : decode cX7_count 75 = .ok (.aload_n 0, 1) := by decide +kernel
theorem dX7_count_76 : decode cX7_count 76 = .ok (.iload_n 1, 1) := by decide +kernel
theorem dX7_count_77 : decode cX7_count 77 = .ok (.invokevirtual 185, 3) := by decide +kernel
theorem dX7_count_80 : decode cX7_count 80 = .ok (.ireturn, 1) := by decide +kernel
theorem dX7_count_81 : decode cX7_count 81 = .ok (.aload_n 0, 1) := by decide +kernel
theorem dX7_count_82 : decode cX7_count 82 = .ok (.getfield 28, 3) := by decide +kernel
theorem dX7_count_85 : decode cX7_count 85 = .ok (.ireturn, 1) := by decide +kernel
theorem dX7_count_86 : decode cX7_count 86 = .ok (.aload_n 0, 1) := by decide +kernel
theorem dX7_count_87 : decode cX7_count 87 = .ok (.getfield 113, 3) := by decide +kernel
theorem dX7_count_90 : decode cX7_count 90 = .ok (.ireturn, 1) := by decide +kernel
theorem dX7_count_91 : decode cX7_count 91 = .ok (.bipush (-2), 2) := by decide +kernel
theorem dX7_count_93 : decode cX7_count 93 = .ok (.ireturn, 1) := by decide +kernel
end
section
theorem dL_law_0 : decode code 0 = .ok (.new 7, 3) := by decide +kernel
theorem dL_law_3 : decode code 3 = .ok (.dup, 1) := by decide +kernel
theorem dL_law_4 : decode code 4 = .ok (.invokespecial 9, 3) := by decide +kernel
theorem dL_law_7 : decode code 7 = .ok (.astore_n 1, 1) := by decide +kernel
theorem dL_law_8 : decode code 8 = .ok (.new 10, 3) := by decide +kernel
theorem dL_law_11 : decode code 11 = .ok (.dup, 1) := by decide +kernel
theorem dL_law_12 : decode code 12 = .ok (.invokespecial 12, 3) := by decide +kernel
theorem dL_law_15 : decode code 15 = .ok (.astore_n 2, 1) := by decide +kernel
theorem dL_law_16 : decode code 16 = .ok (.iconst 0, 1) := by decide +kernel
theorem dL_law_17 : decode code 17 = .ok (.istore_n 3, 1) := by decide +kernel
theorem dL_law_18 : decode code 18 = .ok (.iload_n 3, 1) := by decide +kernel
theorem dL_law_19 : decode code 19 = .ok (.aload_n 0, 1) := by decide +kernel
theorem dL_law_20 : decode code 20 = .ok (.arraylength, 1) := by decide +kernel
theorem dL_law_21 : decode code 21 = .ok (.iconst 5, 1) := by decide +kernel
theorem dL_law_22 : decode code 22 = .ok (.isub, 1) := by decide +kernel
theorem dL_law_23 : decode code 23 = .ok (.if_icmp .gt 693, 3) := by decide +kernel
theorem dL_law_26 : decode code 26 = .ok (.aload_n 0, 1) := by decide +kernel
theorem dL_law_27 : decode code 27 = .ok (.iload_n 3, 1) := by decide +kernel
theorem dL_law_28 : decode code 28 = .ok (.iaload, 1) := by decide +kernel
theorem dL_law_29 : decode code 29 = .ok (.bipush 31, 2) := by decide +kernel
theorem dL_law_31 : decode code 31 = .ok (.iand, 1) := by decide +kernel
theorem dL_law_32 : decode code 32 = .ok (.tableswitch 678 0 19 #[96, 149, 172, 215, 248, 261, 284, 309, 322, 335, 348, 361, 394, 437, 470, 513, 546, 589, 612, 655], 96) := by decide +kernel
theorem dL_law_128 : decode code 128 = .ok (.aload_n 1, 1) := by decide +kernel
theorem dL_law_129 : decode code 129 = .ok (.aload_n 0, 1) := by decide +kernel
theorem dL_law_130 : decode code 130 = .ok (.iload_n 3, 1) := by decide +kernel
theorem dL_law_131 : decode code 131 = .ok (.iconst 1, 1) := by decide +kernel
theorem dL_law_132 : decode code 132 = .ok (.iadd, 1) := by decide +kernel
theorem dL_law_133 : decode code 133 = .ok (.iaload, 1) := by decide +kernel
theorem dL_law_134 : decode code 134 = .ok (.aload_n 0, 1) := by decide +kernel
theorem dL_law_135 : decode code 135 = .ok (.iload_n 3, 1) := by decide +kernel
theorem dL_law_136 : decode code 136 = .ok (.iconst 2, 1) := by decide +kernel
theorem dL_law_137 : decode code 137 = .ok (.iadd, 1) := by decide +kernel
theorem dL_law_138 : decode code 138 = .ok (.iaload, 1) := by decide +kernel
theorem dL_law_139 : decode code 139 = .ok (.aload_n 0, 1) := by decide +kernel
theorem dL_law_140 : decode code 140 = .ok (.iload_n 3, 1) := by decide +kernel
theorem dL_law_141 : decode code 141 = .ok (.iconst 3, 1) := by decide +kernel
theorem dL_law_142 : decode code 142 = .ok (.iadd, 1) := by decide +kernel
theorem dL_law_143 : decode code 143 = .ok (.iaload, 1) := by decide +kernel
theorem dL_law_144 : decode code 144 = .ok (.aload_n 0, 1) := by decide +kernel
theorem dL_law_145 : decode code 145 = .ok (.iload_n 3, 1) := by decide +kernel
theorem dL_law_146 : decode code 146 = .ok (.iconst 4, 1) := by decide +kernel
theorem dL_law_147 : decode code 147 = .ok (.iadd, 1) := by decide +kernel
theorem dL_law_148 : decode code 148 = .ok (.iaload, 1) := by decide +kernel
theorem dL_law_149 : decode code 149 = .ok (.invokevirtual 13, 3) := by decide +kernel
theorem dL_law_152 : decode code 152 = .ok (.aload_n 2, 1) := by decide +kernel
theorem dL_law_153 : decode code 153 = .ok (.aload_n 0, 1) := by decide +kernel
theorem dL_law_154 : decode code 154 = .ok (.iload_n 3, 1) := by decide +kernel
theorem dL_law_155 : decode code 155 = .ok (.iconst 1, 1) := by decide +kernel
theorem dL_law_156 : decode code 156 = .ok (.iadd, 1) := by decide +kernel
theorem dL_law_157 : decode code 157 = .ok (.iaload, 1) := by decide +kernel
theorem dL_law_158 : decode code 158 = .ok (.aload_n 0, 1) := by decide +kernel
theorem dL_law_159 : decode code 159 = .ok (.iload_n 3, 1) := by decide +kernel
theorem dL_law_160 : decode code 160 = .ok (.iconst 2, 1) := by decide +kernel
theorem dL_law_161 : decode code 161 = .ok (.iadd, 1) := by decide +kernel
theorem dL_law_162 : decode code 162 = .ok (.iaload, 1) := by decide +kernel
theorem dL_law_163 : decode code 163 = .ok (.aload_n 0, 1) := by decide +kernel
theorem dL_law_164 : decode code 164 = .ok (.iload_n 3, 1) := by decide +kernel
theorem dL_law_165 : decode code 165 = .ok (.iconst 3, 1) := by decide +kernel
theorem dL_law_166 : decode code 166 = .ok (.iadd, 1) := by decide +kernel
theorem dL_law_167 : decode code 167 = .ok (.iaload, 1) := by decide +kernel
theorem dL_law_168 : decode code 168 = .ok (.aload_n 0, 1) := by decide +kernel
theorem dL_law_169 : decode code 169 = .ok (.iload_n 3, 1) := by decide +kernel
theorem dL_law_170 : decode code 170 = .ok (.iconst 4, 1) := by decide +kernel
theorem dL_law_171 : decode code 171 = .ok (.iadd, 1) := by decide +kernel
theorem dL_law_172 : decode code 172 = .ok (.iaload, 1) := by decide +kernel
theorem dL_law_173 : decode code 173 = .ok (.invokevirtual 17, 3) := by decide +kernel
theorem dL_law_176 : decode code 176 = .ok (.if_icmp .eq 534, 3) := by decide +kernel
theorem dL_law_179 : decode code 179 = .ok (.iconst 0, 1) := by decide +kernel
theorem dL_law_180 : decode code 180 = .ok (.ireturn, 1) := by decide +kernel
theorem dL_law_181 : decode code 181 = .ok (.aload_n 1, 1) := by decide +kernel
theorem dL_law_182 : decode code 182 = .ok (.aload_n 0, 1) := by decide +kernel
theorem dL_law_183 : decode code 183 = .ok (.iload_n 3, 1) := by decide +kernel
theorem dL_law_184 : decode code 184 = .ok (.iconst 1, 1) := by decide +kernel
theorem dL_law_185 : decode code 185 = .ok (.iadd, 1) := by decide +kernel
theorem dL_law_186 : decode code 186 = .ok (.iaload, 1) := by decide +kernel
theorem dL_law_187 : decode code 187 = .ok (.invokevirtual 18, 3) := by decide +kernel
theorem dL_law_190 : decode code 190 = .ok (.aload_n 2, 1) := by decide +kernel
theorem dL_law_191 : decode code 191 = .ok (.aload_n 0, 1) := by decide +kernel
theorem dL_law_192 : decode code 192 = .ok (.iload_n 3, 1) := by decide +kernel
theorem dL_law_193 : decode code 193 = .ok (.iconst 1, 1) := by decide +kernel
theorem dL_law_194 : decode code 194 = .ok (.iadd, 1) := by decide +kernel
theorem dL_law_195 : decode code 195 = .ok (.iaload, 1) := by decide +kernel
theorem dL_law_196 : decode code 196 = .ok (.invokevirtual 22, 3) := by decide +kernel
theorem dL_law_199 : decode code 199 = .ok (.if_icmp .eq 511, 3) := by decide +kernel
theorem dL_law_202 : decode code 202 = .ok (.iconst 0, 1) := by decide +kernel
theorem dL_law_203 : decode code 203 = .ok (.ireturn, 1) := by decide +kernel
theorem dL_law_204 : decode code 204 = .ok (.aload_n 1, 1) := by decide +kernel
theorem dL_law_205 : decode code 205 = .ok (.aload_n 0, 1) := by decide +kernel
theorem dL_law_206 : decode code 206 = .ok (.iload_n 3, 1) := by decide +kernel
theorem dL_law_207 : decode code 207 = .ok (.iconst 1, 1) := by decide +kernel
theorem dL_law_208 : decode code 208 = .ok (.iadd, 1) := by decide +kernel
theorem dL_law_209 : decode code 209 = .ok (.iaload, 1) := by decide +kernel
theorem dL_law_210 : decode code 210 = .ok (.aload_n 0, 1) := by decide +kernel
theorem dL_law_211 : decode code 211 = .ok (.iload_n 3, 1) := by decide +kernel
theorem dL_law_212 : decode code 212 = .ok (.iconst 2, 1) := by decide +kernel
theorem dL_law_213 : decode code 213 = .ok (.iadd, 1) := by decide +kernel
theorem dL_law_214 : decode code 214 = .ok (.iaload, 1) := by decide +kernel
theorem dL_law_215 : decode code 215 = .ok (.aload_n 0, 1) := by decide +kernel
theorem dL_law_216 : decode code 216 = .ok (.iload_n 3, 1) := by decide +kernel
theorem dL_law_217 : decode code 217 = .ok (.iconst 3, 1) := by decide +kernel
theorem dL_law_218 : decode code 218 = .ok (.iadd, 1) := by decide +kernel
theorem dL_law_219 : decode code 219 = .ok (.iaload, 1) := by decide +kernel
theorem dL_law_220 : decode code 220 = .ok (.invokevirtual 23, 3) := by decide +kernel
theorem dL_law_223 : decode code 223 = .ok (.aload_n 2, 1) := by decide +kernel
theorem dL_law_224 : decode code 224 = .ok (.aload_n 0, 1) := by decide +kernel
theorem dL_law_225 : decode code 225 = .ok (.iload_n 3, 1) := by decide +kernel
theorem dL_law_226 : decode code 226 = .ok (.iconst 1, 1) := by decide +kernel
theorem dL_law_227 : decode code 227 = .ok (.iadd, 1) := by decide +kernel
theorem dL_law_228 : decode code 228 = .ok (.iaload, 1) := by decide +kernel
theorem dL_law_229 : decode code 229 = .ok (.aload_n 0, 1) := by decide +kernel
theorem dL_law_230 : decode code 230 = .ok (.iload_n 3, 1) := by decide +kernel
theorem dL_law_231 : decode code 231 = .ok (.iconst 2, 1) := by decide +kernel
theorem dL_law_232 : decode code 232 = .ok (.iadd, 1) := by decide +kernel
theorem dL_law_233 : decode code 233 = .ok (.iaload, 1) := by decide +kernel
theorem dL_law_234 : decode code 234 = .ok (.aload_n 0, 1) := by decide +kernel
theorem dL_law_235 : decode code 235 = .ok (.iload_n 3, 1) := by decide +kernel
theorem dL_law_236 : decode code 236 = .ok (.iconst 3, 1) := by decide +kernel
theorem dL_law_237 : decode code 237 = .ok (.iadd, 1) := by decide +kernel
theorem dL_law_238 : decode code 238 = .ok (.iaload, 1) := by decide +kernel
theorem dL_law_239 : decode code 239 = .ok (.invokevirtual 27, 3) := by decide +kernel
theorem dL_law_242 : decode code 242 = .ok (.if_icmp .eq 468, 3) := by decide +kernel
theorem dL_law_245 : decode code 245 = .ok (.iconst 0, 1) := by decide +kernel
theorem dL_law_246 : decode code 246 = .ok (.ireturn, 1) := by decide +kernel
theorem dL_law_247 : decode code 247 = .ok (.aload_n 1, 1) := by decide +kernel
theorem dL_law_248 : decode code 248 = .ok (.aload_n 0, 1) := by decide +kernel
theorem dL_law_249 : decode code 249 = .ok (.iload_n 3, 1) := by decide +kernel
theorem dL_law_250 : decode code 250 = .ok (.iconst 1, 1) := by decide +kernel
theorem dL_law_251 : decode code 251 = .ok (.iadd, 1) := by decide +kernel
theorem dL_law_252 : decode code 252 = .ok (.iaload, 1) := by decide +kernel
theorem dL_law_253 : decode code 253 = .ok (.aload_n 0, 1) := by decide +kernel
theorem dL_law_254 : decode code 254 = .ok (.iload_n 3, 1) := by decide +kernel
theorem dL_law_255 : decode code 255 = .ok (.iconst 2, 1) := by decide +kernel
theorem dL_law_256 : decode code 256 = .ok (.iadd, 1) := by decide +kernel
theorem dL_law_257 : decode code 257 = .ok (.iaload, 1) := by decide +kernel
theorem dL_law_258 : decode code 258 = .ok (.invokevirtual 28, 3) := by decide +kernel
theorem dL_law_261 : decode code 261 = .ok (.aload_n 2, 1) := by decide +kernel
theorem dL_law_262 : decode code 262 = .ok (.aload_n 0, 1) := by decide +kernel
theorem dL_law_263 : decode code 263 = .ok (.iload_n 3, 1) := by decide +kernel
theorem dL_law_264 : decode code 264 = .ok (.iconst 1, 1) := by decide +kernel
theorem dL_law_265 : decode code 265 = .ok (.iadd, 1) := by decide +kernel
theorem dL_law_266 : decode code 266 = .ok (.iaload, 1) := by decide +kernel
theorem dL_law_267 : decode code 267 = .ok (.aload_n 0, 1) := by decide +kernel
theorem dL_law_268 : decode code 268 = .ok (.iload_n 3, 1) := by decide +kernel
theorem dL_law_269 : decode code 269 = .ok (.iconst 2, 1) := by decide +kernel
theorem dL_law_270 : decode code 270 = .ok (.iadd, 1) := by decide +kernel
theorem dL_law_271 : decode code 271 = .ok (.iaload, 1) := by decide +kernel
theorem dL_law_272 : decode code 272 = .ok (.invokevirtual 32, 3) := by decide +kernel
theorem dL_law_275 : decode code 275 = .ok (.if_icmp .eq 435, 3) := by decide +kernel
theorem dL_law_278 : decode code 278 = .ok (.iconst 0, 1) := by decide +kernel
theorem dL_law_279 : decode code 279 = .ok (.ireturn, 1) := by decide +kernel
theorem dL_law_280 : decode code 280 = .ok (.aload_n 1, 1) := by decide +kernel
theorem dL_law_281 : decode code 281 = .ok (.invokevirtual 33, 3) := by decide +kernel
theorem dL_law_284 : decode code 284 = .ok (.aload_n 2, 1) := by decide +kernel
theorem dL_law_285 : decode code 285 = .ok (.invokevirtual 37, 3) := by decide +kernel
theorem dL_law_288 : decode code 288 = .ok (.if_icmp .eq 422, 3) := by decide +kernel
theorem dL_law_291 : decode code 291 = .ok (.iconst 0, 1) := by decide +kernel
theorem dL_law_292 : decode code 292 = .ok (.ireturn, 1) := by decide +kernel
theorem dL_law_293 : decode code 293 = .ok (.aload_n 1, 1) := by decide +kernel
theorem dL_law_294 : decode code 294 = .ok (.aload_n 0, 1) := by decide +kernel
theorem dL_law_295 : decode code 295 = .ok (.iload_n 3, 1) := by decide +kernel
theorem dL_law_296 : decode code 296 = .ok (.iconst 1, 1) := by decide +kernel
theorem dL_law_297 : decode code 297 = .ok (.iadd, 1) := by decide +kernel
theorem dL_law_298 : decode code 298 = .ok (.iaload, 1) := by decide +kernel
theorem dL_law_299 : decode code 299 = .ok (.invokevirtual 38, 3) := by decide +kernel
theorem dL_law_302 : decode code 302 = .ok (.aload_n 2, 1) := by decide +kernel
theorem dL_law_303 : decode code 303 = .ok (.aload_n 0, 1) := by decide +kernel
theorem dL_law_304 : decode code 304 = .ok (.iload_n 3, 1) := by decide +kernel
theorem dL_law_305 : decode code 305 = .ok (.iconst 1, 1) := by decide +kernel
theorem dL_law_306 : decode code 306 = .ok (.iadd, 1) := by decide +kernel
theorem dL_law_307 : decode code 307 = .ok (.iaload, 1) := by decide +kernel
theorem dL_law_308 : decode code 308 = .ok (.invokevirtual 41, 3) := by decide +kernel
theorem dL_law_311 : decode code 311 = .ok (.if_icmp .eq 399, 3) := by decide +kernel
theorem dL_law_314 : decode code 314 = .ok (.iconst 0, 1) := by decide +kernel
theorem dL_law_315 : decode code 315 = .ok (.ireturn, 1) := by decide +kernel
theorem dL_law_316 : decode code 316 = .ok (.aload_n 1, 1) := by decide +kernel
theorem dL_law_317 : decode code 317 = .ok (.aload_n 0, 1) := by decide +kernel
theorem dL_law_318 : decode code 318 = .ok (.iload_n 3, 1) := by decide +kernel
theorem dL_law_319 : decode code 319 = .ok (.iconst 1, 1) := by decide +kernel
theorem dL_law_320 : decode code 320 = .ok (.iadd, 1) := by decide +kernel
theorem dL_law_321 : decode code 321 = .ok (.iaload, 1) := by decide +kernel
theorem dL_law_322 : decode code 322 = .ok (.i2c, 1) := by decide +kernel
theorem dL_law_323 : decode code 323 = .ok (.invokevirtual 42, 3) := by decide +kernel
theorem dL_law_326 : decode code 326 = .ok (.aload_n 2, 1) := by decide +kernel
theorem dL_law_327 : decode code 327 = .ok (.aload_n 0, 1) := by decide +kernel
theorem dL_law_328 : decode code 328 = .ok (.iload_n 3, 1) := by decide +kernel
theorem dL_law_329 : decode code 329 = .ok (.iconst 1, 1) := by decide +kernel
theorem dL_law_330 : decode code 330 = .ok (.iadd, 1) := by decide +kernel
theorem dL_law_331 : decode code 331 = .ok (.iaload, 1) := by decide +kernel
theorem dL_law_332 : decode code 332 = .ok (.i2c, 1) := by decide +kernel
theorem dL_law_333 : decode code 333 = .ok (.invokevirtual 46, 3) := by decide +kernel
theorem dL_law_336 : decode code 336 = .ok (.if_icmp .eq 374, 3) := by decide +kernel
theorem dL_law_339 : decode code 339 = .ok (.iconst 0, 1) := by decide +kernel
theorem dL_law_340 : decode code 340 = .ok (.ireturn, 1) := by decide +kernel
theorem dL_law_341 : decode code 341 = .ok (.aload_n 1, 1) := by decide +kernel
theorem dL_law_342 : decode code 342 = .ok (.invokevirtual 47, 3) := by decide +kernel
theorem dL_law_345 : decode code 345 = .ok (.aload_n 2, 1) := by decide +kernel
theorem dL_law_346 : decode code 346 = .ok (.invokevirtual 50, 3) := by decide +kernel
theorem dL_law_349 : decode code 349 = .ok (.if_icmp .eq 361, 3) := by decide +kernel
theorem dL_law_352 : decode code 352 = .ok (.iconst 0, 1) := by decide +kernel
theorem dL_law_353 : decode code 353 = .ok (.ireturn, 1) := by decide +kernel
theorem dL_law_354 : decode code 354 = .ok (.aload_n 1, 1) := by decide +kernel
theorem dL_law_355 : decode code 355 = .ok (.invokevirtual 51, 3) := by decide +kernel
theorem dL_law_358 : decode code 358 = .ok (.aload_n 2, 1) := by decide +kernel
theorem dL_law_359 : decode code 359 = .ok (.invokevirtual 54, 3) := by decide +kernel
theorem dL_law_362 : decode code 362 = .ok (.if_icmp .eq 348, 3) := by decide +kernel
theorem dL_law_365 : decode code 365 = .ok (.iconst 0, 1) := by decide +kernel
theorem dL_law_366 : decode code 366 = .ok (.ireturn, 1) := by decide +kernel
theorem dL_law_367 : decode code 367 = .ok (.aload_n 1, 1) := by decide +kernel
theorem dL_law_368 : decode code 368 = .ok (.invokevirtual 55, 3) := by decide +kernel
theorem dL_law_371 : decode code 371 = .ok (.aload_n 2, 1) := by decide +kernel
theorem dL_law_372 : decode code 372 = .ok (.invokevirtual 58, 3) := by decide +kernel
theorem dL_law_375 : decode code 375 = .ok (.if_icmp .eq 335, 3) := by decide +kernel
theorem dL_law_378 : decode code 378 = .ok (.iconst 0, 1) := by decide +kernel
theorem dL_law_379 : decode code 379 = .ok (.ireturn, 1) := by decide +kernel
theorem dL_law_380 : decode code 380 = .ok (.aload_n 1, 1) := by decide +kernel
theorem dL_law_381 : decode code 381 = .ok (.invokevirtual 59, 3) := by decide +kernel
theorem dL_law_384 : decode code 384 = .ok (.aload_n 2, 1) := by decide +kernel
theorem dL_law_385 : decode code 385 = .ok (.invokevirtual 62, 3) := by decide +kernel
theorem dL_law_388 : decode code 388 = .ok (.if_icmp .eq 322, 3) := by decide +kernel
theorem dL_law_391 : decode code 391 = .ok (.iconst 0, 1) := by decide +kernel
theorem dL_law_392 : decode code 392 = .ok (.ireturn, 1) := by decide +kernel
theorem dL_law_393 : decode code 393 = .ok (.aload_n 1, 1) := by decide +kernel
theorem dL_law_394 : decode code 394 = .ok (.aload_n 0, 1) := by decide +kernel
theorem dL_law_395 : decode code 395 = .ok (.iload_n 3, 1) := by decide +kernel
theorem dL_law_396 : decode code 396 = .ok (.iconst 1, 1) := by decide +kernel
theorem dL_law_397 : decode code 397 = .ok (.iadd, 1) := by decide +kernel
theorem dL_law_398 : decode code 398 = .ok (.iaload, 1) := by decide +kernel
theorem dL_law_399 : decode code 399 = .ok (.aload_n 0, 1) := by decide +kernel
theorem dL_law_400 : decode code 400 = .ok (.iload_n 3, 1) := by decide +kernel
theorem dL_law_401 : decode code 401 = .ok (.iconst 2, 1) := by decide +kernel
theorem dL_law_402 : decode code 402 = .ok (.iadd, 1) := by decide +kernel
theorem dL_law_403 : decode code 403 = .ok (.iaload, 1) := by decide +kernel
theorem dL_law_404 : decode code 404 = .ok (.invokevirtual 63, 3) := by decide +kernel
theorem dL_law_407 : decode code 407 = .ok (.aload_n 2, 1) := by decide +kernel
theorem dL_law_408 : decode code 408 = .ok (.aload_n 0, 1) := by decide +kernel
theorem dL_law_409 : decode code 409 = .ok (.iload_n 3, 1) := by decide +kernel
theorem dL_law_410 : decode code 410 = .ok (.iconst 1, 1) := by decide +kernel
theorem dL_law_411 : decode code 411 = .ok (.iadd, 1) := by decide +kernel
theorem dL_law_412 : decode code 412 = .ok (.iaload, 1) := by decide +kernel
theorem dL_law_413 : decode code 413 = .ok (.aload_n 0, 1) := by decide +kernel
theorem dL_law_414 : decode code 414 = .ok (.iload_n 3, 1) := by decide +kernel
theorem dL_law_415 : decode code 415 = .ok (.iconst 2, 1) := by decide +kernel
theorem dL_law_416 : decode code 416 = .ok (.iadd, 1) := by decide +kernel
theorem dL_law_417 : decode code 417 = .ok (.iaload, 1) := by decide +kernel
theorem dL_law_418 : decode code 418 = .ok (.invokevirtual 66, 3) := by decide +kernel
theorem dL_law_421 : decode code 421 = .ok (.if_icmp .eq 289, 3) := by decide +kernel
theorem dL_law_424 : decode code 424 = .ok (.iconst 0, 1) := by decide +kernel
theorem dL_law_425 : decode code 425 = .ok (.ireturn, 1) := by decide +kernel
theorem dL_law_426 : decode code 426 = .ok (.aload_n 1, 1) := by decide +kernel
theorem dL_law_427 : decode code 427 = .ok (.aload_n 0, 1) := by decide +kernel
theorem dL_law_428 : decode code 428 = .ok (.iload_n 3, 1) := by decide +kernel
theorem dL_law_429 : decode code 429 = .ok (.iconst 1, 1) := by decide +kernel
theorem dL_law_430 : decode code 430 = .ok (.iadd, 1) := by decide +kernel
theorem dL_law_431 : decode code 431 = .ok (.iaload, 1) := by decide +kernel
theorem dL_law_432 : decode code 432 = .ok (.aload_n 0, 1) := by decide +kernel
theorem dL_law_433 : decode code 433 = .ok (.iload_n 3, 1) := by decide +kernel
theorem dL_law_434 : decode code 434 = .ok (.iconst 2, 1) := by decide +kernel
theorem dL_law_435 : decode code 435 = .ok (.iadd, 1) := by decide +kernel
theorem dL_law_436 : decode code 436 = .ok (.iaload, 1) := by decide +kernel
theorem dL_law_437 : decode code 437 = .ok (.aload_n 0, 1) := by decide +kernel
theorem dL_law_438 : decode code 438 = .ok (.iload_n 3, 1) := by decide +kernel
theorem dL_law_439 : decode code 439 = .ok (.iconst 3, 1) := by decide +kernel
theorem dL_law_440 : decode code 440 = .ok (.iadd, 1) := by decide +kernel
theorem dL_law_441 : decode code 441 = .ok (.iaload, 1) := by decide +kernel
theorem dL_law_442 : decode code 442 = .ok (.invokevirtual 67, 3) := by decide +kernel
theorem dL_law_445 : decode code 445 = .ok (.aload_n 2, 1) := by decide +kernel
theorem dL_law_446 : decode code 446 = .ok (.aload_n 0, 1) := by decide +kernel
theorem dL_law_447 : decode code 447 = .ok (.iload_n 3, 1) := by decide +kernel
theorem dL_law_448 : decode code 448 = .ok (.iconst 1, 1) := by decide +kernel
theorem dL_law_449 : decode code 449 = .ok (.iadd, 1) := by decide +kernel
theorem dL_law_450 : decode code 450 = .ok (.iaload, 1) := by decide +kernel
theorem dL_law_451 : decode code 451 = .ok (.aload_n 0, 1) := by decide +kernel
theorem dL_law_452 : decode code 452 = .ok (.iload_n 3, 1) := by decide +kernel
theorem dL_law_453 : decode code 453 = .ok (.iconst 2, 1) := by decide +kernel
theorem dL_law_454 : decode code 454 = .ok (.iadd, 1) := by decide +kernel
theorem dL_law_455 : decode code 455 = .ok (.iaload, 1) := by decide +kernel
theorem dL_law_456 : decode code 456 = .ok (.aload_n 0, 1) := by decide +kernel
theorem dL_law_457 : decode code 457 = .ok (.iload_n 3, 1) := by decide +kernel
theorem dL_law_458 : decode code 458 = .ok (.iconst 3, 1) := by decide +kernel
theorem dL_law_459 : decode code 459 = .ok (.iadd, 1) := by decide +kernel
theorem dL_law_460 : decode code 460 = .ok (.iaload, 1) := by decide +kernel
theorem dL_law_461 : decode code 461 = .ok (.invokevirtual 70, 3) := by decide +kernel
theorem dL_law_464 : decode code 464 = .ok (.if_icmp .eq 246, 3) := by decide +kernel
theorem dL_law_467 : decode code 467 = .ok (.iconst 0, 1) := by decide +kernel
theorem dL_law_468 : decode code 468 = .ok (.ireturn, 1) := by decide +kernel
theorem dL_law_469 : decode code 469 = .ok (.aload_n 1, 1) := by decide +kernel
theorem dL_law_470 : decode code 470 = .ok (.aload_n 0, 1) := by decide +kernel
theorem dL_law_471 : decode code 471 = .ok (.iload_n 3, 1) := by decide +kernel
theorem dL_law_472 : decode code 472 = .ok (.iconst 1, 1) := by decide +kernel
theorem dL_law_473 : decode code 473 = .ok (.iadd, 1) := by decide +kernel
theorem dL_law_474 : decode code 474 = .ok (.iaload, 1) := by decide +kernel
theorem dL_law_475 : decode code 475 = .ok (.aload_n 0, 1) := by decide +kernel
theorem dL_law_476 : decode code 476 = .ok (.iload_n 3, 1) := by decide +kernel
theorem dL_law_477 : decode code 477 = .ok (.iconst 2, 1) := by decide +kernel
theorem dL_law_478 : decode code 478 = .ok (.iadd, 1) := by decide +kernel
theorem dL_law_479 : decode code 479 = .ok (.iaload, 1) := by decide +kernel
theorem dL_law_480 : decode code 480 = .ok (.invokevirtual 71, 3) := by decide +kernel
theorem dL_law_483 : decode code 483 = .ok (.aload_n 2, 1) := by decide +kernel
theorem dL_law_484 : decode code 484 = .ok (.aload_n 0, 1) := by decide +kernel
theorem dL_law_485 : decode code 485 = .ok (.iload_n 3, 1) := by decide +kernel
theorem dL_law_486 : decode code 486 = .ok (.iconst 1, 1) := by decide +kernel
theorem dL_law_487 : decode code 487 = .ok (.iadd, 1) := by decide +kernel
theorem dL_law_488 : decode code 488 = .ok (.iaload, 1) := by decide +kernel
theorem dL_law_489 : decode code 489 = .ok (.aload_n 0, 1) := by decide +kernel
theorem dL_law_490 : decode code 490 = .ok (.iload_n 3, 1) := by decide +kernel
theorem dL_law_491 : decode code 491 = .ok (.iconst 2, 1) := by decide +kernel
theorem dL_law_492 : decode code 492 = .ok (.iadd, 1) := by decide +kernel
theorem dL_law_493 : decode code 493 = .ok (.iaload, 1) := by decide +kernel
theorem dL_law_494 : decode code 494 = .ok (.invokevirtual 74, 3) := by decide +kernel
theorem dL_law_497 : decode code 497 = .ok (.if_icmp .eq 213, 3) := by decide +kernel
theorem dL_law_500 : decode code 500 = .ok (.iconst 0, 1) := by decide +kernel
theorem dL_law_501 : decode code 501 = .ok (.ireturn, 1) := by decide +kernel
theorem dL_law_502 : decode code 502 = .ok (.aload_n 1, 1) := by decide +kernel
theorem dL_law_503 : decode code 503 = .ok (.aload_n 0, 1) := by decide +kernel
theorem dL_law_504 : decode code 504 = .ok (.iload_n 3, 1) := by decide +kernel
theorem dL_law_505 : decode code 505 = .ok (.iconst 1, 1) := by decide +kernel
theorem dL_law_506 : decode code 506 = .ok (.iadd, 1) := by decide +kernel
theorem dL_law_507 : decode code 507 = .ok (.iaload, 1) := by decide +kernel
theorem dL_law_508 : decode code 508 = .ok (.aload_n 0, 1) := by decide +kernel
theorem dL_law_509 : decode code 509 = .ok (.iload_n 3, 1) := by decide +kernel
theorem dL_law_510 : decode code 510 = .ok (.iconst 2, 1) := by decide +kernel
theorem dL_law_511 : decode code 511 = .ok (.iadd, 1) := by decide +kernel
theorem dL_law_512 : decode code 512 = .ok (.iaload, 1) := by decide +kernel
theorem dL_law_513 : decode code 513 = .ok (.aload_n 0, 1) := by decide +kernel
theorem dL_law_514 : decode code 514 = .ok (.iload_n 3, 1) := by decide +kernel
theorem dL_law_515 : decode code 515 = .ok (.iconst 3, 1) := by decide +kernel
theorem dL_law_516 : decode code 516 = .ok (.iadd, 1) := by decide +kernel
theorem dL_law_517 : decode code 517 = .ok (.iaload, 1) := by decide +kernel
theorem dL_law_518 : decode code 518 = .ok (.invokevirtual 75, 3) := by decide +kernel
theorem dL_law_521 : decode code 521 = .ok (.aload_n 2, 1) := by decide +kernel
theorem dL_law_522 : decode code 522 = .ok (.aload_n 0, 1) := by decide +kernel
theorem dL_law_523 : decode code 523 = .ok (.iload_n 3, 1) := by decide +kernel
theorem dL_law_524 : decode code 524 = .ok (.iconst 1, 1) := by decide +kernel
theorem dL_law_525 : decode code 525 = .ok (.iadd, 1) := by decide +kernel
theorem dL_law_526 : decode code 526 = .ok (.iaload, 1) := by decide +kernel
theorem dL_law_527 : decode code 527 = .ok (.aload_n 0, 1) := by decide +kernel
theorem dL_law_528 : decode code 528 = .ok (.iload_n 3, 1) := by decide +kernel
theorem dL_law_529 : decode code 529 = .ok (.iconst 2, 1) := by decide +kernel
theorem dL_law_530 : decode code 530 = .ok (.iadd, 1) := by decide +kernel
theorem dL_law_531 : decode code 531 = .ok (.iaload, 1) := by decide +kernel
theorem dL_law_532 : decode code 532 = .ok (.aload_n 0, 1) := by decide +kernel
theorem dL_law_533 : decode code 533 = .ok (.iload_n 3, 1) := by decide +kernel
theorem dL_law_534 : decode code 534 = .ok (.iconst 3, 1) := by decide +kernel
theorem dL_law_535 : decode code 535 = .ok (.iadd, 1) := by decide +kernel
theorem dL_law_536 : decode code 536 = .ok (.iaload, 1) := by decide +kernel
theorem dL_law_537 : decode code 537 = .ok (.invokevirtual 78, 3) := by decide +kernel
theorem dL_law_540 : decode code 540 = .ok (.if_icmp .eq 170, 3) := by decide +kernel
theorem dL_law_543 : decode code 543 = .ok (.iconst 0, 1) := by decide +kernel
theorem dL_law_544 : decode code 544 = .ok (.ireturn, 1) := by decide +kernel
theorem dL_law_545 : decode code 545 = .ok (.aload_n 1, 1) := by decide +kernel
theorem dL_law_546 : decode code 546 = .ok (.aload_n 0, 1) := by decide +kernel
theorem dL_law_547 : decode code 547 = .ok (.iload_n 3, 1) := by decide +kernel
theorem dL_law_548 : decode code 548 = .ok (.iconst 1, 1) := by decide +kernel
theorem dL_law_549 : decode code 549 = .ok (.iadd, 1) := by decide +kernel
theorem dL_law_550 : decode code 550 = .ok (.iaload, 1) := by decide +kernel
theorem dL_law_551 : decode code 551 = .ok (.aload_n 0, 1) := by decide +kernel
theorem dL_law_552 : decode code 552 = .ok (.iload_n 3, 1) := by decide +kernel
theorem dL_law_553 : decode code 553 = .ok (.iconst 2, 1) := by decide +kernel
theorem dL_law_554 : decode code 554 = .ok (.iadd, 1) := by decide +kernel
theorem dL_law_555 : decode code 555 = .ok (.iaload, 1) := by decide +kernel
theorem dL_law_556 : decode code 556 = .ok (.invokevirtual 79, 3) := by decide +kernel
theorem dL_law_559 : decode code 559 = .ok (.aload_n 2, 1) := by decide +kernel
theorem dL_law_560 : decode code 560 = .ok (.aload_n 0, 1) := by decide +kernel
theorem dL_law_561 : decode code 561 = .ok (.iload_n 3, 1) := by decide +kernel
theorem dL_law_562 : decode code 562 = .ok (.iconst 1, 1) := by decide +kernel
theorem dL_law_563 : decode code 563 = .ok (.iadd, 1) := by decide +kernel
theorem dL_law_564 : decode code 564 = .ok (.iaload, 1) := by decide +kernel
theorem dL_law_565 : decode code 565 = .ok (.aload_n 0, 1) := by decide +kernel
theorem dL_law_566 : decode code 566 = .ok (.iload_n 3, 1) := by decide +kernel
theorem dL_law_567 : decode code 567 = .ok (.iconst 2, 1) := by decide +kernel
theorem dL_law_568 : decode code 568 = .ok (.iadd, 1) := by decide +kernel
theorem dL_law_569 : decode code 569 = .ok (.iaload, 1) := by decide +kernel
theorem dL_law_570 : decode code 570 = .ok (.invokevirtual 82, 3) := by decide +kernel
theorem dL_law_573 : decode code 573 = .ok (.if_icmp .eq 137, 3) := by decide +kernel
theorem dL_law_576 : decode code 576 = .ok (.iconst 0, 1) := by decide +kernel
theorem dL_law_577 : decode code 577 = .ok (.ireturn, 1) := by decide +kernel
theorem dL_law_578 : decode code 578 = .ok (.aload_n 1, 1) := by decide +kernel
theorem dL_law_579 : decode code 579 = .ok (.aload_n 0, 1) := by decide +kernel
theorem dL_law_580 : decode code 580 = .ok (.iload_n 3, 1) := by decide +kernel
theorem dL_law_581 : decode code 581 = .ok (.iconst 1, 1) := by decide +kernel
theorem dL_law_582 : decode code 582 = .ok (.iadd, 1) := by decide +kernel
theorem dL_law_583 : decode code 583 = .ok (.iaload, 1) := by decide +kernel
theorem dL_law_584 : decode code 584 = .ok (.aload_n 0, 1) := by decide +kernel
theorem dL_law_585 : decode code 585 = .ok (.iload_n 3, 1) := by decide +kernel
theorem dL_law_586 : decode code 586 = .ok (.iconst 2, 1) := by decide +kernel
theorem dL_law_587 : decode code 587 = .ok (.iadd, 1) := by decide +kernel
theorem dL_law_588 : decode code 588 = .ok (.iaload, 1) := by decide +kernel
theorem dL_law_589 : decode code 589 = .ok (.aload_n 0, 1) := by decide +kernel
theorem dL_law_590 : decode code 590 = .ok (.iload_n 3, 1) := by decide +kernel
theorem dL_law_591 : decode code 591 = .ok (.iconst 3, 1) := by decide +kernel
theorem dL_law_592 : decode code 592 = .ok (.iadd, 1) := by decide +kernel
theorem dL_law_593 : decode code 593 = .ok (.iaload, 1) := by decide +kernel
theorem dL_law_594 : decode code 594 = .ok (.invokevirtual 83, 3) := by decide +kernel
theorem dL_law_597 : decode code 597 = .ok (.aload_n 2, 1) := by decide +kernel
theorem dL_law_598 : decode code 598 = .ok (.aload_n 0, 1) := by decide +kernel
theorem dL_law_599 : decode code 599 = .ok (.iload_n 3, 1) := by decide +kernel
theorem dL_law_600 : decode code 600 = .ok (.iconst 1, 1) := by decide +kernel
theorem dL_law_601 : decode code 601 = .ok (.iadd, 1) := by decide +kernel
theorem dL_law_602 : decode code 602 = .ok (.iaload, 1) := by decide +kernel
theorem dL_law_603 : decode code 603 = .ok (.aload_n 0, 1) := by decide +kernel
theorem dL_law_604 : decode code 604 = .ok (.iload_n 3, 1) := by decide +kernel
theorem dL_law_605 : decode code 605 = .ok (.iconst 2, 1) := by decide +kernel
theorem dL_law_606 : decode code 606 = .ok (.iadd, 1) := by decide +kernel
theorem dL_law_607 : decode code 607 = .ok (.iaload, 1) := by decide +kernel
theorem dL_law_608 : decode code 608 = .ok (.aload_n 0, 1) := by decide +kernel
theorem dL_law_609 : decode code 609 = .ok (.iload_n 3, 1) := by decide +kernel
theorem dL_law_610 : decode code 610 = .ok (.iconst 3, 1) := by decide +kernel
theorem dL_law_611 : decode code 611 = .ok (.iadd, 1) := by decide +kernel
theorem dL_law_612 : decode code 612 = .ok (.iaload, 1) := by decide +kernel
theorem dL_law_613 : decode code 613 = .ok (.invokevirtual 86, 3) := by decide +kernel
theorem dL_law_616 : decode code 616 = .ok (.if_icmp .eq 94, 3) := by decide +kernel
theorem dL_law_619 : decode code 619 = .ok (.iconst 0, 1) := by decide +kernel
theorem dL_law_620 : decode code 620 = .ok (.ireturn, 1) := by decide +kernel
theorem dL_law_621 : decode code 621 = .ok (.aload_n 1, 1) := by decide +kernel
theorem dL_law_622 : decode code 622 = .ok (.aload_n 0, 1) := by decide +kernel
theorem dL_law_623 : decode code 623 = .ok (.iload_n 3, 1) := by decide +kernel
theorem dL_law_624 : decode code 624 = .ok (.iconst 1, 1) := by decide +kernel
theorem dL_law_625 : decode code 625 = .ok (.iadd, 1) := by decide +kernel
theorem dL_law_626 : decode code 626 = .ok (.iaload, 1) := by decide +kernel
theorem dL_law_627 : decode code 627 = .ok (.invokevirtual 87, 3) := by decide +kernel
theorem dL_law_630 : decode code 630 = .ok (.aload_n 2, 1) := by decide +kernel
theorem dL_law_631 : decode code 631 = .ok (.aload_n 0, 1) := by decide +kernel
theorem dL_law_632 : decode code 632 = .ok (.iload_n 3, 1) := by decide +kernel
theorem dL_law_633 : decode code 633 = .ok (.iconst 1, 1) := by decide +kernel
theorem dL_law_634 : decode code 634 = .ok (.iadd, 1) := by decide +kernel
theorem dL_law_635 : decode code 635 = .ok (.iaload, 1) := by decide +kernel
theorem dL_law_636 : decode code 636 = .ok (.invokevirtual 90, 3) := by decide +kernel
theorem dL_law_639 : decode code 639 = .ok (.if_icmp .eq 71, 3) := by decide +kernel
theorem dL_law_642 : decode code 642 = .ok (.iconst 0, 1) := by decide +kernel
theorem dL_law_643 : decode code 643 = .ok (.ireturn, 1) := by decide +kernel
theorem dL_law_644 : decode code 644 = .ok (.aload_n 1, 1) := by decide +kernel
theorem dL_law_645 : decode code 645 = .ok (.aload_n 0, 1) := by decide +kernel
theorem dL_law_646 : decode code 646 = .ok (.iload_n 3, 1) := by decide +kernel
theorem dL_law_647 : decode code 647 = .ok (.iconst 1, 1) := by decide +kernel
theorem dL_law_648 : decode code 648 = .ok (.iadd, 1) := by decide +kernel
theorem dL_law_649 : decode code 649 = .ok (.iaload, 1) := by decide +kernel
theorem dL_law_650 : decode code 650 = .ok (.aload_n 0, 1) := by decide +kernel
theorem dL_law_651 : decode code 651 = .ok (.iload_n 3, 1) := by decide +kernel
theorem dL_law_652 : decode code 652 = .ok (.iconst 2, 1) := by decide +kernel
theorem dL_law_653 : decode code 653 = .ok (.iadd, 1) := by decide +kernel
theorem dL_law_654 : decode code 654 = .ok (.iaload, 1) := by decide +kernel
theorem dL_law_655 : decode code 655 = .ok (.aload_n 0, 1) := by decide +kernel
theorem dL_law_656 : decode code 656 = .ok (.iload_n 3, 1) := by decide +kernel
theorem dL_law_657 : decode code 657 = .ok (.iconst 3, 1) := by decide +kernel
theorem dL_law_658 : decode code 658 = .ok (.iadd, 1) := by decide +kernel
theorem dL_law_659 : decode code 659 = .ok (.iaload, 1) := by decide +kernel
theorem dL_law_660 : decode code 660 = .ok (.invokevirtual 91, 3) := by decide +kernel
theorem dL_law_663 : decode code 663 = .ok (.aload_n 2, 1) := by decide +kernel
theorem dL_law_664 : decode code 664 = .ok (.aload_n 0, 1) := by decide +kernel
theorem dL_law_665 : decode code 665 = .ok (.iload_n 3, 1) := by decide +kernel
theorem dL_law_666 : decode code 666 = .ok (.iconst 1, 1) := by decide +kernel
theorem dL_law_667 : decode code 667 = .ok (.iadd, 1) := by decide +kernel
theorem dL_law_668 : decode code 668 = .ok (.iaload, 1) := by decide +kernel
theorem dL_law_669 : decode code 669 = .ok (.aload_n 0, 1) := by decide +kernel
theorem dL_law_670 : decode code 670 = .ok (.iload_n 3, 1) := by decide +kernel
theorem dL_law_671 : decode code 671 = .ok (.iconst 2, 1) := by decide +kernel
theorem dL_law_672 : decode code 672 = .ok (.iadd, 1) := by decide +kernel
theorem dL_law_673 : decode code 673 = .ok (.iaload, 1) := by decide +kernel
theorem dL_law_674 : decode code 674 = .ok (.aload_n 0, 1) := by decide +kernel
theorem dL_law_675 : decode code 675 = .ok (.iload_n 3, 1) := by decide +kernel
theorem dL_law_676 : decode code 676 = .ok (.iconst 3, 1) := by decide +kernel
theorem dL_law_677 : decode code 677 = .ok (.iadd, 1) := by decide +kernel
theorem dL_law_678 : decode code 678 = .ok (.iaload, 1) := by decide +kernel
theorem dL_law_679 : decode code 679 = .ok (.invokevirtual 94, 3) := by decide +kernel
theorem dL_law_682 : decode code 682 = .ok (.if_icmp .eq 28, 3) := by decide +kernel
theorem dL_law_685 : decode code 685 = .ok (.iconst 0, 1) := by decide +kernel
theorem dL_law_686 : decode code 686 = .ok (.ireturn, 1) := by decide +kernel
theorem dL_law_687 : decode code 687 = .ok (.aload_n 1, 1) := by decide +kernel
theorem dL_law_688 : decode code 688 = .ok (.aload_n 0, 1) := by decide +kernel
theorem dL_law_689 : decode code 689 = .ok (.iload_n 3, 1) := by decide +kernel
theorem dL_law_690 : decode code 690 = .ok (.iconst 1, 1) := by decide +kernel
theorem dL_law_691 : decode code 691 = .ok (.iadd, 1) := by decide +kernel
theorem dL_law_692 : decode code 692 = .ok (.iaload, 1) := by decide +kernel
theorem dL_law_693 : decode code 693 = .ok (.invokevirtual 95, 3) := by decide +kernel
theorem dL_law_696 : decode code 696 = .ok (.aload_n 2, 1) := by decide +kernel
theorem dL_law_697 : decode code 697 = .ok (.aload_n 0, 1) := by decide +kernel
theorem dL_law_698 : decode code 698 = .ok (.iload_n 3, 1) := by decide +kernel
theorem dL_law_699 : decode code 699 = .ok (.iconst 1, 1) := by decide +kernel
theorem dL_law_700 : decode code 700 = .ok (.iadd, 1) := by decide +kernel
theorem dL_law_701 : decode code 701 = .ok (.iaload, 1) := by decide +kernel
theorem dL_law_702 : decode code 702 = .ok (.invokevirtual 98, 3) := by decide +kernel
theorem dL_law_705 : decode code 705 = .ok (.if_icmp .eq 5, 3) := by decide +kernel
theorem dL_law_708 : decode code 708 = .ok (.iconst 0, 1) := by decide +kernel
theorem dL_law_709 : decode code 709 = .ok (.ireturn, 1) := by decide +kernel
theorem dL_law_710 : decode code 710 = .ok (.iinc 3 5, 3) := by decide +kernel
theorem dL_law_713 : decode code 713 = .ok (.goto (-695), 3) := by decide +kernel
theorem dL_law_716 : decode code 716 = .ok (.iconst 1, 1) := by decide +kernel
theorem dL_law_717 : decode code 717 = .ok (.ireturn, 1) := by decide +kernel
end
section
/-! THE LOGIC J: one world for the whole run: cell number k >= 1 stands at the address base + (k - 1); number 0 is the script. -/
abbrev g_C : Type := (Nat × vp_A) ⊕ (Nat × List Value)
abbrev g_H : Type := (Nat → g_C) × Nat
abbrev g_M : Type := MethodName × ByteArray × Nat × Option FieldType × Option (Nat × (Nat → Int32))
def g_cv (ad : Nat → Nat) (v : Value) : Value := match v with
  | .ref k => .ref (ad k)
  | v => v
def g_ca (ad : Nat → Nat) (a : vp_A) : vp_A := (a.1, match a.2 with
  | .inr (.inr (.inr (.inr f))) => .inr (.inr (.inr (.inr (fun j => (f j).map ad))))
  | x => x)
def g_ce (cA : Nat → ClassId) (ad : Nat → Nat) (c : g_C) : va_E := match c with
  | .inl (k, a) => .inl (cA k, g_ca ad a)
  | .inr (ci, fs) => .inr (ci, fs.map (g_cv ad))
def g_ws (cA : Nat → ClassId) (ad : Nat → Nat) (h : g_H) : va_W := (List.range h.2).map (fun k => (ad (k + 1), g_ce cA ad (h.1 (k + 1))))
def g_up (h : g_H) (k : Nat) (c : g_C) : g_H := (fun j => if j = k then c else h.1 j, h.2)
def g_push (h : g_H) (c : g_C) : g_H := (fun j => if j = h.2 + 1 then c else h.1 j, h.2 + 1)
theorem g_up_s (h : g_H) (k : Nat) (c : g_C) : (g_up h k c).1 k = c := by simp [g_up]
theorem g_up_n (h : g_H) {k j : Nat} (c : g_C) (hj : j ≠ k) : (g_up h k c).1 j = h.1 j := by simp [g_up, hj]
theorem g_up_2 (h : g_H) (k : Nat) (c : g_C) : (g_up h k c).2 = h.2 := rfl
theorem g_push_s (h : g_H) (c : g_C) : (g_push h c).1 (h.2 + 1) = c := by simp [g_push]
theorem g_push_n (h : g_H) {j : Nat} (c : g_C) (hj : j ≠ h.2 + 1) : (g_push h c).1 j = h.1 j := by simp [g_push, hj]
theorem g_push_2 (h : g_H) (c : g_C) : (g_push h c).2 = h.2 + 1 := rfl
theorem g_ws_get (cA : Nat → ClassId) (ad : Nat → Nat) (h : g_H) {a : Nat} (h1 : 1 ≤ a) (h2 : a ≤ h.2) : (g_ws cA ad h)[a - 1]? = some (ad a, g_ce cA ad (h.1 a)) := by
  unfold g_ws
  rw [List.getElem?_map, List.getElem?_range (by omega)]
  simp only [Option.map_some]
  rw [Nat.sub_add_cancel h1]
theorem g_ws_set (cA : Nat → ClassId) (ad : Nat → Nat) (h : g_H) {a : Nat} (h1 : 1 ≤ a) (h2 : a ≤ h.2) (c : g_C) : (g_ws cA ad h).set (a - 1) (ad a, g_ce cA ad c) = g_ws cA ad (g_up h a c) := by
  apply List.ext_getElem?
  intro i
  unfold g_ws
  rw [List.getElem?_set, List.length_map, List.length_range, List.getElem?_map, List.getElem?_map]
  by_cases hi : i < h.2
  · rw [List.getElem?_range hi, List.getElem?_range (show i < (g_up h a c).2 from hi)]
    by_cases e : a - 1 = i
    · subst e
      have e2 : a - 1 + 1 = a := by omega
      simp [g_up, e2]
      omega
    · have e2 : ¬ i + 1 = a := by omega
      simp [g_up, e, e2]
  · have e : ¬ a - 1 = i := by omega
    have n1 : (List.range h.2)[i]? = none := by simp; omega
    have n2 : (List.range (g_up h a c).2)[i]? = none := by show (List.range h.2)[i]? = none; exact n1
    rw [n1, n2, if_neg e]
    rfl
theorem g_ws_push (cA : Nat → ClassId) (ad : Nat → Nat) (h : g_H) (c : g_C) : g_ws cA ad (g_push h c) = g_ws cA ad h ++ [(ad (h.2 + 1), g_ce cA ad c)] := by
  unfold g_ws
  rw [g_push_2, List.range_succ, List.map_append]
  congr 1
  · apply List.map_congr_left
    intro k hk
    have : k < h.2 := List.mem_range.mp hk
    rw [g_push_n h c (by omega)]
  · simp [g_push]
theorem g_D {cA : Nat → ClassId} {ad : Nat → Nat} {base : Nat} (hAd : ∀ k, ad (k + 1) = base + k) (h : g_H) : va_D (fun q => base ≤ q) (g_ws cA ad h) := by
  have key : ∀ (k : Nat) (q : Nat × va_E), (g_ws cA ad h)[k]? = some q → q.1 = base + k := by
    intro k q hk
    unfold g_ws at hk
    rw [List.getElem?_map, Option.map_eq_some_iff] at hk
    obtain ⟨a, ha, rfl⟩ := hk
    rw [List.getElem?_eq_some_iff] at ha
    obtain ⟨h1, h2⟩ := ha
    simp at h2
    show ad (a + 1) = _
    rw [hAd, h2]
  refine ⟨fun i j p q hi hj e => ?_, fun k q hk => ?_⟩
  · have a1 := key i p hi
    have a2 := key j q hj
    omega
  · have a1 := key k q hk
    show base ≤ q.1
    omega
def g_tys (cA : Nat → ClassId) : List (ClassId × FieldType) := [(cA 0, .int), (cA 1, .char), (cA 2, .object "LivedLinks$Links")]
def g_K (D : va_G) (cA : Nat → ClassId) (U : State) : Prop := va_K D classes (g_tys cA) U ∧ va_AO "LivedLinks$Links" U ∧ ∀ q ∈ lw_nest, va_Nw (.methodLinkNest q.1 q.2.1 q.2.2.1 q.2.2.2) U
theorem g_K.moved {D : va_G} {cA : Nat → ClassId} {s U : State} (hW : s.WarmedH U.vm) (h : g_K D cA s) : g_K D cA U := ⟨va_K.moved hW.alike h.1, va_AO.moved hW.alike h.2.1, fun q hq => va_Nw.warmM hW (h.2.2 q hq)⟩
theorem g_K.same {D : va_G} {cA : Nat → ClassId} {u U : State} (e : u.vm = U.vm) (h : g_K D cA u) : g_K D cA U := ⟨va_K.moved (e ▸ Vm.Alike.refl u.vm) h.1, va_AO.moved (e ▸ Vm.Alike.refl u.vm) h.2.1, fun q hq => va_Nw.same rfl e (h.2.2 q hq)⟩
def g_T (D : va_G) (cA : Nat → ClassId) (ad : Nat → Nat) (h : g_H) (H : Heap) : Prop := va_P D classes (g_ws cA ad h) H
/-! the locals: a list by places; 'none' is a place of which nothing is said -/
def g_ll (ad : Nat → Nat) : Nat → List (Option Value) → List (Nat × Value)
  | _, [] => []
  | i, none :: r => g_ll ad (i + 1) r
  | i, some v :: r => (i, g_cv ad v) :: g_ll ad (i + 1) r
theorem g_ll_mem (ad : Nat → Nat) (L : List (Option Value)) : ∀ (i : Nat) (q : Nat × Value), q ∈ g_ll ad i L ↔ ∃ (k : Nat) (v : Value), L[k]? = some (some v) ∧ q = (i + k, g_cv ad v) := by
  induction L with
  | nil => intro i q; simp [g_ll]
  | cons x r ih =>
    intro i q
    cases x with
    | none =>
      rw [g_ll, ih]
      constructor
      · rintro ⟨k, v, h1, h2⟩
        exact ⟨k + 1, v, by simpa using h1, by rw [h2]; congr 1; omega⟩
      · rintro ⟨k, v, h1, h2⟩
        cases k with
        | zero => simp at h1
        | succ k => exact ⟨k, v, by simpa using h1, by rw [h2]; congr 1; omega⟩
    | some w =>
      rw [g_ll, List.mem_cons, ih]
      constructor
      · rintro (h | ⟨k, v, h1, h2⟩)
        · exact ⟨0, w, by simp, by rw [h]; rfl⟩
        · exact ⟨k + 1, v, by simpa using h1, by rw [h2]; congr 1; omega⟩
      · rintro ⟨k, v, h1, h2⟩
        cases k with
        | zero =>
          left
          simp at h1
          rw [h2, h1]; rfl
        | succ k => exact Or.inr ⟨k, v, by simpa using h1, by rw [h2]; congr 1; omega⟩
def g_LS (ad : Nat → Nat) (L : List (Option Value)) (ls : Array Slot) (nL : Nat) : Prop := lv_has ls nL (g_ll ad 0 L)
theorem g_at {ad : Nat → Nat} {L : List (Option Value)} {ls : Array Slot} {nL i : Nat} {v : Value} (h : g_LS ad L ls nL) (hv : L[i]? = some (some v)) : ls[i]? = some (.val (g_cv ad v)) :=
  h.2.2 (i, g_cv ad v) ((g_ll_mem ad L 0 _).mpr ⟨i, v, hv, by simp⟩)
theorem lv_less {ls : Array Slot} {nL : Nat} {l l' : List (Nat × Value)} (h : lv_has ls nL l) (hs : ∀ q ∈ l', q ∈ l) : lv_has ls nL l' := ⟨h.1, h.2.1, fun q hq => h.2.2 q (hs q hq)⟩
def g_cl (L : List (Option Value)) (i : Nat) : List (Option Value) := match i with
  | 0 => L
  | j + 1 => match L[j]? with
    | some (some (.long _)) => L.set j none
    | some (some (.double _)) => L.set j none
    | _ => L
def g_st1 (L : List (Option Value)) (i : Nat) (v : Value) : List (Option Value) := (g_cl L i).set i (some v)
def g_st2 (L : List (Option Value)) (i : Nat) (v : Value) : List (Option Value) := ((g_cl L i).set i (some v)).set (i + 1) none
theorem g_cat (ad : Nat → Nat) (v : Value) : (g_cv ad v).category = v.category := by cases v <;> rfl
theorem g_cl_in {L : List (Option Value)} {i k : Nat} {v : Value} (h : (g_cl L i)[k]? = some (some v)) : L[k]? = some (some v) ∧ ¬ (k + 1 = i ∧ v.category = 2) := by
  unfold g_cl at h
  have hset : ∀ j : Nat, (L.set j none)[k]? = some (some v) → L[k]? = some (some v) ∧ k ≠ j := by
    intro j hj
    by_cases e : j = k
    · subst e
      rw [List.getElem?_set] at hj
      simp at hj
    · rw [List.getElem?_set_ne e] at hj
      exact ⟨hj, fun q => e q.symm⟩
  cases i with
  | zero => exact ⟨h, by omega⟩
  | succ j =>
    simp only at h
    split at h
    · obtain ⟨h1, h2⟩ := hset j h
      exact ⟨h1, by omega⟩
    · obtain ⟨h1, h2⟩ := hset j h
      exact ⟨h1, by omega⟩
    · rename_i n1 n2
      refine ⟨h, ?_⟩
      rintro ⟨e1, e2⟩
      have e3 : k = j := by omega
      subst e3
      cases v with
      | long x => exact n1 x h
      | double x => exact n2 x h
      | _ => simp [Value.category] at e2
theorem g_st1_ls {ad : Nat → Nat} {L : List (Option Value)} {ls : Array Slot} {nL i : Nat} {v : Value} (h : lv_has ls nL ((i, g_cv ad v) :: (g_ll ad 0 L).filter (fun q => !(q.1 == i) && !(q.1 + 1 == i && q.2.category == 2)))) : g_LS ad (g_st1 L i v) ls nL := by
  refine lv_less h fun q hq => ?_
  obtain ⟨k, w, h1, rfl⟩ := (g_ll_mem ad _ 0 q).mp hq
  rw [Nat.zero_add]
  unfold g_st1 at h1
  by_cases e : i = k
  · subst e
    rw [List.getElem?_set] at h1
    simp at h1
    rw [h1.2]
    exact List.mem_cons_self
  · rw [List.getElem?_set_ne e] at h1
    obtain ⟨h2, h3⟩ := g_cl_in h1
    refine List.mem_cons_of_mem _ (List.mem_filter.mpr ⟨(g_ll_mem ad L 0 _).mpr ⟨k, w, h2, by simp⟩, ?_⟩)
    have e' : ¬ k = i := fun q => e q.symm
    simp only [g_cat]
    simp [e']
    exact (Classical.em (k + 1 = i)).elim (fun a => Or.inr fun b => h3 ⟨a, b⟩) Or.inl
theorem g_st2_ls {ad : Nat → Nat} {L : List (Option Value)} {ls : Array Slot} {nL i : Nat} {v : Value} (h : lv_has ls nL ((i, g_cv ad v) :: (g_ll ad 0 L).filter (fun q => !(q.1 == i) && (!(q.1 == i + 1) && !(q.1 + 1 == i && q.2.category == 2))))) : g_LS ad (g_st2 L i v) ls nL := by
  refine lv_less h fun q hq => ?_
  obtain ⟨k, w, h1, rfl⟩ := (g_ll_mem ad _ 0 q).mp hq
  rw [Nat.zero_add]
  unfold g_st2 at h1
  by_cases e2 : i + 1 = k
  · subst e2
    rw [List.getElem?_set] at h1
    simp at h1
  · rw [List.getElem?_set_ne e2] at h1
    by_cases e : i = k
    · subst e
      rw [List.getElem?_set] at h1
      simp at h1
      rw [h1.2]
      exact List.mem_cons_self
    · rw [List.getElem?_set_ne e] at h1
      obtain ⟨h2, h3⟩ := g_cl_in h1
      refine List.mem_cons_of_mem _ (List.mem_filter.mpr ⟨(g_ll_mem ad L 0 _).mpr ⟨k, w, h2, by simp⟩, ?_⟩)
      have e' : ¬ k = i := fun q => e q.symm
      have e2' : ¬ k = i + 1 := fun q => e2 q.symm
      simp only [g_cat]
      simp [e', e2']
      exact (Classical.em (k + 1 = i)).elim (fun a => Or.inr fun b => h3 ⟨a, b⟩) Or.inl
/-! the judgement -/
def g_rm (d mc ms : Nat) : Room := { frames := d, cells := mc, slots := ms, locals := 36 * d }
def g_X (M : g_M) (p : Program) (s : State) (m : MethodId) (args : Array Value) (meth : Method) (c : Code) (ad : Nat → Nat) (base : Nat) : Prop :=
  p.tables.exec = Jvm.exec ∧ c.code = M.2.1 ∧ c.maxLocals = M.2.2.1 ∧ s.vm.findClass M.1.cls = some m.cls ∧ (∀ w ∈ lw_gd, w.before args s = true) ∧ (M.1.name = "<init>" → meth.name = "<init>") ∧
  (∀ sc, M.2.2.2.2 = some sc → va_X (ad 0) sc.1 sc.2 s s.heap ∧ ad 0 < s.heap.size ∧ ¬ base ≤ ad 0)
def g_ret (M : g_M) (pc : Nat) (r : Option Value) (st : List Value) : Prop :=
  (r = none ∧ st = [] ∧ M.2.2.2.1 = none ∧ decode M.2.1 pc = .ok (.return_, 1)) ∨
  (∃ x : Int32, r = some (.int x) ∧ st = [.int x] ∧ (M.2.2.2.1 = some .int ∨ (M.2.2.2.1 = some .boolean ∧ (x = 0 ∨ x = 1))) ∧ decode M.2.1 pc = .ok (.ireturn, 1)) ∨
  (∃ x : Int64, r = some (.long x) ∧ st = [.long x] ∧ M.2.2.2.1 = some .long ∧ decode M.2.1 pc = .ok (.lreturn, 1))
def J (M : g_M) (d mc ms u v pc : Nat) (L : List (Option Value)) (S : List Value) (h : g_H) (Q : Option Value → g_H → Prop) : Prop :=
  ∀ (l : Launch) (D : va_G) (cA : Nat → ClassId) (ad : Nat → Nat) (base : Nat), (∀ k, ad (k + 1) = base + k) →
  ∀ (p : Program) (e : Env) (s : State) (m : MethodId) (args : Array Value) (below : List Frame) (meth : Method) (c : Code) (Z : State → Prop) (H : Heap) (locs : List Loc) (ls : Array Slot),
    g_X M p s m args meth c ad base → base ≤ s.heap.size → s.heap.size + u = base + h.2 → g_K D cA s →
    (∀ (r : Option Value) (st : List Value) (h' : g_H) (pc' : Nat) (H' : Heap) (locs' : List Loc) (ls' : Array Slot), Q r h' → g_ret M pc' r st → g_T D cA ad h' H' → va_S (fun q => base ≤ q) s.heap H' locs' → s.heap.size + mc = base + h'.2 → W p l e (g_rm d mc ms) s m args below meth c H' locs' mc ms Z (F0 m pc' ls' st)) →
    g_T D cA ad h H → va_S (fun q => base ≤ q) s.heap H locs → g_LS ad L ls M.2.2.1 →
    W p l e (g_rm d mc ms) s m args below meth c H locs u v Z (F0 m pc ls (S.map (g_cv ad)))
def g_w (M : g_M) : List Cond := Cond.code M.1 M.2.1 M.2.2.1 M.2.2.2.1 :: lw_gd
def g_Qc (D : va_G) (cA : Nat → ClassId) (ad : Nat → Nat) (base n' : Nat) (Q : Option Value → g_H → Prop) : Array Value → State → Outcome → State → Prop := fun _ st oc t =>
  (∃ (r : Option Value) (h' : g_H), oc = .returned (r.map (g_cv ad)) ∧ Q r h' ∧ h'.2 = n' ∧ g_T D cA ad h' t.heap ∧ g_K D cA t) ∧ va_F (fun q => base ≤ q) st t
def g_Pc (D : va_G) (cA : Nat → ClassId) (ad : Nat → Nat) (base : Nat) (args : List Value) (h : g_H) : Array Value → State → Prop := va_Pc (args.map (g_cv ad)) (fun U => U.heap.size = base + h.2 ∧ g_T D cA ad h U.heap ∧ g_K D cA U)
def MJ (M : g_M) (d mc ms : Nat) (args : List Value) (h : g_H) (Q : Option Value → g_H → Prop) : Prop :=
  ∀ (l : Launch) (D : va_G) (cA : Nat → ClassId) (ad : Nat → Nat) (base : Nat), (∀ k, ad (k + 1) = base + k) →
    Met l M.1 (g_w M) (g_rm d mc ms) (g_Pc D cA ad base args h) (g_Qc D cA ad base (h.2 + mc) Q) mc ms (fun q => base ≤ q)
theorem g_blind {D : va_G} {cA : Nat → ClassId} {ad : Nat → Nat} {base : Nat} {args : List Value} {h : g_H} : FrameBlind (g_Pc D cA ad base args h) := fun a U g mk q => by
  obtain ⟨q0, q1, q2, q3⟩ := q
  exact ⟨q0, q1, q2, g_K.same (u := U) (U := U.calling g mk a) rfl q3⟩
/-! the beginning of a method -/
def g_al : List Value → List (Option Value)
  | [] => []
  | v :: r => if v.category = 2 then some v :: none :: g_al r else some v :: g_al r
theorem g_al_in (ad : Nat → Nat) (vs : List Value) (pad : List (Option Value)) (hp : ∀ (k : Nat) (v : Value), pad[k]? ≠ some (some v)) : ∀ (i : Nat) (q : Nat × Value), q ∈ g_ll ad i (g_al vs ++ pad) → q ∈ lv_args i (vs.map (g_cv ad)) := by
  induction vs with
  | nil =>
    intro i q hq
    obtain ⟨k, v, h1, -⟩ := (g_ll_mem ad _ i q).mp hq
    exact absurd (by simpa [g_al] using h1) (hp k v)
  | cons x r ih =>
    intro i q hq
    rw [List.map_cons, lv_args, g_cat]
    unfold g_al at hq
    by_cases hc : x.category = 2
    · rw [if_pos hc] at hq ⊢
      rw [List.cons_append, List.cons_append, g_ll, g_ll] at hq
      rcases List.mem_cons.mp hq with e | e
      · rw [e]; exact List.mem_cons_self
      · exact List.mem_cons_of_mem _ (ih _ q e)
    · rw [if_neg hc] at hq ⊢
      rw [List.cons_append, g_ll] at hq
      rcases List.mem_cons.mp hq with e | e
      · rw [e]; exact List.mem_cons_self
      · exact List.mem_cons_of_mem _ (ih _ q e)
theorem g_sl_len (ad : Nat → Nat) (vs : List Value) : (lg_sl (vs.map (g_cv ad))).length = (g_al vs).length := by
  induction vs with
  | nil => rfl
  | cons x r ih =>
    have e : lg_sl ((x :: r).map (g_cv ad)) = (if (g_cv ad x).category = 2 then [.val (g_cv ad x), .second] else [.val (g_cv ad x)]) ++ lg_sl (r.map (g_cv ad)) := by simp [lg_sl]
    rw [e, List.length_append, ih, g_cat, g_al]
    by_cases hc : x.category = 2
    · rw [if_pos hc, if_pos hc]; simp; omega
    · rw [if_neg hc, if_neg hc]; simp; omega
theorem g_cv_ints (ad : Nat → Nat) {M : g_M} {pc : Nat} {r : Option Value} {st : List Value} (h : g_ret M pc r st) : r.map (g_cv ad) = r := by
  rcases h with ⟨rfl, -⟩ | ⟨x, rfl, -⟩ | ⟨x, rfl, -⟩ <;> rfl
theorem MJ_of_J {M : g_M} {d mc ms : Nat} {args : List Value} {h : g_H} {Q : Option Value → g_H → Prop} {L : List (Option Value)} (hy : plainName M.1.cls = true) (hsc : M.2.2.2.2 = none)
    (hn : (g_al args).length ≤ M.2.2.1) (hL : g_al args ++ List.replicate (M.2.2.1 - (g_al args).length) none = L) (k : J M d mc ms 0 0 0 L [] h Q) : MJ M d mc ms args h Q := by
  intro l D cA ad base hAd
  refine Met.ofW (cc := M.2.1) (maxL := M.2.2.1) (ret := M.2.2.2.1) (ws' := lw_gd) hy rfl ?_
  intro p e s m av below meth c s₁ B hml hv
  obtain ⟨rfl, hB, hT, hK⟩ := hv
  have hts := atoms_spec (ws := g_w M) B.pre
  have hown : s.vm.findClass M.1.cls = some m.cls := findClass_of_methodNamed B.named
  have hlocks := B.notSynchronized
  have hname : meth.name = M.1.name := (name_of_methodNamed B.named B.method).1
  have hX : g_X M p s m (args.map (g_cv ad)).toArray meth c ad base := ⟨B.exec, B.bytes, hml, hown, fun w hw => hts w (List.mem_cons_of_mem _ hw), fun e => hname.trans e, fun sc e => by rw [hsc] at e; cases e⟩
  rw [lg_entry_eq]
  have hl0 := lv_entry (args.map (g_cv ad)) (n := M.2.2.1) (by rw [g_sl_len]; exact hn)
  have hl : g_LS ad L _ M.2.2.1 := lv_less hl0 (fun q hq => by
    rw [← hL] at hq
    exact g_al_in ad args _ (fun k v e => by
      have := List.mem_of_getElem? e
      simp at this) 0 q hq)
  refine k l D cA ad base hAd p e s m _ below meth c _ s.heap [] _ hX (by omega) hB hK ?_ hT va_S.rf hl
  intro r st h' pc' H' locs' ls' hQ hr hT' hS' hE'
  have fin : ∀ (t : State), t.heap = H' → s.WarmedH t.vm → g_Qc D cA ad base (h.2 + mc) Q (args.map (g_cv ad)).toArray s (.returned r) t := fun t ht hW =>
    ⟨⟨r, h', by rw [g_cv_ints ad hr], hQ, by omega, by rw [ht]; exact hT', hK.moved hW⟩, hS'.F ht⟩
  rcases hr with ⟨rfl, rfl, e1, e2⟩ | ⟨x, rfl, rfl, e1, e2⟩ | ⟨x, rfl, rfl, e1, e2⟩
  · exact W.vret B.exec B.bytes (B.returns.trans e1) fin hS'.2.2 e2 hlocks
  · rcases e1 with e1 | ⟨e1, e3⟩
    · exact W.iret B.exec B.bytes (B.returns.trans e1) fin hS'.2.2 e2 hlocks
    · exact W.zret B.exec B.bytes (B.returns.trans e1) (by rcases e3 with rfl | rfl <;> decide) fin hS'.2.2 e2 hlocks
  · exact W.lret B.exec B.bytes (B.returns.trans e1) fin hS'.2.2 e2 hlocks
section GJ
variable {M M' : g_M} {d mc ms u v pc d' mc' ms' u' v' : Nat} {L L' : List (Option Value)} {S : List Value} {h : g_H} {Q : Option Value → g_H → Prop}

theorem J_iconst {n : Int} {x : Int32} (hd : decode M.2.1 pc = .ok (.iconst n, 1)) (hv : Int32.ofInt n = x) (kk : J M d mc ms u v (pc + 1) L (.int x :: S) h Q) : J M d mc ms u v pc L S h Q :=
  fun l D cA ad base hAd p e s m args below meth c Z H locs ls hX hB hE hK hZ hT hS hL => lv_iconst hX.1 hX.2.1 hd hv (kk l D cA ad base hAd p e s m args below meth c Z H locs ls hX hB hE hK hZ hT hS hL)
theorem J_bipush {n : Int} {x : Int32} (hd : decode M.2.1 pc = .ok (.bipush n, 2)) (hv : (Int8.ofInt n).toInt32 = x) (kk : J M d mc ms u v (pc + 2) L (.int x :: S) h Q) : J M d mc ms u v pc L S h Q :=
  fun l D cA ad base hAd p e s m args below meth c Z H locs ls hX hB hE hK hZ hT hS hL => lv_bipush hX.1 hX.2.1 hd hv (kk l D cA ad base hAd p e s m args below meth c Z H locs ls hX hB hE hK hZ hT hS hL)
theorem J_sipush {n : Int} {x : Int32} (hd : decode M.2.1 pc = .ok (.sipush n, 3)) (hv : (Int16.ofInt n).toInt32 = x) (kk : J M d mc ms u v (pc + 3) L (.int x :: S) h Q) : J M d mc ms u v pc L S h Q :=
  fun l D cA ad base hAd p e s m args below meth c Z H locs ls hX hB hE hK hZ hT hS hL => lv_sipush hX.1 hX.2.1 hd hv (kk l D cA ad base hAd p e s m args below meth c Z H locs ls hX hB hE hK hZ hT hS hL)
theorem J_lconst {n : Fin 2} {x : Int64} (hd : decode M.2.1 pc = .ok (.lconst n, 1)) (hv : Int64.ofNat (n : Nat) = x) (kk : J M d mc ms u v (pc + 1) L (.long x :: S) h Q) : J M d mc ms u v pc L S h Q :=
  fun l D cA ad base hAd p e s m args below meth c Z H locs ls hX hB hE hK hZ hT hS hL => lv_lconst hX.1 hX.2.1 hd hv (kk l D cA ad base hAd p e s m args below meth c Z H locs ls hX hB hE hK hZ hT hS hL)
theorem J_ldc2 {n : Nat} {x : Int64} (hd : decode M.2.1 pc = .ok (.ldc2_w n, 3)) (hw : Cond.constantLong M.1.cls n x ∈ lw_gd) (kk : J M d mc ms u v (pc + 3) L (.long x :: S) h Q) : J M d mc ms u v pc L S h Q :=
  fun l D cA ad base hAd p e s m args below meth c Z H locs ls hX hB hE hK hZ hT hS hL => lv_ldc2 hX.1 hX.2.1 hX.2.2.2.1 (hX.2.2.2.2.1 _ hw) hd (kk l D cA ad base hAd p e s m args below meth c Z H locs ls hX hB hE hK hZ hT hS hL)
theorem J_iload_n {k : Fin 4} {x : Int32} (hd : decode M.2.1 pc = .ok (.iload_n k, 1)) (hl : L[(k : Nat)]? = some (some (.int x))) (kk : J M d mc ms u v (pc + 1) L (.int x :: S) h Q) : J M d mc ms u v pc L S h Q :=
  fun l D cA ad base hAd p e s m args below meth c Z H locs ls hX hB hE hK hZ hT hS hL => lv_iload_n hX.1 hX.2.1 hd rfl (g_at hL hl) (kk l D cA ad base hAd p e s m args below meth c Z H locs ls hX hB hE hK hZ hT hS hL)
theorem J_iload {k : Nat} {x : Int32} (hd : decode M.2.1 pc = .ok (.iload k, 2)) (hl : L[k]? = some (some (.int x))) (kk : J M d mc ms u v (pc + 2) L (.int x :: S) h Q) : J M d mc ms u v pc L S h Q :=
  fun l D cA ad base hAd p e s m args below meth c Z H locs ls hX hB hE hK hZ hT hS hL => lv_iload hX.1 hX.2.1 hd (g_at hL hl) (kk l D cA ad base hAd p e s m args below meth c Z H locs ls hX hB hE hK hZ hT hS hL)
theorem J_lload_n {k : Fin 4} {x : Int64} (hd : decode M.2.1 pc = .ok (.lload_n k, 1)) (hl : L[(k : Nat)]? = some (some (.long x))) (kk : J M d mc ms u v (pc + 1) L (.long x :: S) h Q) : J M d mc ms u v pc L S h Q :=
  fun l D cA ad base hAd p e s m args below meth c Z H locs ls hX hB hE hK hZ hT hS hL => lv_lload_n hX.1 hX.2.1 hd rfl (g_at hL hl) (kk l D cA ad base hAd p e s m args below meth c Z H locs ls hX hB hE hK hZ hT hS hL)
theorem J_lload {k : Nat} {x : Int64} (hd : decode M.2.1 pc = .ok (.lload k, 2)) (hl : L[k]? = some (some (.long x))) (kk : J M d mc ms u v (pc + 2) L (.long x :: S) h Q) : J M d mc ms u v pc L S h Q :=
  fun l D cA ad base hAd p e s m args below meth c Z H locs ls hX hB hE hK hZ hT hS hL => lv_lload hX.1 hX.2.1 hd (g_at hL hl) (kk l D cA ad base hAd p e s m args below meth c Z H locs ls hX hB hE hK hZ hT hS hL)
theorem J_aload_n {k : Fin 4} {x : Nat} (hd : decode M.2.1 pc = .ok (.aload_n k, 1)) (hl : L[(k : Nat)]? = some (some (.ref x))) (kk : J M d mc ms u v (pc + 1) L (.ref x :: S) h Q) : J M d mc ms u v pc L S h Q :=
  fun l D cA ad base hAd p e s m args below meth c Z H locs ls hX hB hE hK hZ hT hS hL => lv_aload_n hX.1 hX.2.1 hd rfl (g_at hL hl) (kk l D cA ad base hAd p e s m args below meth c Z H locs ls hX hB hE hK hZ hT hS hL)
theorem J_aload {k : Nat} {x : Nat} (hd : decode M.2.1 pc = .ok (.aload k, 2)) (hl : L[k]? = some (some (.ref x))) (kk : J M d mc ms u v (pc + 2) L (.ref x :: S) h Q) : J M d mc ms u v pc L S h Q :=
  fun l D cA ad base hAd p e s m args below meth c Z H locs ls hX hB hE hK hZ hT hS hL => lv_aload hX.1 hX.2.1 hd (g_at hL hl) (kk l D cA ad base hAd p e s m args below meth c Z H locs ls hX hB hE hK hZ hT hS hL)
theorem J_aload_nN {k : Fin 4} (hd : decode M.2.1 pc = .ok (.aload_n k, 1)) (hl : L[(k : Nat)]? = some (some .null)) (kk : J M d mc ms u v (pc + 1) L (.null :: S) h Q) : J M d mc ms u v pc L S h Q :=
  fun l D cA ad base hAd p e s m args below meth c Z H locs ls hX hB hE hK hZ hT hS hL => lv_aload_nN hX.1 hX.2.1 hd rfl (g_at hL hl) (kk l D cA ad base hAd p e s m args below meth c Z H locs ls hX hB hE hK hZ hT hS hL)
theorem J_istore_n {k : Fin 4} {x : Int32} {L' : List (Option Value)} (hd : decode M.2.1 pc = .ok (.istore_n k, 1)) (hn : (k : Nat) < M.2.2.1) (hl : g_st1 L (k : Nat) (.int x) = L') (kk : J M d mc ms u v (pc + 1) L' S h Q) : J M d mc ms u v pc L (.int x :: S) h Q :=
  fun l D cA ad base hAd p e s m args below meth c Z H locs ls hX hB hE hK hZ hT hS hL => by subst hl; exact lv_istore_n hX.1 hX.2.1 hd rfl hL hn rfl (fun ls hL => kk l D cA ad base hAd p e s m args below meth c Z H locs ls hX hB hE hK hZ hT hS (g_st1_ls (v := .int x) hL))
theorem J_istore {k : Nat} {x : Int32} {L' : List (Option Value)} (hd : decode M.2.1 pc = .ok (.istore k, 2)) (hn : k < M.2.2.1) (hl : g_st1 L k (.int x) = L') (kk : J M d mc ms u v (pc + 2) L' S h Q) : J M d mc ms u v pc L (.int x :: S) h Q :=
  fun l D cA ad base hAd p e s m args below meth c Z H locs ls hX hB hE hK hZ hT hS hL => by subst hl; exact lv_istore hX.1 hX.2.1 hd hL hn rfl (fun ls hL => kk l D cA ad base hAd p e s m args below meth c Z H locs ls hX hB hE hK hZ hT hS (g_st1_ls (v := .int x) hL))
theorem J_astore_n {k : Fin 4} {x : Nat} {L' : List (Option Value)} (hd : decode M.2.1 pc = .ok (.astore_n k, 1)) (hn : (k : Nat) < M.2.2.1) (hl : g_st1 L (k : Nat) (.ref x) = L') (kk : J M d mc ms u v (pc + 1) L' S h Q) : J M d mc ms u v pc L (.ref x :: S) h Q :=
  fun l D cA ad base hAd p e s m args below meth c Z H locs ls hX hB hE hK hZ hT hS hL => by subst hl; exact lv_astore_n hX.1 hX.2.1 hd rfl hL hn rfl (fun ls hL => kk l D cA ad base hAd p e s m args below meth c Z H locs ls hX hB hE hK hZ hT hS (g_st1_ls (v := .ref x) hL))
theorem J_astore {k : Nat} {x : Nat} {L' : List (Option Value)} (hd : decode M.2.1 pc = .ok (.astore k, 2)) (hn : k < M.2.2.1) (hl : g_st1 L k (.ref x) = L') (kk : J M d mc ms u v (pc + 2) L' S h Q) : J M d mc ms u v pc L (.ref x :: S) h Q :=
  fun l D cA ad base hAd p e s m args below meth c Z H locs ls hX hB hE hK hZ hT hS hL => by subst hl; exact lv_astore hX.1 hX.2.1 hd hL hn rfl (fun ls hL => kk l D cA ad base hAd p e s m args below meth c Z H locs ls hX hB hE hK hZ hT hS (g_st1_ls (v := .ref x) hL))
theorem J_astore_nN {k : Fin 4} {L' : List (Option Value)} (hd : decode M.2.1 pc = .ok (.astore_n k, 1)) (hn : (k : Nat) < M.2.2.1) (hl : g_st1 L (k : Nat) .null = L') (kk : J M d mc ms u v (pc + 1) L' S h Q) : J M d mc ms u v pc L (.null :: S) h Q :=
  fun l D cA ad base hAd p e s m args below meth c Z H locs ls hX hB hE hK hZ hT hS hL => by subst hl; exact lv_astore_nN hX.1 hX.2.1 hd rfl hL hn rfl (fun ls hL => kk l D cA ad base hAd p e s m args below meth c Z H locs ls hX hB hE hK hZ hT hS (g_st1_ls (v := .null) hL))
theorem J_lstore_n {k : Fin 4} {x : Int64} {L' : List (Option Value)} (hd : decode M.2.1 pc = .ok (.lstore_n k, 1)) (hn : (k : Nat) + 1 < M.2.2.1) (hl : g_st2 L (k : Nat) (.long x) = L') (kk : J M d mc ms u v (pc + 1) L' S h Q) : J M d mc ms u v pc L (.long x :: S) h Q :=
  fun l D cA ad base hAd p e s m args below meth c Z H locs ls hX hB hE hK hZ hT hS hL => by subst hl; exact lv_lstore_n hX.1 hX.2.1 hd rfl hL hn rfl (fun ls hL => kk l D cA ad base hAd p e s m args below meth c Z H locs ls hX hB hE hK hZ hT hS (g_st2_ls (v := .long x) hL))
theorem J_lstore {k : Nat} {x : Int64} {L' : List (Option Value)} (hd : decode M.2.1 pc = .ok (.lstore k, 2)) (hn : k + 1 < M.2.2.1) (hl : g_st2 L k (.long x) = L') (kk : J M d mc ms u v (pc + 2) L' S h Q) : J M d mc ms u v pc L (.long x :: S) h Q :=
  fun l D cA ad base hAd p e s m args below meth c Z H locs ls hX hB hE hK hZ hT hS hL => by subst hl; exact lv_lstore hX.1 hX.2.1 hd hL hn rfl (fun ls hL => kk l D cA ad base hAd p e s m args below meth c Z H locs ls hX hB hE hK hZ hT hS (g_st2_ls (v := .long x) hL))
theorem J_iinc {i : Nat} {n : Int} {x y : Int32} {L' : List (Option Value)} (hd : decode M.2.1 pc = .ok (.iinc i n, 3)) (hx : L[i]? = some (some (.int x))) (hv : x + Int32.ofInt n = y) (hn : i < M.2.2.1) (hl : g_st1 L i (.int y) = L') (kk : J M d mc ms u v (pc + 3) L' S h Q) : J M d mc ms u v pc L S h Q := by
  intro l D cA ad base hAd p e s m args below meth c Z H locs ls hX hB hE hK hZ hT hS hL
  subst hl
  obtain ⟨k, hk⟩ := List.getElem?_of_mem ((g_ll_mem ad L 0 (i, .int x)).mpr ⟨i, .int x, hx, by simp [g_cv]⟩)
  exact lv_iinc hX.1 hX.2.1 hd hL hk hv hn rfl (fun ls hL => kk l D cA ad base hAd p e s m args below meth c Z H locs ls hX hB hE hK hZ hT hS (g_st1_ls (v := .int y) hL))
theorem J_iadd {x y : Int32} (hd : decode M.2.1 pc = .ok (.iadd, 1)) (kk : J M d mc ms u v (pc + 1) L (.int (x + y) :: S) h Q) : J M d mc ms u v pc L (.int y :: .int x :: S) h Q :=
  fun l D cA ad base hAd p e s m args below meth c Z H locs ls hX hB hE hK hZ hT hS hL => lv_iadd hX.1 hX.2.1 hd (kk l D cA ad base hAd p e s m args below meth c Z H locs ls hX hB hE hK hZ hT hS hL)
theorem J_isub {x y : Int32} (hd : decode M.2.1 pc = .ok (.isub, 1)) (kk : J M d mc ms u v (pc + 1) L (.int (x - y) :: S) h Q) : J M d mc ms u v pc L (.int y :: .int x :: S) h Q :=
  fun l D cA ad base hAd p e s m args below meth c Z H locs ls hX hB hE hK hZ hT hS hL => lv_isub hX.1 hX.2.1 hd (kk l D cA ad base hAd p e s m args below meth c Z H locs ls hX hB hE hK hZ hT hS hL)
theorem J_imul {x y : Int32} (hd : decode M.2.1 pc = .ok (.imul, 1)) (kk : J M d mc ms u v (pc + 1) L (.int (x * y) :: S) h Q) : J M d mc ms u v pc L (.int y :: .int x :: S) h Q :=
  fun l D cA ad base hAd p e s m args below meth c Z H locs ls hX hB hE hK hZ hT hS hL => lv_imul hX.1 hX.2.1 hd (kk l D cA ad base hAd p e s m args below meth c Z H locs ls hX hB hE hK hZ hT hS hL)
theorem J_iand {x y : Int32} (hd : decode M.2.1 pc = .ok (.iand, 1)) (kk : J M d mc ms u v (pc + 1) L (.int (x &&& y) :: S) h Q) : J M d mc ms u v pc L (.int y :: .int x :: S) h Q :=
  fun l D cA ad base hAd p e s m args below meth c Z H locs ls hX hB hE hK hZ hT hS hL => lv_iand hX.1 hX.2.1 hd (kk l D cA ad base hAd p e s m args below meth c Z H locs ls hX hB hE hK hZ hT hS hL)
theorem J_ior {x y : Int32} (hd : decode M.2.1 pc = .ok (.ior, 1)) (kk : J M d mc ms u v (pc + 1) L (.int (x ||| y) :: S) h Q) : J M d mc ms u v pc L (.int y :: .int x :: S) h Q :=
  fun l D cA ad base hAd p e s m args below meth c Z H locs ls hX hB hE hK hZ hT hS hL => lv_ior hX.1 hX.2.1 hd (kk l D cA ad base hAd p e s m args below meth c Z H locs ls hX hB hE hK hZ hT hS hL)
theorem J_ixor {x y : Int32} (hd : decode M.2.1 pc = .ok (.ixor, 1)) (kk : J M d mc ms u v (pc + 1) L (.int (x ^^^ y) :: S) h Q) : J M d mc ms u v pc L (.int y :: .int x :: S) h Q :=
  fun l D cA ad base hAd p e s m args below meth c Z H locs ls hX hB hE hK hZ hT hS hL => lv_ixor hX.1 hX.2.1 hd (kk l D cA ad base hAd p e s m args below meth c Z H locs ls hX hB hE hK hZ hT hS hL)
theorem J_ladd {x y : Int64} (hd : decode M.2.1 pc = .ok (.ladd, 1)) (kk : J M d mc ms u v (pc + 1) L (.long (x + y) :: S) h Q) : J M d mc ms u v pc L (.long y :: .long x :: S) h Q :=
  fun l D cA ad base hAd p e s m args below meth c Z H locs ls hX hB hE hK hZ hT hS hL => lv_ladd hX.1 hX.2.1 hd (kk l D cA ad base hAd p e s m args below meth c Z H locs ls hX hB hE hK hZ hT hS hL)
theorem J_lsub {x y : Int64} (hd : decode M.2.1 pc = .ok (.lsub, 1)) (kk : J M d mc ms u v (pc + 1) L (.long (x - y) :: S) h Q) : J M d mc ms u v pc L (.long y :: .long x :: S) h Q :=
  fun l D cA ad base hAd p e s m args below meth c Z H locs ls hX hB hE hK hZ hT hS hL => lv_lsub hX.1 hX.2.1 hd (kk l D cA ad base hAd p e s m args below meth c Z H locs ls hX hB hE hK hZ hT hS hL)
theorem J_land {x y : Int64} (hd : decode M.2.1 pc = .ok (.land, 1)) (kk : J M d mc ms u v (pc + 1) L (.long (x &&& y) :: S) h Q) : J M d mc ms u v pc L (.long y :: .long x :: S) h Q :=
  fun l D cA ad base hAd p e s m args below meth c Z H locs ls hX hB hE hK hZ hT hS hL => lv_land hX.1 hX.2.1 hd (kk l D cA ad base hAd p e s m args below meth c Z H locs ls hX hB hE hK hZ hT hS hL)
theorem J_lor {x y : Int64} (hd : decode M.2.1 pc = .ok (.lor, 1)) (kk : J M d mc ms u v (pc + 1) L (.long (x ||| y) :: S) h Q) : J M d mc ms u v pc L (.long y :: .long x :: S) h Q :=
  fun l D cA ad base hAd p e s m args below meth c Z H locs ls hX hB hE hK hZ hT hS hL => lv_lor hX.1 hX.2.1 hd (kk l D cA ad base hAd p e s m args below meth c Z H locs ls hX hB hE hK hZ hT hS hL)
theorem J_lxor {x y : Int64} (hd : decode M.2.1 pc = .ok (.lxor, 1)) (kk : J M d mc ms u v (pc + 1) L (.long (x ^^^ y) :: S) h Q) : J M d mc ms u v pc L (.long y :: .long x :: S) h Q :=
  fun l D cA ad base hAd p e s m args below meth c Z H locs ls hX hB hE hK hZ hT hS hL => lv_lxor hX.1 hX.2.1 hd (kk l D cA ad base hAd p e s m args below meth c Z H locs ls hX hB hE hK hZ hT hS hL)
theorem J_ishl {x y : Int32} (hd : decode M.2.1 pc = .ok (.ishl, 1)) (kk : J M d mc ms u v (pc + 1) L (.int (x <<< (y &&& 31)) :: S) h Q) : J M d mc ms u v pc L (.int y :: .int x :: S) h Q :=
  fun l D cA ad base hAd p e s m args below meth c Z H locs ls hX hB hE hK hZ hT hS hL => lv_ishl hX.1 hX.2.1 hd (kk l D cA ad base hAd p e s m args below meth c Z H locs ls hX hB hE hK hZ hT hS hL)
theorem J_ishr {x y : Int32} (hd : decode M.2.1 pc = .ok (.ishr, 1)) (kk : J M d mc ms u v (pc + 1) L (.int (x >>> (y &&& 31)) :: S) h Q) : J M d mc ms u v pc L (.int y :: .int x :: S) h Q :=
  fun l D cA ad base hAd p e s m args below meth c Z H locs ls hX hB hE hK hZ hT hS hL => lv_ishr hX.1 hX.2.1 hd (kk l D cA ad base hAd p e s m args below meth c Z H locs ls hX hB hE hK hZ hT hS hL)
theorem J_lshl {x : Int64} {y : Int32} (hd : decode M.2.1 pc = .ok (.lshl, 1)) (kk : J M d mc ms u v (pc + 1) L (.long (x <<< (y.toInt64 &&& 63)) :: S) h Q) : J M d mc ms u v pc L (.int y :: .long x :: S) h Q :=
  fun l D cA ad base hAd p e s m args below meth c Z H locs ls hX hB hE hK hZ hT hS hL => lv_lshl hX.1 hX.2.1 hd rfl (kk l D cA ad base hAd p e s m args below meth c Z H locs ls hX hB hE hK hZ hT hS hL)
theorem J_lshr {x : Int64} {y : Int32} (hd : decode M.2.1 pc = .ok (.lshr, 1)) (kk : J M d mc ms u v (pc + 1) L (.long (x >>> (y.toInt64 &&& 63)) :: S) h Q) : J M d mc ms u v pc L (.int y :: .long x :: S) h Q :=
  fun l D cA ad base hAd p e s m args below meth c Z H locs ls hX hB hE hK hZ hT hS hL => lv_lshr hX.1 hX.2.1 hd rfl (kk l D cA ad base hAd p e s m args below meth c Z H locs ls hX hB hE hK hZ hT hS hL)
theorem J_ineg {x : Int32} (hd : decode M.2.1 pc = .ok (.ineg, 1)) (kk : J M d mc ms u v (pc + 1) L (.int (-x) :: S) h Q) : J M d mc ms u v pc L (.int x :: S) h Q :=
  fun l D cA ad base hAd p e s m args below meth c Z H locs ls hX hB hE hK hZ hT hS hL => lv_ineg hX.1 hX.2.1 hd (kk l D cA ad base hAd p e s m args below meth c Z H locs ls hX hB hE hK hZ hT hS hL)
theorem J_irem {x y : Int32} (hd : decode M.2.1 pc = .ok (.irem, 1)) (hne : ¬ y = 0) (kk : J M d mc ms u v (pc + 1) L (.int (x - x / y * y) :: S) h Q) : J M d mc ms u v pc L (.int y :: .int x :: S) h Q :=
  fun l D cA ad base hAd p e s m args below meth c Z H locs ls hX hB hE hK hZ hT hS hL => lv_irem hX.1 hX.2.1 hd hne (kk l D cA ad base hAd p e s m args below meth c Z H locs ls hX hB hE hK hZ hT hS hL)
theorem J_i2l {x : Int32} (hd : decode M.2.1 pc = .ok (.i2l, 1)) (kk : J M d mc ms u v (pc + 1) L (.long x.toInt64 :: S) h Q) : J M d mc ms u v pc L (.int x :: S) h Q :=
  fun l D cA ad base hAd p e s m args below meth c Z H locs ls hX hB hE hK hZ hT hS hL => lv_i2l hX.1 hX.2.1 hd rfl (kk l D cA ad base hAd p e s m args below meth c Z H locs ls hX hB hE hK hZ hT hS hL)
theorem J_i2c {x : Int32} (hd : decode M.2.1 pc = .ok (.i2c, 1)) (kk : J M d mc ms u v (pc + 1) L (.int (x.toUInt32 % 65536).toInt32 :: S) h Q) : J M d mc ms u v pc L (.int x :: S) h Q :=
  fun l D cA ad base hAd p e s m args below meth c Z H locs ls hX hB hE hK hZ hT hS hL => lv_i2c hX.1 hX.2.1 hd rfl (kk l D cA ad base hAd p e s m args below meth c Z H locs ls hX hB hE hK hZ hT hS hL)
theorem J_lcmp {x y : Int64} (hd : decode M.2.1 pc = .ok (.lcmp, 1)) (kk : J M d mc ms u v (pc + 1) L (.int (lg_cmp x y) :: S) h Q) : J M d mc ms u v pc L (.long y :: .long x :: S) h Q :=
  fun l D cA ad base hAd p e s m args below meth c Z H locs ls hX hB hE hK hZ hT hS hL => W.lcmp hX.1 hX.2.1 hd (kk l D cA ad base hAd p e s m args below meth c Z H locs ls hX hB hE hK hZ hT hS hL)
theorem J_dup {x : Value} (hd : decode M.2.1 pc = .ok (.dup, 1)) (hc : x.category = 1) (kk : J M d mc ms u v (pc + 1) L (x :: x :: S) h Q) : J M d mc ms u v pc L (x :: S) h Q :=
  fun l D cA ad base hAd p e s m args below meth c Z H locs ls hX hB hE hK hZ hT hS hL => lv_dup hX.1 hX.2.1 hd ((g_cat ad x).trans hc) (kk l D cA ad base hAd p e s m args below meth c Z H locs ls hX hB hE hK hZ hT hS hL)
theorem J_dup2 {x y : Value} (hd : decode M.2.1 pc = .ok (.dup2, 1)) (hc : x.category = 1) (hc2 : y.category = 1) (kk : J M d mc ms u v (pc + 1) L (x :: y :: x :: y :: S) h Q) : J M d mc ms u v pc L (x :: y :: S) h Q :=
  fun l D cA ad base hAd p e s m args below meth c Z H locs ls hX hB hE hK hZ hT hS hL => lv_dup2_11 hX.1 hX.2.1 hd ((g_cat ad x).trans hc) ((g_cat ad y).trans hc2) (kk l D cA ad base hAd p e s m args below meth c Z H locs ls hX hB hE hK hZ hT hS hL)
theorem J_if_eq {x : Int32} {off : Int} {tgt : Nat} (hd : decode M.2.1 pc = .ok (.ifCond .eq off, 3)) (ht : (pc : Int) + off = (tgt : Int)) (kt : x = 0 → J M d mc ms u v tgt L S h Q) (kf : ¬ (x = 0) → J M d mc ms u v (pc + 3) L S h Q) : J M d mc ms u v pc L (.int x :: S) h Q :=
  fun l D cA ad base hAd p e s m args below meth c Z H locs ls hX hB hE hK hZ hT hS hL => lv_if_eq hX.1 hX.2.1 hd ht (fun q => kt q l D cA ad base hAd p e s m args below meth c Z H locs ls hX hB hE hK hZ hT hS hL) (fun q => kf q l D cA ad base hAd p e s m args below meth c Z H locs ls hX hB hE hK hZ hT hS hL)
theorem J_if_ne {x : Int32} {off : Int} {tgt : Nat} (hd : decode M.2.1 pc = .ok (.ifCond .ne off, 3)) (ht : (pc : Int) + off = (tgt : Int)) (kt : ¬ x = 0 → J M d mc ms u v tgt L S h Q) (kf : x = 0 → J M d mc ms u v (pc + 3) L S h Q) : J M d mc ms u v pc L (.int x :: S) h Q :=
  fun l D cA ad base hAd p e s m args below meth c Z H locs ls hX hB hE hK hZ hT hS hL => lv_if_ne hX.1 hX.2.1 hd ht (fun q => kt q l D cA ad base hAd p e s m args below meth c Z H locs ls hX hB hE hK hZ hT hS hL) (fun q => kf q l D cA ad base hAd p e s m args below meth c Z H locs ls hX hB hE hK hZ hT hS hL)
theorem J_if_lt {x : Int32} {off : Int} {tgt : Nat} (hd : decode M.2.1 pc = .ok (.ifCond .lt off, 3)) (ht : (pc : Int) + off = (tgt : Int)) (kt : x < 0 → J M d mc ms u v tgt L S h Q) (kf : ¬ (x < 0) → J M d mc ms u v (pc + 3) L S h Q) : J M d mc ms u v pc L (.int x :: S) h Q :=
  fun l D cA ad base hAd p e s m args below meth c Z H locs ls hX hB hE hK hZ hT hS hL => lv_if_lt hX.1 hX.2.1 hd ht (fun q => kt q l D cA ad base hAd p e s m args below meth c Z H locs ls hX hB hE hK hZ hT hS hL) (fun q => kf q l D cA ad base hAd p e s m args below meth c Z H locs ls hX hB hE hK hZ hT hS hL)
theorem J_if_ge {x : Int32} {off : Int} {tgt : Nat} (hd : decode M.2.1 pc = .ok (.ifCond .ge off, 3)) (ht : (pc : Int) + off = (tgt : Int)) (kt : 0 ≤ x → J M d mc ms u v tgt L S h Q) (kf : ¬ (0 ≤ x) → J M d mc ms u v (pc + 3) L S h Q) : J M d mc ms u v pc L (.int x :: S) h Q :=
  fun l D cA ad base hAd p e s m args below meth c Z H locs ls hX hB hE hK hZ hT hS hL => lv_if_ge hX.1 hX.2.1 hd ht (fun q => kt q l D cA ad base hAd p e s m args below meth c Z H locs ls hX hB hE hK hZ hT hS hL) (fun q => kf q l D cA ad base hAd p e s m args below meth c Z H locs ls hX hB hE hK hZ hT hS hL)
theorem J_if_gt {x : Int32} {off : Int} {tgt : Nat} (hd : decode M.2.1 pc = .ok (.ifCond .gt off, 3)) (ht : (pc : Int) + off = (tgt : Int)) (kt : 0 < x → J M d mc ms u v tgt L S h Q) (kf : ¬ (0 < x) → J M d mc ms u v (pc + 3) L S h Q) : J M d mc ms u v pc L (.int x :: S) h Q :=
  fun l D cA ad base hAd p e s m args below meth c Z H locs ls hX hB hE hK hZ hT hS hL => lv_if_gt hX.1 hX.2.1 hd ht (fun q => kt q l D cA ad base hAd p e s m args below meth c Z H locs ls hX hB hE hK hZ hT hS hL) (fun q => kf q l D cA ad base hAd p e s m args below meth c Z H locs ls hX hB hE hK hZ hT hS hL)
theorem J_if_le {x : Int32} {off : Int} {tgt : Nat} (hd : decode M.2.1 pc = .ok (.ifCond .le off, 3)) (ht : (pc : Int) + off = (tgt : Int)) (kt : x ≤ 0 → J M d mc ms u v tgt L S h Q) (kf : ¬ (x ≤ 0) → J M d mc ms u v (pc + 3) L S h Q) : J M d mc ms u v pc L (.int x :: S) h Q :=
  fun l D cA ad base hAd p e s m args below meth c Z H locs ls hX hB hE hK hZ hT hS hL => lv_if_le hX.1 hX.2.1 hd ht (fun q => kt q l D cA ad base hAd p e s m args below meth c Z H locs ls hX hB hE hK hZ hT hS hL) (fun q => kf q l D cA ad base hAd p e s m args below meth c Z H locs ls hX hB hE hK hZ hT hS hL)
theorem J_icmp_eq {x y : Int32} {off : Int} {tgt : Nat} (hd : decode M.2.1 pc = .ok (.if_icmp .eq off, 3)) (ht : (pc : Int) + off = (tgt : Int)) (kt : x = y → J M d mc ms u v tgt L S h Q) (kf : ¬ (x = y) → J M d mc ms u v (pc + 3) L S h Q) : J M d mc ms u v pc L (.int y :: .int x :: S) h Q :=
  fun l D cA ad base hAd p e s m args below meth c Z H locs ls hX hB hE hK hZ hT hS hL => lv_icmp_eq hX.1 hX.2.1 hd ht (fun q => kt q l D cA ad base hAd p e s m args below meth c Z H locs ls hX hB hE hK hZ hT hS hL) (fun q => kf q l D cA ad base hAd p e s m args below meth c Z H locs ls hX hB hE hK hZ hT hS hL)
theorem J_icmp_ne {x y : Int32} {off : Int} {tgt : Nat} (hd : decode M.2.1 pc = .ok (.if_icmp .ne off, 3)) (ht : (pc : Int) + off = (tgt : Int)) (kt : ¬ x = y → J M d mc ms u v tgt L S h Q) (kf : x = y → J M d mc ms u v (pc + 3) L S h Q) : J M d mc ms u v pc L (.int y :: .int x :: S) h Q :=
  fun l D cA ad base hAd p e s m args below meth c Z H locs ls hX hB hE hK hZ hT hS hL => lv_icmp_ne hX.1 hX.2.1 hd ht (fun q => kt q l D cA ad base hAd p e s m args below meth c Z H locs ls hX hB hE hK hZ hT hS hL) (fun q => kf q l D cA ad base hAd p e s m args below meth c Z H locs ls hX hB hE hK hZ hT hS hL)
theorem J_icmp_lt {x y : Int32} {off : Int} {tgt : Nat} (hd : decode M.2.1 pc = .ok (.if_icmp .lt off, 3)) (ht : (pc : Int) + off = (tgt : Int)) (kt : x < y → J M d mc ms u v tgt L S h Q) (kf : ¬ (x < y) → J M d mc ms u v (pc + 3) L S h Q) : J M d mc ms u v pc L (.int y :: .int x :: S) h Q :=
  fun l D cA ad base hAd p e s m args below meth c Z H locs ls hX hB hE hK hZ hT hS hL => lv_icmp_lt hX.1 hX.2.1 hd ht (fun q => kt q l D cA ad base hAd p e s m args below meth c Z H locs ls hX hB hE hK hZ hT hS hL) (fun q => kf q l D cA ad base hAd p e s m args below meth c Z H locs ls hX hB hE hK hZ hT hS hL)
theorem J_icmp_ge {x y : Int32} {off : Int} {tgt : Nat} (hd : decode M.2.1 pc = .ok (.if_icmp .ge off, 3)) (ht : (pc : Int) + off = (tgt : Int)) (kt : y ≤ x → J M d mc ms u v tgt L S h Q) (kf : ¬ (y ≤ x) → J M d mc ms u v (pc + 3) L S h Q) : J M d mc ms u v pc L (.int y :: .int x :: S) h Q :=
  fun l D cA ad base hAd p e s m args below meth c Z H locs ls hX hB hE hK hZ hT hS hL => lv_icmp_ge hX.1 hX.2.1 hd ht (fun q => kt q l D cA ad base hAd p e s m args below meth c Z H locs ls hX hB hE hK hZ hT hS hL) (fun q => kf q l D cA ad base hAd p e s m args below meth c Z H locs ls hX hB hE hK hZ hT hS hL)
theorem J_icmp_gt {x y : Int32} {off : Int} {tgt : Nat} (hd : decode M.2.1 pc = .ok (.if_icmp .gt off, 3)) (ht : (pc : Int) + off = (tgt : Int)) (kt : y < x → J M d mc ms u v tgt L S h Q) (kf : ¬ (y < x) → J M d mc ms u v (pc + 3) L S h Q) : J M d mc ms u v pc L (.int y :: .int x :: S) h Q :=
  fun l D cA ad base hAd p e s m args below meth c Z H locs ls hX hB hE hK hZ hT hS hL => lv_icmp_gt hX.1 hX.2.1 hd ht (fun q => kt q l D cA ad base hAd p e s m args below meth c Z H locs ls hX hB hE hK hZ hT hS hL) (fun q => kf q l D cA ad base hAd p e s m args below meth c Z H locs ls hX hB hE hK hZ hT hS hL)
theorem J_icmp_le {x y : Int32} {off : Int} {tgt : Nat} (hd : decode M.2.1 pc = .ok (.if_icmp .le off, 3)) (ht : (pc : Int) + off = (tgt : Int)) (kt : x ≤ y → J M d mc ms u v tgt L S h Q) (kf : ¬ (x ≤ y) → J M d mc ms u v (pc + 3) L S h Q) : J M d mc ms u v pc L (.int y :: .int x :: S) h Q :=
  fun l D cA ad base hAd p e s m args below meth c Z H locs ls hX hB hE hK hZ hT hS hL => lv_icmp_le hX.1 hX.2.1 hd ht (fun q => kt q l D cA ad base hAd p e s m args below meth c Z H locs ls hX hB hE hK hZ hT hS hL) (fun q => kf q l D cA ad base hAd p e s m args below meth c Z H locs ls hX hB hE hK hZ hT hS hL)
theorem J_goto {off : Int} {tgt : Nat} (hd : decode M.2.1 pc = .ok (.goto off, 3)) (ht : (pc : Int) + off = (tgt : Int)) (kk : J M d mc ms u v tgt L S h Q) : J M d mc ms u v pc L S h Q :=
  fun l D cA ad base hAd p e s m args below meth c Z H locs ls hX hB hE hK hZ hT hS hL => lv_goto hX.1 hX.2.1 hd ht (kk l D cA ad base hAd p e s m args below meth c Z H locs ls hX hB hE hK hZ hT hS hL)
theorem J_ifnull {x : Nat} {off : Int} (hd : decode M.2.1 pc = .ok (.ifnull off, 3)) (kk : J M d mc ms u v (pc + 3) L S h Q) : J M d mc ms u v pc L (.ref x :: S) h Q :=
  fun l D cA ad base hAd p e s m args below meth c Z H locs ls hX hB hE hK hZ hT hS hL => lv_ifnull hX.1 hX.2.1 hd (kk l D cA ad base hAd p e s m args below meth c Z H locs ls hX hB hE hK hZ hT hS hL)
theorem J_tsOut {dflt lo hi : Int} {offs : Array Int} {len : Nat} {x : Int32} {tgt : Nat} (hd : decode M.2.1 pc = .ok (.tableswitch dflt lo hi offs, len)) (h0 : x.toInt < lo ∨ hi < x.toInt) (ht : (pc : Int) + dflt = (tgt : Int)) (kk : J M d mc ms u v tgt L S h Q) : J M d mc ms u v pc L (.int x :: S) h Q :=
  fun l D cA ad base hAd p e s m args below meth c Z H locs ls hX hB hE hK hZ hT hS hL => lv_tableOut hX.1 hX.2.1 hd h0 ht (kk l D cA ad base hAd p e s m args below meth c Z H locs ls hX hB hE hK hZ hT hS hL)
theorem J_tsIn {dflt lo hi : Int} {offs : Array Int} {len : Nat} {x : Int32} {off : Int} {tgt : Nat} (hd : decode M.2.1 pc = .ok (.tableswitch dflt lo hi offs, len)) (h1 : ¬ x.toInt < lo) (h2 : ¬ hi < x.toInt) (ho : offs[(x.toInt - lo).toNat]? = some off) (ht : (pc : Int) + off = (tgt : Int)) (kk : J M d mc ms u v tgt L S h Q) : J M d mc ms u v pc L (.int x :: S) h Q :=
  fun l D cA ad base hAd p e s m args below meth c Z H locs ls hX hB hE hK hZ hT hS hL => lv_tableIn hX.1 hX.2.1 hd h1 h2 ho ht (kk l D cA ad base hAd p e s m args below meth c Z H locs ls hX hB hE hK hZ hT hS hL)
theorem J_drop (is : List Nat) {L' : List (Option Value)} (hl : is.foldl (fun (L : List (Option Value)) (i : Nat) => L.set i none) L = L') (kk : J M d mc ms u v pc L' S h Q) : J M d mc ms u v pc L S h Q := by
  intro l D cA ad base hAd p e s m args below meth c Z H locs ls hX hB hE hK hZ hT hS hL
  refine kk l D cA ad base hAd p e s m args below meth c Z H locs ls hX hB hE hK hZ hT hS ?_
  subst hl
  have key : ∀ (is : List Nat) (L : List (Option Value)), g_LS ad L ls M.2.2.1 → g_LS ad (is.foldl (fun (L : List (Option Value)) (i : Nat) => L.set i none) L) ls M.2.2.1 := by
    intro is
    induction is with
    | nil => intro L hL; exact hL
    | cons i r ih =>
      intro L hL
      refine ih (L.set i none) (lv_less hL fun q hq => ?_)
      obtain ⟨k, w, h1, rfl⟩ := (g_ll_mem ad _ 0 q).mp hq
      refine (g_ll_mem ad L 0 _).mpr ⟨k, w, ?_, rfl⟩
      by_cases e : i = k
      · subst e
        rw [List.getElem?_set] at h1
        simp at h1
      · rw [List.getElem?_set_ne e] at h1
        exact h1
  exact key is L hL
theorem J_mono {Q' : Option Value → g_H → Prop} (hq : ∀ r h, Q' r h → Q r h) (kk : J M d mc ms u v pc L S h Q') : J M d mc ms u v pc L S h Q :=
  fun l D cA ad base hAd p e s m args below meth c Z H locs ls hX hB hE hK hZ hT hS hL => kk l D cA ad base hAd p e s m args below meth c Z H locs ls hX hB hE hK (fun r st h' pc' H' locs' ls' q => hZ r st h' pc' H' locs' ls' (hq r h' q)) hT hS hL
theorem J_iret {x : Int32} (hd : decode M.2.1 pc = .ok (.ireturn, 1)) (hr : M.2.2.2.1 = some .int) (hu : u = mc ∧ v ≤ ms) (hQ : Q (some (.int x)) h) : J M d mc ms u v pc L [.int x] h Q :=
  fun l D cA ad base hAd p e s m args below meth c Z H locs ls hX hB hE hK hZ hT hS hL => W.widen (Nat.le_of_eq hu.1) hu.2 (hZ (some (.int x)) [.int x] h pc H locs ls hQ (Or.inr (Or.inl ⟨x, rfl, rfl, Or.inl hr, hd⟩)) hT hS (hu.1 ▸ hE))
theorem J_zret {x : Int32} (hd : decode M.2.1 pc = .ok (.ireturn, 1)) (hr : M.2.2.2.1 = some .boolean) (hz : x = 0 ∨ x = 1) (hu : u = mc ∧ v ≤ ms) (hQ : Q (some (.int x)) h) : J M d mc ms u v pc L [.int x] h Q :=
  fun l D cA ad base hAd p e s m args below meth c Z H locs ls hX hB hE hK hZ hT hS hL => W.widen (Nat.le_of_eq hu.1) hu.2 (hZ (some (.int x)) [.int x] h pc H locs ls hQ (Or.inr (Or.inl ⟨x, rfl, rfl, Or.inr ⟨hr, hz⟩, hd⟩)) hT hS (hu.1 ▸ hE))
theorem J_lret {x : Int64} (hd : decode M.2.1 pc = .ok (.lreturn, 1)) (hr : M.2.2.2.1 = some .long) (hu : u = mc ∧ v ≤ ms) (hQ : Q (some (.long x)) h) : J M d mc ms u v pc L [.long x] h Q :=
  fun l D cA ad base hAd p e s m args below meth c Z H locs ls hX hB hE hK hZ hT hS hL => W.widen (Nat.le_of_eq hu.1) hu.2 (hZ (some (.long x)) [.long x] h pc H locs ls hQ (Or.inr (Or.inr ⟨x, rfl, rfl, hr, hd⟩)) hT hS (hu.1 ▸ hE))
theorem J_vret (hd : decode M.2.1 pc = .ok (.return_, 1)) (hr : M.2.2.2.1 = none) (hu : u = mc ∧ v ≤ ms) (hQ : Q none h) : J M d mc ms u v pc L [] h Q :=
  fun l D cA ad base hAd p e s m args below meth c Z H locs ls hX hB hE hK hZ hT hS hL => W.widen (Nat.le_of_eq hu.1) hu.2 (hZ none [] h pc H locs ls hQ (Or.inl ⟨rfl, rfl, hr, hd⟩) hT hS (hu.1 ▸ hE))

/-- a class of the run, by its number: its row in the table, its words, its fields' types -/
def g_cls (ci : Nat) (C : String) (T : u_T) (N : Nat) (ty : Nat → FieldType) : Prop := classes[ci]? = some (C, T, N) ∧ (∀ w ∈ u_ws C T N, w ∈ lw_gd) ∧ (∀ k, k < N → parseFieldDescriptor (T k).2.2.1 = some (ty k)) ∧ (∀ a, a < N → ∀ b, b < N → a ≠ b → (T a).2.1 ≠ (T b).2.1)
theorem J_get {ci idx a k : Nat} {C : String} {T : u_T} {N : Nat} {ty : Nat → FieldType} {fs : List Value} {x : Value} (hd : decode M.2.1 pc = .ok (.getfield idx, 3)) (hc : g_cls ci C T N ty) (hw : Cond.fieldLink M.1.cls idx (T k).1 (T k).2.1 (T k).2.2.1 ∈ lw_gd) (hk : k < N) (hcell : h.1 a = .inr (ci, fs)) (ha : 1 ≤ a ∧ a ≤ h.2) (hv : fs[k]? = some x) (kk : J M d mc ms u v (pc + 3) L (x :: S) h Q) : J M d mc ms u v pc L (.ref a :: S) h Q :=
  fun l D cA ad base hAd p e' s m args below meth c Z H locs ls hX hB hE hK hZ hT hS hL => va_get (ci := ci) (D := D) (fs := fs.map (g_cv ad)) (v := g_cv ad x) hX.1 hX.2.1 hX.2.2.2.2.1 hc.2.1 hX.2.2.2.1 hK.1 hT (a - 1) (by rw [g_ws_get cA ad h ha.1 ha.2, hcell]; rfl) hc.1 k hk (hX.2.2.2.2.1 _ hw) (fun _ q => q) (by rw [List.getElem?_map, hv]; rfl) hd (kk l D cA ad base hAd p e' s m args below meth c Z H locs ls hX hB hE hK hZ hT hS hL)
theorem J_put {ci idx a k : Nat} {C : String} {T : u_T} {N : Nat} {ty : Nat → FieldType} {fs fs' : List Value} {x : Value} (hd : decode M.2.1 pc = .ok (.putfield idx, 3)) (hc : g_cls ci C T N ty) (hw : Cond.fieldLink M.1.cls idx (T k).1 (T k).2.1 (T k).2.2.1 ∈ lw_gd) (hk : k < N) (hfin : (T k).2.2.2 = false) (hcell : h.1 a = .inr (ci, fs)) (ha : 1 ≤ a ∧ a ≤ h.2) (hl : k < fs.length) (hn : ∀ ad, narrow (ty k) (g_cv ad x) = g_cv ad x ∧ fits (ty k) (g_cv ad x) = true) (hf : fs.set k x = fs') (kk : J M d mc ms u v (pc + 3) L S (g_up h a (.inr (ci, fs'))) Q) : J M d mc ms u v pc L (x :: .ref a :: S) h Q := by
  intro l D cA ad base hAd p e' s m args below meth c Z H locs ls hX hB hE hK hZ hT hS hL
  subst hf
  refine va_put (ci := ci) (D := D) (A := fun q => base ≤ q) (H0 := s.heap) (fs := fs.map (g_cv ad)) (v := g_cv ad x) hX.1 hX.2.1 hX.2.2.2.2.1 hc.2.1 ty hc.2.2.1 hc.2.2.2 hX.2.2.2.1 hK.1 hT (g_D hAd h) hS (a - 1) (by rw [g_ws_get cA ad h ha.1 ha.2, hcell]; rfl) hc.1 k hk (hX.2.2.2.2.1 _ hw) (fun _ q => q) hfin (hc.2.2.1 k hk) (hn ad).1 (hn ad).2 (by rw [List.length_map]; exact hl) hd ?_
  intro H1 locs1 hP1 hD1 hS1
  have e : (ad a, (Sum.inr (ci, (fs.map (g_cv ad)).set k (g_cv ad x)) : va_E)) = (ad a, g_ce cA ad (.inr (ci, fs.set k x))) := by
    show _ = (ad a, (Sum.inr (ci, (fs.set k x).map (g_cv ad)) : va_E))
    rw [List.map_set]
  rw [e, g_ws_set cA ad h ha.1 ha.2] at hP1
  exact kk l D cA ad base hAd p e' s m args below meth c Z H1 locs1 ls hX hB hE hK hZ hP1 hS1 hL
theorem J_putF {ci idx a k : Nat} {C : String} {T : u_T} {N : Nat} {ty : Nat → FieldType} {fs fs' : List Value} {x : Value} (hd : decode M.2.1 pc = .ok (.putfield idx, 3)) (hc : g_cls ci C T N ty) (hw : Cond.fieldLink M.1.cls idx (T k).1 (T k).2.1 (T k).2.2.1 ∈ lw_gd) (hk : k < N) (hfin : (T k).2.2.2 = true) (hcell : h.1 a = .inr (ci, fs)) (ha : 1 ≤ a ∧ a ≤ h.2) (hl : k < fs.length) (hin : M.1.name = "<init>") (hdecl : (T k).1 = M.1.cls) (hn : ∀ ad, narrow (ty k) (g_cv ad x) = g_cv ad x ∧ fits (ty k) (g_cv ad x) = true) (hf : fs.set k x = fs') (kk : J M d mc ms u v (pc + 3) L S (g_up h a (.inr (ci, fs'))) Q) : J M d mc ms u v pc L (x :: .ref a :: S) h Q := by
  intro l D cA ad base hAd p e' s m args below meth c Z H locs ls hX hB hE hK hZ hT hS hL
  subst hf
  refine va_putF (ci := ci) (D := D) (A := fun q => base ≤ q) (H0 := s.heap) (fs := fs.map (g_cv ad)) (v := g_cv ad x) hX.1 hX.2.1 hX.2.2.2.2.1 hc.2.1 ty hc.2.2.1 hc.2.2.2 hX.2.2.2.1 hK.1 hT (g_D hAd h) hS (a - 1) (by rw [g_ws_get cA ad h ha.1 ha.2, hcell]; rfl) hc.1 k hk (hX.2.2.2.2.1 _ hw) (fun _ q => q) hfin (hX.2.2.2.2.2.1 hin) hdecl (hc.2.2.1 k hk) (hn ad).1 (hn ad).2 (by rw [List.length_map]; exact hl) hd ?_
  intro H1 locs1 hP1 hD1 hS1
  have e : (ad a, (Sum.inr (ci, (fs.map (g_cv ad)).set k (g_cv ad x)) : va_E)) = (ad a, g_ce cA ad (.inr (ci, fs.set k x))) := by
    show _ = (ad a, (Sum.inr (ci, (fs.set k x).map (g_cv ad)) : va_E))
    rw [List.map_set]
  rw [e, g_ws_set cA ad h ha.1 ha.2] at hP1
  exact kk l D cA ad base hAd p e' s m args below meth c Z H1 locs1 ls hX hB hE hK hZ hP1 hS1 hL

theorem g_size {cA : Nat → ClassId} {D : va_G} {ad : Nat → Nat} {base : Nat} {h : g_H} {s : State} {H : Heap} {locs : List Loc} {u : Nat} (hAd : ∀ k, ad (k + 1) = base + k) (hE : s.heap.size + u = base + h.2) (hB : base ≤ s.heap.size) (hT : g_T D cA ad h H) (hS : va_S (fun q => base ≤ q) s.heap H locs) (hz : H.size ≤ s.heap.size + u) : H.size = base + h.2 := by
  by_cases h0 : h.2 = 0
  · have := hS.1
    omega
  · have h1 := (hT (h.2 - 1) _ (g_ws_get cA ad h (a := h.2) (by omega) (Nat.le_refl _))).lt
    have h2 : ad h.2 = base + (h.2 - 1) := by
      have := hAd (h.2 - 1)
      rwa [Nat.sub_add_cancel (by omega)] at this
    have h3 : ad h.2 < H.size := h1
    omega
theorem J_iald {a n : Nat} {f : Nat → Int32} {i : Int32} (hd : decode M.2.1 pc = .ok (.iaload, 1)) (hcell : h.1 a = .inl (0, n, .inl f)) (ha : 1 ≤ a ∧ a ≤ h.2) (hi : vp_in i n) (kk : J M d mc ms u v (pc + 1) L (.int (f i.toNatClampNeg) :: S) h Q) : J M d mc ms u v pc L (.int i :: .ref a :: S) h Q :=
  fun l D cA ad base hAd p e' s m args below meth c Z H locs ls hX hB hE hK hZ hT hS hL => va_iald (D := D) (f := f) (n := n) (cA := cA 0) hX.1 hX.2.1 hK.1 hT (a - 1) 0 (by rw [g_ws_get cA ad h ha.1 ha.2, hcell]; rfl) rfl hi hd (kk l D cA ad base hAd p e' s m args below meth c Z H locs ls hX hB hE hK hZ hT hS hL)
theorem J_cald {a n : Nat} {f : Nat → Int32} {i : Int32} (hd : decode M.2.1 pc = .ok (.caload, 1)) (hcell : h.1 a = .inl (1, n, .inl f)) (ha : 1 ≤ a ∧ a ≤ h.2) (hi : vp_in i n) (kk : J M d mc ms u v (pc + 1) L (.int (f i.toNatClampNeg) :: S) h Q) : J M d mc ms u v pc L (.int i :: .ref a :: S) h Q :=
  fun l D cA ad base hAd p e' s m args below meth c Z H locs ls hX hB hE hK hZ hT hS hL => va_cald (D := D) (f := f) (n := n) (cA := cA 1) hX.1 hX.2.1 hK.1 hT (a - 1) 1 (by rw [g_ws_get cA ad h ha.1 ha.2, hcell]; rfl) rfl hi hd (kk l D cA ad base hAd p e' s m args below meth c Z H locs ls hX hB hE hK hZ hT hS hL)
theorem J_aald {a n : Nat} {f : Nat → Option Nat} {i : Int32} {b : Nat} (hd : decode M.2.1 pc = .ok (.aaload, 1)) (hcell : h.1 a = .inl (2, n, .inr (.inr (.inr (.inr f))))) (ha : 1 ≤ a ∧ a ≤ h.2) (hi : vp_in i n) (hb : f i.toNatClampNeg = some b) (kk : J M d mc ms u v (pc + 1) L (.ref b :: S) h Q) : J M d mc ms u v pc L (.int i :: .ref a :: S) h Q :=
  fun l D cA ad base hAd p e' s m args below meth c Z H locs ls hX hB hE hK hZ hT hS hL => va_aldq (D := D) (f := fun j => (f j).map ad) (n := n) (cA := cA 2) hX.1 hX.2.1 hK.1 hT (a - 1) 2 (by rw [g_ws_get cA ad h ha.1 ha.2, hcell]; rfl) rfl hi hd (by
    show W p l e' (g_rm d mc ms) s m args below meth c H locs u v Z (F0 m (pc + 1) ls (va_rf ((f i.toNatClampNeg).map ad) :: S.map (g_cv ad)))
    rw [hb]
    exact (kk l D cA ad base hAd p e' s m args below meth c Z H locs ls hX hB hE hK hZ hT hS hL))
theorem J_alen {a k : Nat} {x : vp_A} {y : Int32} (hd : decode M.2.1 pc = .ok (.arraylength, 1)) (hcell : h.1 a = .inl (k, x)) (hk : k < 3) (ha : 1 ≤ a ∧ a ≤ h.2) (hy : Int32.ofNat x.1 = y) (kk : J M d mc ms u v (pc + 1) L (.int y :: S) h Q) : J M d mc ms u v pc L (.ref a :: S) h Q := by
  intro l D cA ad base hAd p e' s m args below meth c Z H locs ls hX hB hE hK hZ hT hS hL
  have hcl : (g_ws cA ad h)[a - 1]? = some (ad a, .inl (cA k, g_ca ad x)) := by rw [g_ws_get cA ad h ha.1 ha.2, hcell]; rfl
  rcases (show k = 0 ∨ k = 1 ∨ k = 2 by omega) with rfl | rfl | rfl
  · exact va_alen (D := D) hX.1 hX.2.1 hK.1 hT (a - 1) 0 hcl rfl hy hd (kk l D cA ad base hAd p e' s m args below meth c Z H locs ls hX hB hE hK hZ hT hS hL)
  · exact va_alen (D := D) hX.1 hX.2.1 hK.1 hT (a - 1) 1 hcl rfl hy hd (kk l D cA ad base hAd p e' s m args below meth c Z H locs ls hX hB hE hK hZ hT hS hL)
  · exact va_alen (D := D) hX.1 hX.2.1 hK.1 hT (a - 1) 2 hcl rfl hy hd (kk l D cA ad base hAd p e' s m args below meth c Z H locs ls hX hB hE hK hZ hT hS hL)
theorem J_iast {a n : Nat} {f : Nat → Int32} {i x : Int32} (hd : decode M.2.1 pc = .ok (.iastore, 1)) (hcell : h.1 a = .inl (0, n, .inl f)) (ha : 1 ≤ a ∧ a ≤ h.2) (hi : vp_in i n) (kk : J M d mc ms u v (pc + 1) L S (g_up h a (.inl (0, n, .inl (upd f i.toNatClampNeg x)))) Q) : J M d mc ms u v pc L (.int x :: .int i :: .ref a :: S) h Q :=
  fun l D cA ad base hAd p e' s m args below meth c Z H locs ls hX hB hE hK hZ hT hS hL => va_iast (D := D) (f := f) (n := n) (cA := cA 0) hX.1 hX.2.1 hK.1 hT (g_D hAd h) hS (a - 1) 0 (by rw [g_ws_get cA ad h ha.1 ha.2, hcell]; rfl) rfl hi hd
    (fun H locs hP hD hS => kk l D cA ad base hAd p e' s m args below meth c Z H locs ls hX hB hE hK hZ (by
      have e := g_ws_set cA ad h ha.1 ha.2 (.inl (0, n, .inl (upd f i.toNatClampNeg x)))
      show va_P _ _ _ _
      rw [← e]
      exact hP) hS hL)
theorem J_cast {a n : Nat} {f : Nat → Int32} {i x : Int32} (hd : decode M.2.1 pc = .ok (.castore, 1)) (hcell : h.1 a = .inl (1, n, .inl f)) (ha : 1 ≤ a ∧ a ≤ h.2) (hi : vp_in i n) (kk : J M d mc ms u v (pc + 1) L S (g_up h a (.inl (1, n, .inl (upd f i.toNatClampNeg (vp_nar .char x))))) Q) : J M d mc ms u v pc L (.int x :: .int i :: .ref a :: S) h Q :=
  fun l D cA ad base hAd p e' s m args below meth c Z H locs ls hX hB hE hK hZ hT hS hL => va_cast (D := D) (f := f) (n := n) (cA := cA 1) hX.1 hX.2.1 hK.1 hT (g_D hAd h) hS (a - 1) 1 (by rw [g_ws_get cA ad h ha.1 ha.2, hcell]; rfl) rfl hi hd
    (fun H locs hP hD hS => kk l D cA ad base hAd p e' s m args below meth c Z H locs ls hX hB hE hK hZ (by
      have e := g_ws_set cA ad h ha.1 ha.2 (.inl (1, n, .inl (upd f i.toNatClampNeg (vp_nar .char x))))
      show va_P _ _ _ _
      rw [← e]
      exact hP) hS hL)
theorem J_aast {a n b : Nat} {f : Nat → Option Nat} {fs : List Value} {i : Int32} (hd : decode M.2.1 pc = .ok (.aastore, 1)) (hcell : h.1 a = .inl (2, n, .inr (.inr (.inr (.inr f))))) (ha : 1 ≤ a ∧ a ≤ h.2) (hi : vp_in i n) (hb : h.1 b = .inr (4, fs)) (hb2 : 1 ≤ b ∧ b ≤ h.2) (kk : J M d mc ms u v (pc + 1) L S (g_up h a (.inl (2, n, .inr (.inr (.inr (.inr (va_up f i.toNatClampNeg (some b)))))))) Q) : J M d mc ms u v pc L (.ref b :: .int i :: .ref a :: S) h Q :=
  fun l D cA ad base hAd p e' s m args below meth c Z H locs ls hX hB hE hK hZ hT hS hL => va_astq (D := D) (r := (RX4, TX4, 5)) (ci := 4) (vs := fs.map (g_cv ad)) (f := fun j => (f j).map ad) (n := n) (cA := cA 2) hX.1 hX.2.1 hK.1 hT (g_D hAd h) hS (a - 1) 2 (b - 1) (by rw [g_ws_get cA ad h ha.1 ha.2, hcell]; rfl) rfl (by rw [g_ws_get cA ad h hb2.1 hb2.2, hb]; rfl) rfl hi hd
    (fun H locs hP hD hS => kk l D cA ad base hAd p e' s m args below meth c Z H locs ls hX hB hE hK hZ (by
      have e := g_ws_set cA ad h ha.1 ha.2 (.inl (2, n, .inr (.inr (.inr (.inr (va_up f i.toNatClampNeg (some b)))))))
      have e2 : va_up (fun j => (f j).map ad) i.toNatClampNeg (some (ad b)) = fun j => (va_up f i.toNatClampNeg (some b) j).map ad := by
        funext j
        by_cases q : j = i.toNatClampNeg
        · simp [va_up, q]
        · simp [va_up, q]
      show va_P _ _ _ _
      rw [← e]
      rw [e2] at hP
      exact hP) hS hL)
theorem g_newat {cA : Nat → ClassId} {D : va_G} {ad : Nat → Nat} {base q : Nat} {h : g_H} {s : State} {H1 : Heap} {u : Nat} {x : va_E} (hAd : ∀ k, ad (k + 1) = base + k) (hE : s.heap.size + u = base + h.2) (hP : va_P D classes (g_ws cA ad h ++ [(q, x)]) H1) (hD : va_D (fun q => base ≤ q) (g_ws cA ad h ++ [(q, x)])) (hz : H1.size ≤ s.heap.size + (u + 1)) : q = ad (h.2 + 1) := by
  have hlen : (g_ws cA ad h).length = h.2 := by simp [g_ws]
  have hq : (g_ws cA ad h ++ [(q, x)])[h.2]? = some (q, x) := by rw [List.getElem?_append_right (by omega), hlen]; simp
  have h1 : q < H1.size := (hP h.2 _ hq).lt
  have h2 : base ≤ q := hD.2 h.2 _ hq
  rw [hAd]
  by_cases e : q = base + h.2
  · exact e
  · exfalso
    have hk : q - base + 1 ≤ h.2 := by omega
    have hg := g_ws_get cA ad h (a := q - base + 1) (by omega) hk
    rw [Nat.add_sub_cancel] at hg
    have hg2 : (g_ws cA ad h ++ [(q, x)])[q - base]? = some (ad (q - base + 1), g_ce cA ad (h.1 (q - base + 1))) := by
      rw [List.getElem?_append_left (by omega)]; exact hg
    have := hD.1 _ _ _ _ hg2 hq (by show ad (q - base + 1) = q; rw [hAd]; omega)
    omega
theorem J_new {ci idx : Nat} {C : String} {T : u_T} {N : Nat} {ty : Nat → FieldType} {fs : List Value} (hd : decode M.2.1 pc = .ok (.new idx, 3)) (hc : g_cls ci C T N ty) (hw : Cond.classLink M.1.cls idx C ∈ lw_gd) (hi : Cond.instantiable C N ∈ lw_gd) (hj : Cond.initialized C ∈ lw_gd) (hfs : ∀ j, j < N → ∀ ad, defaultValue (ty j) = vp_V (fs.map (g_cv ad)) j) (hu : u + 1 ≤ mc ∧ v + N ≤ ms) (kk : J M d mc ms (u + 1) (v + N) (pc + 3) L (.ref (h.2 + 1) :: S) (g_push h (.inr (ci, fs))) Q) : J M d mc ms u v pc L S h Q := by
  intro l D cA ad base hAd p e' s m args below meth c Z H locs ls hX hB hE hK hZ hT hS hL
  refine va_new (ci := ci) (D := D) (A := fun q => base ≤ q) (H0 := s.heap) (fs := fs.map (g_cv ad)) hX.1 hX.2.1 hX.2.2.2.2.1 hc.2.1 ty hc.2.2.1 hX.2.2.2.1 (hX.2.2.2.2.1 _ hw) (hX.2.2.2.2.1 _ hi) (hX.2.2.2.2.1 _ hj) hK.1 hT (g_D hAd h) hS (fun q z => Nat.le_trans hB z) hc.1 (fun j hj => hfs j hj ad) hu.1 hu.2 hd ?_
  intro q H1 hP hD hS T0 hT0 X0
  have hz := X0.heapSize
  rw [hT0] at hz
  have hq := g_newat hAd hE hP hD hz
  subst hq
  refine kk l D cA ad base hAd p e' s m args below meth c Z H1 locs ls hX hB (by rw [g_push_2]; omega) hK hZ ?_ hS hL T0 hT0 X0
  show va_P _ _ _ _
  rw [g_ws_push]
  exact hP
theorem J_newi {k : Nat} {n : Int32} {N : Nat} (atype : ArrayType) (hk : (atype = .int ∧ k = 0) ∨ (atype = .char ∧ k = 1)) (hd : decode M.2.1 pc = .ok (.newarray atype, 2)) (hw : Cond.arrayClass (newarray.typeOf atype) ∈ lw_gd) (hn : ¬ n < 0) (hN : n.toNatClampNeg = N) (hb : N ≤ 100000) (hu : u + 1 ≤ mc ∧ v + N ≤ ms) (kk : J M d mc ms (u + 1) (v + N) (pc + 2) L (.ref (h.2 + 1) :: S) (g_push h (.inl (k, N, .inl (fun _ => 0)))) Q) : J M d mc ms u v pc L (.int n :: S) h Q := by
  intro l D cA ad base hAd p e' s m args below meth c Z H locs ls hX hB hE hK hZ hT hS hL
  have fin : ∀ (q : Nat) (cA' : ClassId) (H1 : Heap), cA' = cA k → va_P D classes (g_ws cA ad h ++ [(q, .inl (cA', N, .inl (fun _ => 0)))]) H1 → va_D (fun q => base ≤ q) (g_ws cA ad h ++ [(q, .inl (cA', N, .inl (fun _ => 0)))]) → va_S (fun q => base ≤ q) s.heap H1 locs →
      W p l e' (g_rm d mc ms) s m args below meth c H1 locs (u + 1) (v + N) Z (F0 m (pc + 2) ls (.ref q :: S.map (g_cv ad))) := by
    intro q cA' H1 hcA hP hD hS T0 hT0 X0
    subst hcA
    have hz := X0.heapSize
    rw [hT0] at hz
    have hq := g_newat hAd hE hP hD hz
    subst hq
    refine kk l D cA ad base hAd p e' s m args below meth c Z H1 locs ls hX hB (by rw [g_push_2]; omega) hK hZ ?_ hS hL T0 hT0 X0
    show va_P _ _ _ _
    rw [g_ws_push]
    exact hP
  rcases hk with ⟨rfl, rfl⟩ | ⟨rfl, rfl⟩
  · refine va_newa (ty := .int) (D := D) (A := fun q => base ≤ q) (H0 := s.heap) (a0 := (N, .inl (fun _ => 0))) hX.1 hX.2.1 (hX.2.2.2.2.1 _ hw) rfl hK.1 hT (g_D hAd h) hS (fun q z => Nat.le_trans hB z) (fun _ => rfl) hn hN (by show N * 4 ≤ 536870912; omega) hu.1 hu.2 hd ?_
    intro q cA' H1 hK1 hP hD hS
    refine fin q cA' H1 ?_ hP hD hS
    have e1 : s.vm.findClass _ = some cA' := (hK1.2 3 (cA', .int) rfl).2
    have e2 : s.vm.findClass _ = some (cA 0) := (hK.1.2 0 (cA 0, .int) rfl).2
    exact Option.some.inj (e1.symm.trans e2)
  · refine va_newa (ty := .char) (D := D) (A := fun q => base ≤ q) (H0 := s.heap) (a0 := (N, .inl (fun _ => 0))) hX.1 hX.2.1 (hX.2.2.2.2.1 _ hw) rfl hK.1 hT (g_D hAd h) hS (fun q z => Nat.le_trans hB z) (fun _ => rfl) hn hN (by show N * 2 ≤ 536870912; omega) hu.1 hu.2 hd ?_
    intro q cA' H1 hK1 hP hD hS
    refine fin q cA' H1 ?_ hP hD hS
    have e1 : s.vm.findClass _ = some cA' := (hK1.2 3 (cA', .char) rfl).2
    have e2 : s.vm.findClass _ = some (cA 1) := (hK.1.2 1 (cA 1, .char) rfl).2
    exact Option.some.inj (e1.symm.trans e2)
theorem J_newq {idx : Nat} {n : Int32} {N : Nat} (hd : decode M.2.1 pc = .ok (.anewarray idx, 3)) (hw : Cond.classLink M.1.cls idx "LivedLinks$Links" ∈ lw_gd) (hn : ¬ n < 0) (hN : n.toNatClampNeg = N) (hb : N ≤ 100000) (hu : u + 1 ≤ mc ∧ v + N ≤ ms) (kk : J M d mc ms (u + 1) (v + N) (pc + 3) L (.ref (h.2 + 1) :: S) (g_push h (.inl (2, N, .inr (.inr (.inr (.inr (fun _ => none))))))) Q) : J M d mc ms u v pc L (.int n :: S) h Q := by
  intro l D cA ad base hAd p e' s m args below meth c Z H locs ls hX hB hE hK hZ hT hS hL
  refine va_newq (C := "LivedLinks$Links") (D := D) (A := fun q => base ≤ q) (H0 := s.heap) hX.1 hX.2.1 hX.2.2.2.1 (hX.2.2.2.2.1 _ hw) hK.2.1 hK.1 hT (g_D hAd h) hS (fun q z => Nat.le_trans hB z) hn hN (by omega) hu.1 hu.2 hd ?_
  intro q cA' H1 hK1 hP hD hS T0 hT0 X0
  have e1 := (hK1.2 3 (cA', .object "LivedLinks$Links") rfl).2
  have e2 := (hK.1.2 2 (cA 2, .object "LivedLinks$Links") rfl).2
  obtain ⟨_, _, _, _, _, e1⟩ := e1
  obtain ⟨_, _, _, _, _, e2⟩ := e2
  have hcA : cA' = cA 2 := Option.some.inj (e1.symm.trans e2)
  subst hcA
  have hz := X0.heapSize
  rw [hT0] at hz
  have hq := g_newat hAd hE hP hD hz
  subst hq
  refine kk l D cA ad base hAd p e' s m args below meth c Z H1 locs ls hX hB (by rw [g_push_2]; omega) hK hZ ?_ hS hL T0 hT0 X0
  show va_P _ _ _ _
  rw [g_ws_push]
  exact hP
theorem J_objInit {a idx : Nat} (hd : decode M.2.1 pc = .ok (.invokespecial idx, 3)) (hw : Cond.methodLink M.1.cls idx objectInit ∈ lw_gd) (hw2 : Cond.instanceMethod objectInit ∈ lw_gd) (hw3 : Cond.code objectInit ⟨#[0xb1]⟩ 1 none ∈ lw_gd) (hr : 1 ≤ d) (hs : (S.map fun v => v.category).sum ≤ 8) (kk : J M d mc ms u v (pc + 3) L S h Q) : J M d mc ms u v pc L (.ref a :: S) h Q := by
  intro l D cA ad base hAd p e' s m args below meth c Z H locs ls hX hB hE hK hZ hT hS hL
  have hs2 : ((S.map (g_cv ad)).map fun v => v.category).sum = (S.map fun v => v.category).sum := by
    rw [List.map_map]; congr 1; exact List.map_congr_left (fun v _ => g_cat ad v)
  exact W.objInit hX.1 hX.2.1 hX.2.2.2.1 (hX.2.2.2.2.1 _ hw) (hX.2.2.2.2.1 _ hw2) (hX.2.2.2.2.1 _ hw3) rfl (by rw [hX.2.2.1]; exact hL.1) rfl hd hr (by show 2 * 0 + _ + 12 ≤ 36 * d; rw [hs2]; omega) (kk l D cA ad base hAd p e' s m args below meth c Z H locs ls hX hB hE hK hZ hT hS hL)
theorem J_mmax {idx : Nat} {x y : Int32} (hd : decode M.2.1 pc = .ok (.invokestatic idx, 3)) (hw : Cond.methodLink M.1.cls idx Lib.Math.max.name ∈ lw_gd) (hw2 : Cond.static Lib.Math.max.name ∈ lw_gd ∧ Cond.initialized "java/lang/Math" ∈ lw_gd ∧ Cond.code Lib.Math.max.name Lib.Math.max.code 2 (some .int) ∈ lw_gd) (hr : 1 ≤ d) (hs : (S.map fun v => v.category).sum ≤ 8) (hu : u ≤ mc ∧ v ≤ ms) (kk : J M d mc ms u v (pc + 3) L (.int (if x < y then y else x) :: S) h Q) : J M d mc ms u v pc L (.int y :: .int x :: S) h Q := by
  intro l D cA ad base hAd p e' s m args below meth c Z H locs ls hX hB hE hK hZ hT hS hL
  have hs2 : ((S.map (g_cv ad)).map fun v => v.category).sum = (S.map fun v => v.category).sum := by
    rw [List.map_map]; congr 1; exact List.map_congr_left (fun v _ => g_cat ad v)
  exact va_mmax hX.1 hX.2.1 (by rw [hX.2.2.1]; exact hL.1.symm) hX.2.2.2.1 (hX.2.2.2.2.1 _ hw) (hX.2.2.2.2.1 _ hw2.1) (hX.2.2.2.2.1 _ hw2.2.1) (hX.2.2.2.2.1 _ hw2.2.2) hr (by show _ + 13 ≤ 36 * d; rw [hs2]; omega) hu.1 hu.2 hd (kk l D cA ad base hAd p e' s m args below meth c Z H locs ls hX hB hE hK hZ hT hS hL)
theorem J_mmin {idx : Nat} {x y : Int32} (hd : decode M.2.1 pc = .ok (.invokestatic idx, 3)) (hw : Cond.methodLink M.1.cls idx Lib.Math.min.name ∈ lw_gd) (hw2 : Cond.static Lib.Math.min.name ∈ lw_gd ∧ Cond.initialized "java/lang/Math" ∈ lw_gd ∧ Cond.code Lib.Math.min.name Lib.Math.min.code 2 (some .int) ∈ lw_gd) (hr : 1 ≤ d) (hs : (S.map fun v => v.category).sum ≤ 8) (hu : u ≤ mc ∧ v ≤ ms) (kk : J M d mc ms u v (pc + 3) L (.int (if y < x then y else x) :: S) h Q) : J M d mc ms u v pc L (.int y :: .int x :: S) h Q := by
  intro l D cA ad base hAd p e' s m args below meth c Z H locs ls hX hB hE hK hZ hT hS hL
  have hs2 : ((S.map (g_cv ad)).map fun v => v.category).sum = (S.map fun v => v.category).sum := by
    rw [List.map_map]; congr 1; exact List.map_congr_left (fun v _ => g_cat ad v)
  exact va_mmin hX.1 hX.2.1 (by rw [hX.2.2.1]; exact hL.1.symm) hX.2.2.2.1 (hX.2.2.2.2.1 _ hw) (hX.2.2.2.2.1 _ hw2.1) (hX.2.2.2.2.1 _ hw2.2.1) (hX.2.2.2.2.1 _ hw2.2.2) hr (by show _ + 13 ≤ 36 * d; rw [hs2]; omega) hu.1 hu.2 hd (kk l D cA ad base hAd p e' s m args below meth c Z H locs ls hX hB hE hK hZ hT hS hL)
/-! calls -/
theorem g_call {D : va_G} {cA : Nat → ClassId} {ad : Nat → Nat} {base n' : Nat} {p : Program} {l : Launch} {e : Env} {R : Room} {s : State} {m : MethodId} {args a : Array Value} {below : List Frame} {meth : Method} {c : Code} {H : Heap} {locs : List Loc} {cells slots mc ms pc : Nat} {Z : State → Prop} {ls : Array Slot} {st0 rest : List Value} {Q : Option Value → g_H → Prop}
    (hr : va_Run p l e R s m args below meth c H locs cells slots mc ms (F0 m pc ls st0) rest (g_Qc D cA ad base n' Q a) (fun q => base ≤ q)) (hS : va_S (fun q => base ≤ q) s.heap H locs)
    (kk : ∀ (r : Option Value) (h' : g_H) (H1 : Heap) (locs1 : List Loc), Q r h' → h'.2 = n' → g_T D cA ad h' H1 → va_S (fun q => base ≤ q) s.heap H1 locs1 → W p l e R s m args below meth c H1 locs1 (cells + mc) (slots + ms) Z (F0 m (pc + 3) ls ((r.map (g_cv ad)).toList ++ rest))) : W p l e R s m args below meth c H locs cells slots Z (F0 m pc ls st0) := by
  intro T hT X
  obtain ⟨v, st₀, t, T', L, h0, X', hL, e1, e2, ⟨⟨r, h', hv, hq, hn, ht, -⟩, hz, hk⟩, st⟩ := hr T hT X
  cases hv
  rw [h0] at hz hk
  obtain ⟨t2, a1, b1⟩ := kk r h' T'.heap (locs ++ L) hq hn (by rw [e1]; exact ht)
    ⟨Nat.le_trans hS.1 (by rw [e1]; exact hz), fun q h1 h2 => by rw [e1, hk q (Nat.lt_of_lt_of_le h1 hS.1) h2]; exact hS.2.1 q h1 h2, fun q hq => by
      rcases List.mem_append.mp hq with h | h
      · exact hS.2.2 q h
      · exact hL q h⟩ T' rfl X'
  exact ⟨t2, st t2 a1, b1⟩
/-- a method of the run: its words, its parameters -/
def g_mth (M : g_M) (n : Nat) : Prop := Cond.code M.1 M.2.1 M.2.2.1 M.2.2.2.1 ∈ lw_gd ∧ Cond.initialized M.1.cls ∈ lw_gd ∧ M.1.cls ≠ "java/lang/invoke/MethodHandle" ∧ M.1.cls ≠ "java/lang/invoke/VarHandle" ∧ (parseMethodDescriptor M.1.desc).map (fun d => d.parameters.length) = some n ∧ M.2.2.1 ≤ 17
theorem g_ws_ok {s : State} {args : Array Value} (hts : ∀ w ∈ lw_gd, w.before args s = true) {n : Nat} (hm : g_mth M n) : ∀ w ∈ g_w M, ∀ (a' : Array Value) (U : State), s.WarmedH U.vm → w.before a' U = true := by
  have hg : GoodIn lw_gd (g_w M) := fun w hw => by
    rcases List.mem_cons.mp hw with rfl | hw
    · exact ⟨hm.1, good_of_word (List.mem_filter.mp hm.1).2⟩
    · exact ⟨hw, good_of_word (List.mem_filter.mp hw).2⟩
  exact pay_in hts hg
theorem g_callB {idx n : Nat} {s : State} {args : Array Value} (hts : ∀ w ∈ lw_gd, w.before args s = true) (hm : g_mth M' n) (hw : Cond.methodLink M.1.cls idx M'.1 ∈ lw_gd) (hr : d' + 1 ≤ d) : CallB (g_rm d mc ms) s args M.1.cls idx M'.1 M'.2.1 M'.2.2.1 M'.2.2.2.1 (g_w M') (g_rm d' mc' ms') mc' ms' n := by
  refine ⟨rfl, rfl, hr, ?_, g_ws_ok hts hm, List.mem_cons_self, hts _ hm.1, hts _ hm.2.1, ⟨hm.2.2.1, hm.2.2.2.1⟩, fun sig h => ?_, hts _ hw⟩
  · show 8 + (M'.2.2.1 + 11) + 36 * d' ≤ 36 * d
    have := hm.2.2.2.2.2
    omega
  · have h2 := hm.2.2.2.2.1
    rw [h] at h2
    exact (Option.some.inj h2).symm
theorem g_callN {idx n : Nat} {host : String} {s : State} {args : Array Value} (hts : ∀ w ∈ lw_gd, w.before args s = true) (hm : g_mth M' n) (hw : (Cond.methodLinkNest M.1.cls idx M'.1 host).before args s = true) (hr : d' + 1 ≤ d) : va_CN (g_rm d mc ms) s args M.1.cls idx M'.1 host M'.2.1 M'.2.2.1 M'.2.2.2.1 (g_w M') (g_rm d' mc' ms') mc' ms' n := by
  refine ⟨⟨rfl, rfl, hr, ?_, g_ws_ok hts hm, List.mem_cons_self⟩, hts _ hm.1, hts _ hm.2.1, ⟨hm.2.2.1, hm.2.2.2.1⟩, fun sig h => ?_, hw⟩
  · show 8 + (M'.2.2.1 + 11) + 36 * d' ≤ 36 * d
    have := hm.2.2.2.2.2
    omega
  · have h2 := hm.2.2.2.2.1
    rw [h] at h2
    exact (Option.some.inj h2).symm
theorem g_monroom {m : MethodId} {ls : Array Slot} {st rest : List Value} {ad : Nat → Nat} (hs : (rest.map fun v => v.category).sum ≤ 8) : 2 * (F0 m pc ls st).monitorRoom + ((rest.map (g_cv ad)).map fun v => v.category).sum ≤ 8 := by
  have hs2 : ((rest.map (g_cv ad)).map fun v => v.category).sum = (rest.map fun v => v.category).sum := by
    rw [List.map_map]; congr 1; exact List.map_congr_left (fun v _ => g_cat ad v)
  rw [hs2]
  show 2 * 0 + _ ≤ 8
  omega

theorem J_callV {idx n : Nat} {As rest : List Value} {a : Nat} {ci NN : Nat} {TT : u_T} {fs : List Value} (hd : decode M.2.1 pc = .ok (.invokevirtual idx, 3)) (hw : Cond.methodLink M.1.cls idx M'.1 ∈ lw_gd) (hm : g_mth M' n) (hv : Cond.instanceMethod M'.1 ∈ lw_gd ∧ Cond.selects M'.1.cls M'.1 M'.1 ∈ lw_gd) (hcell : h.1 a = .inr (ci, fs)) (ha : 1 ≤ a ∧ a ≤ h.2) (hcl : classes[ci]? = some (M'.1.cls, TT, NN)) (hn : As.length = n) (hst : S = As.reverse ++ .ref a :: rest) (hs : (rest.map fun v => v.category).sum ≤ 8) (hr : d' + 1 ≤ d) (hu : u + mc' = u' ∧ v + ms' = v' ∧ u' ≤ mc ∧ v' ≤ ms) (kk : MJ M' d' mc' ms' (.ref a :: As) h (fun r h' => J M d mc ms u' v' (pc + 3) L (r.toList ++ rest) h' Q)) : J M d mc ms u v pc L S h Q := by
  intro l D cA ad base hAd p e' s m args below meth c Z H locs ls hX hB hE hK hZ hT hS hL
  obtain ⟨rfl, rfl, hu1, hu2⟩ := hu
  subst hst
  intro T0 hT0 X0
  have hz := X0.heapSize
  rw [hT0] at hz
  have hz2 := g_size hAd hE hB hT hS hz
  refine g_call (a := ((.ref a :: As).map (g_cv ad)).toArray) (n' := h.2 + mc') (rest := rest.map (g_cv ad)) (va_runV (C := M'.1.cls) (b := ad a) (As := As.map (g_cv ad)) (rest := rest.map (g_cv ad)) ⟨hX.1, hX.2.1, hX.2.2.1, hX.2.2.2.1, hX.2.2.2.2.1⟩ (kk l D cA ad base hAd) ⟨g_callB hX.2.2.2.2.1 hm hw hr, hX.2.2.2.2.1 _ hv.1, hX.2.2.2.2.1 _ hv.2⟩ ⟨g_blind, va_recv hK.1 hT hcl (q0 := a - 1) (fs := fs.map (g_cv ad)) (by rw [g_ws_get cA ad h ha.1 ha.2, hcell]; rfl), fun U hU hW => ⟨by rfl, by rw [hU]; exact hz2, by rw [hU]; exact hT, hK.moved hW⟩⟩ rfl (by rw [List.length_map]; exact hn) hL.1 (by show List.map _ _ = _; simp [g_cv]) (g_monroom hs) hd ⟨hu1, hu2⟩) hS ?_ T0 hT0 X0
  intro r h' H1 locs1 hq hn' hT' hS'
  have hq2 := hq l D cA ad base hAd p e' s m args below meth c Z H1 locs1 ls hX hB (by rw [hn']; omega) hK hZ hT' hS' hL
  cases r with
  | none => exact hq2
  | some x => exact hq2
theorem J_callS {idx n : Nat} {As rest : List Value} (hd : decode M.2.1 pc = .ok (.invokestatic idx, 3)) (hw : Cond.methodLink M.1.cls idx M'.1 ∈ lw_gd) (hm : g_mth M' n) (hv : Cond.static M'.1 ∈ lw_gd) (hn : As.length = n) (hst : S = As.reverse ++ rest) (hs : (rest.map fun v => v.category).sum ≤ 8) (hr : d' + 1 ≤ d) (hu : u + mc' = u' ∧ v + ms' = v' ∧ u' ≤ mc ∧ v' ≤ ms) (kk : MJ M' d' mc' ms' As h (fun r h' => J M d mc ms u' v' (pc + 3) L (r.toList ++ rest) h' Q)) : J M d mc ms u v pc L S h Q := by
  intro l D cA ad base hAd p e' s m args below meth c Z H locs ls hX hB hE hK hZ hT hS hL
  obtain ⟨rfl, rfl, hu1, hu2⟩ := hu
  subst hst
  intro T0 hT0 X0
  have hz := X0.heapSize
  rw [hT0] at hz
  have hz2 := g_size hAd hE hB hT hS hz
  refine g_call (a := (As.map (g_cv ad)).toArray) (n' := h.2 + mc') (rest := rest.map (g_cv ad)) (va_runS (As := As.map (g_cv ad)) (rest := rest.map (g_cv ad)) ⟨hX.1, hX.2.1, hX.2.2.1, hX.2.2.2.1, hX.2.2.2.2.1⟩ (kk l D cA ad base hAd) ⟨g_callB hX.2.2.2.2.1 hm hw hr, hX.2.2.2.2.1 _ hv⟩ ⟨g_blind, fun U hU hW => ⟨by rfl, by rw [hU]; exact hz2, by rw [hU]; exact hT, hK.moved hW⟩⟩ rfl (by rw [List.length_map]; exact hn) hL.1 (by show List.map _ _ = _; simp [g_cv]) (g_monroom hs) hd ⟨hu1, hu2⟩) hS ?_ T0 hT0 X0
  intro r h' H1 locs1 hq hn' hT' hS'
  have hq2 := hq l D cA ad base hAd p e' s m args below meth c Z H1 locs1 ls hX hB (by rw [hn']; omega) hK hZ hT' hS' hL
  cases r with
  | none => exact hq2
  | some x => exact hq2
theorem J_callSN {idx n : Nat} {As rest : List Value} {host : String} (hd : decode M.2.1 pc = .ok (.invokestatic idx, 3)) (hw : (M.1.cls, idx, M'.1, host) ∈ lw_nest) (hm : g_mth M' n) (hv : Cond.static M'.1 ∈ lw_gd) (hn : As.length = n) (hst : S = As.reverse ++ rest) (hs : (rest.map fun v => v.category).sum ≤ 8) (hr : d' + 1 ≤ d) (hu : u + mc' = u' ∧ v + ms' = v' ∧ u' ≤ mc ∧ v' ≤ ms) (kk : MJ M' d' mc' ms' As h (fun r h' => J M d mc ms u' v' (pc + 3) L (r.toList ++ rest) h' Q)) : J M d mc ms u v pc L S h Q := by
  intro l D cA ad base hAd p e' s m args below meth c Z H locs ls hX hB hE hK hZ hT hS hL
  obtain ⟨rfl, rfl, hu1, hu2⟩ := hu
  subst hst
  intro T0 hT0 X0
  have hz := X0.heapSize
  rw [hT0] at hz
  have hz2 := g_size hAd hE hB hT hS hz
  refine g_call (a := (As.map (g_cv ad)).toArray) (n' := h.2 + mc') (rest := rest.map (g_cv ad)) (va_runSN (As := As.map (g_cv ad)) (rest := rest.map (g_cv ad)) ⟨hX.1, hX.2.1, hX.2.2.1, hX.2.2.2.1, hX.2.2.2.2.1⟩ (kk l D cA ad base hAd) ⟨g_callN hX.2.2.2.2.1 hm (va_Nw.use rfl (hK.2.2 _ hw)) hr, hX.2.2.2.2.1 _ hv, trivial⟩ ⟨g_blind, fun U hU hW => ⟨by rfl, by rw [hU]; exact hz2, by rw [hU]; exact hT, hK.moved hW⟩⟩ rfl (by rw [List.length_map]; exact hn) hL.1 (by show List.map _ _ = _; simp [g_cv]) (g_monroom hs) hd ⟨hu1, hu2⟩) hS ?_ T0 hT0 X0
  intro r h' H1 locs1 hq hn' hT' hS'
  have hq2 := hq l D cA ad base hAd p e' s m args below meth c Z H1 locs1 ls hX hB (by rw [hn']; omega) hK hZ hT' hS' hL
  cases r with
  | none => exact hq2
  | some x => exact hq2
theorem J_callI {idx n : Nat} {As rest : List Value} {a : Nat} (hd : decode M.2.1 pc = .ok (.invokespecial idx, 3)) (hw : Cond.methodLink M.1.cls idx M'.1 ∈ lw_gd) (hm : g_mth M' n) (hv : M'.1.name = "<init>" ∧ Cond.instanceMethod M'.1 ∈ lw_gd) (hret : M'.2.2.2.1 = none) (hn : As.length = n) (hst : S = As.reverse ++ .ref a :: rest) (hs : (rest.map fun v => v.category).sum ≤ 8) (hr : d' + 1 ≤ d) (hu : u + mc' = u' ∧ v + ms' = v' ∧ u' ≤ mc ∧ v' ≤ ms) (kk : MJ M' d' mc' ms' (.ref a :: As) h (fun r h' => J M d mc ms u' v' (pc + 3) L (r.toList ++ rest) h' Q)) : J M d mc ms u v pc L S h Q := by
  intro l D cA ad base hAd p e' s m args below meth c Z H locs ls hX hB hE hK hZ hT hS hL
  obtain ⟨rfl, rfl, hu1, hu2⟩ := hu
  subst hst
  intro T0 hT0 X0
  have hz := X0.heapSize
  rw [hT0] at hz
  have hz2 := g_size hAd hE hB hT hS hz
  have cb : CallB (g_rm d mc ms) s args M.1.cls idx M'.1 M'.2.1 M'.2.2.1 none (g_w M') (g_rm d' mc' ms') mc' ms' n := hret ▸ g_callB (d := d) (mc := mc) (ms := ms) (mc' := mc') (ms' := ms') hX.2.2.2.2.1 hm hw hr
  refine g_call (a := ((.ref a :: As).map (g_cv ad)).toArray) (n' := h.2 + mc') (rest := rest.map (g_cv ad)) (va_runI (b := ad a) (As := As.map (g_cv ad)) (rest := rest.map (g_cv ad)) ⟨hX.1, hX.2.1, hX.2.2.1, hX.2.2.2.1, hX.2.2.2.2.1⟩ (kk l D cA ad base hAd) ⟨cb, hv.1, hX.2.2.2.2.1 _ hv.2⟩ ⟨g_blind, fun U hU hW => ⟨by rfl, by rw [hU]; exact hz2, by rw [hU]; exact hT, hK.moved hW⟩⟩ rfl (by rw [List.length_map]; exact hn) hL.1 (by show List.map _ _ = _; simp [g_cv]) (g_monroom hs) hd ⟨hu1, hu2⟩) hS ?_ T0 hT0 X0
  intro r h' H1 locs1 hq hn' hT' hS'
  have hq2 := hq l D cA ad base hAd p e' s m args below meth c Z H1 locs1 ls hX hB (by rw [hn']; omega) hK hZ hT' hS' hL
  cases r with
  | none => exact hq2
  | some x => exact hq2
theorem J_callIN {idx n : Nat} {As rest : List Value} {host : String} {a : Nat} (hd : decode M.2.1 pc = .ok (.invokespecial idx, 3)) (hw : (M.1.cls, idx, M'.1, host) ∈ lw_nest) (hm : g_mth M' n) (hv : M'.1.name = "<init>" ∧ Cond.instanceMethod M'.1 ∈ lw_gd) (hret : M'.2.2.2.1 = none) (hn : As.length = n) (hst : S = As.reverse ++ .ref a :: rest) (hs : (rest.map fun v => v.category).sum ≤ 8) (hr : d' + 1 ≤ d) (hu : u + mc' = u' ∧ v + ms' = v' ∧ u' ≤ mc ∧ v' ≤ ms) (kk : MJ M' d' mc' ms' (.ref a :: As) h (fun r h' => J M d mc ms u' v' (pc + 3) L (r.toList ++ rest) h' Q)) : J M d mc ms u v pc L S h Q := by
  intro l D cA ad base hAd p e' s m args below meth c Z H locs ls hX hB hE hK hZ hT hS hL
  obtain ⟨rfl, rfl, hu1, hu2⟩ := hu
  subst hst
  intro T0 hT0 X0
  have hz := X0.heapSize
  rw [hT0] at hz
  have hz2 := g_size hAd hE hB hT hS hz
  have cb : va_CN (g_rm d mc ms) s args M.1.cls idx M'.1 host M'.2.1 M'.2.2.1 none (g_w M') (g_rm d' mc' ms') mc' ms' n := hret ▸ g_callN (d := d) (mc := mc) (ms := ms) (mc' := mc') (ms' := ms') hX.2.2.2.2.1 hm (va_Nw.use rfl (hK.2.2 _ hw)) hr
  refine g_call (a := ((.ref a :: As).map (g_cv ad)).toArray) (n' := h.2 + mc') (rest := rest.map (g_cv ad)) (va_runIN (b := ad a) (As := As.map (g_cv ad)) (rest := rest.map (g_cv ad)) ⟨hX.1, hX.2.1, hX.2.2.1, hX.2.2.2.1, hX.2.2.2.2.1⟩ (kk l D cA ad base hAd) ⟨cb, hv.1, hX.2.2.2.2.1 _ hv.2⟩ ⟨g_blind, fun U hU hW => ⟨by rfl, by rw [hU]; exact hz2, by rw [hU]; exact hT, hK.moved hW⟩⟩ rfl (by rw [List.length_map]; exact hn) hL.1 (by show List.map _ _ = _; simp [g_cv]) (g_monroom hs) hd ⟨hu1, hu2⟩) hS ?_ T0 hT0 X0
  intro r h' H1 locs1 hq hn' hT' hS'
  have hq2 := hq l D cA ad base hAd p e' s m args below meth c Z H1 locs1 ls hX hB (by rw [hn']; omega) hK hZ hT' hS' hL
  cases r with
  | none => exact hq2
  | some x => exact hq2
end GJ
end
section
abbrev m_X6_init : g_M := (yX6_init, cX6_init, 1, none, none)
theorem gm_X6_init : g_mth m_X6_init 0 := ⟨co_yX6_init, ini_LivedLinks, by decide +kernel, by decide +kernel, by decide +kernel, by decide⟩
abbrev m_X4_init : g_M := (yX4_init, cX4_init, 1, none, none)
theorem gm_X4_init : g_mth m_X4_init 0 := ⟨co_yX4_init, ini_LivedLinks_Links, by decide +kernel, by decide +kernel, by decide +kernel, by decide⟩
abbrev m_X1_init : g_M := (yX1_init, cX1_init, 2, none, none)
theorem gm_X1_init : g_mth m_X1_init 0 := ⟨co_yX1_init, ini_LivedLinks_History, by decide +kernel, by decide +kernel, by decide +kernel, by decide⟩
abbrev m_X3_init : g_M := (yX3_init, cX3_init, 1, none, none)
theorem gm_X3_init : g_mth m_X3_init 0 := ⟨co_yX3_init, ini_LivedLinks_LinkText, by decide +kernel, by decide +kernel, by decide +kernel, by decide⟩
abbrev m_X5_init : g_M := (yX5_init, cX5_init, 1, none, none)
theorem gm_X5_init : g_mth m_X5_init 0 := ⟨co_yX5_init, ini_LivedLinks_Moments, by decide +kernel, by decide +kernel, by decide +kernel, by decide⟩
abbrev m_X2_init : g_M := (yX2_init, cX2_init, 4, none, none)
theorem gm_X2_init : g_mth m_X2_init 1 := ⟨co_yX2_init, ini_LivedLinks_Joinings, by decide +kernel, by decide +kernel, by decide +kernel, by decide⟩
abbrev m_X0_init : g_M := (yX0_init, cX0_init, 1, none, none)
theorem gm_X0_init : g_mth m_X0_init 0 := ⟨co_yX0_init, ini_LivedLinks_HalvesWay, by decide +kernel, by decide +kernel, by decide +kernel, by decide⟩
abbrev m_X6_addLink : g_M := (yX6_addLink, cX6_addLink, 5, (some .int), none)
theorem gm_X6_addLink : g_mth m_X6_addLink 4 := ⟨co_yX6_addLink, ini_LivedLinks, by decide +kernel, by decide +kernel, by decide +kernel, by decide⟩
theorem gv_X6_addLink : Cond.instanceMethod m_X6_addLink.1 ∈ lw_gd ∧ Cond.selects m_X6_addLink.1.cls m_X6_addLink.1 m_X6_addLink.1 ∈ lw_gd := ⟨im_yX6_addLink, se_yX6_addLink⟩
abbrev m_X6_isPoint : g_M := (yX6_isPoint, cX6_isPoint, 1, (some .boolean), none)
theorem gm_X6_isPoint : g_mth m_X6_isPoint 1 := ⟨co_yX6_isPoint, ini_LivedLinks, by decide +kernel, by decide +kernel, by decide +kernel, by decide⟩
abbrev m_X6_isLife : g_M := (yX6_isLife, cX6_isLife, 2, (some .boolean), none)
theorem gm_X6_isLife : g_mth m_X6_isLife 2 := ⟨co_yX6_isLife, ini_LivedLinks, by decide +kernel, by decide +kernel, by decide +kernel, by decide⟩
abbrev m_X6_isMoment : g_M := (yX6_isMoment, cX6_isMoment, 1, (some .boolean), none)
theorem gm_X6_isMoment : g_mth m_X6_isMoment 1 := ⟨co_yX6_isMoment, ini_LivedLinks, by decide +kernel, by decide +kernel, by decide +kernel, by decide⟩
abbrev m_X4_room : g_M := (yX4_room, cX4_room, 1, (some .int), none)
theorem gm_X4_room : g_mth m_X4_room 0 := ⟨co_yX4_room, ini_LivedLinks_Links, by decide +kernel, by decide +kernel, by decide +kernel, by decide⟩
theorem gv_X4_room : Cond.instanceMethod m_X4_room.1 ∈ lw_gd ∧ Cond.selects m_X4_room.1.cls m_X4_room.1 m_X4_room.1 ∈ lw_gd := ⟨im_yX4_room, se_yX4_room⟩
abbrev m_X1_remember : g_M := (yX1_remember, cX1_remember, 3, none, none)
theorem gm_X1_remember : g_mth m_X1_remember 1 := ⟨co_yX1_remember, ini_LivedLinks_History, by decide +kernel, by decide +kernel, by decide +kernel, by decide⟩
theorem gv_X1_remember : Cond.instanceMethod m_X1_remember.1 ∈ lw_gd ∧ Cond.selects m_X1_remember.1.cls m_X1_remember.1 m_X1_remember.1 ∈ lw_gd := ⟨im_yX1_remember, se_yX1_remember⟩
abbrev m_X1_dropOldest : g_M := (yX1_dropOldest, cX1_dropOldest, 3, none, none)
theorem gm_X1_dropOldest : g_mth m_X1_dropOldest 0 := ⟨co_yX1_dropOldest, ini_LivedLinks_History, by decide +kernel, by decide +kernel, by decide +kernel, by decide⟩
theorem gv_X1_dropOldest : Cond.instanceMethod m_X1_dropOldest.1 ∈ lw_gd ∧ Cond.selects m_X1_dropOldest.1.cls m_X1_dropOldest.1 m_X1_dropOldest.1 ∈ lw_gd := ⟨im_yX1_dropOldest, se_yX1_dropOldest⟩
abbrev m_X4_take : g_M := (yX4_take, cX4_take, 2, none, none)
theorem gm_X4_take : g_mth m_X4_take 1 := ⟨co_yX4_take, ini_LivedLinks_Links, by decide +kernel, by decide +kernel, by decide +kernel, by decide⟩
theorem gv_X4_take : Cond.instanceMethod m_X4_take.1 ∈ lw_gd ∧ Cond.selects m_X4_take.1.cls m_X4_take.1 m_X4_take.1 ∈ lw_gd := ⟨im_yX4_take, se_yX4_take⟩
abbrev m_X4_empty : g_M := (yX4_empty, cX4_empty, 1, none, none)
theorem gm_X4_empty : g_mth m_X4_empty 0 := ⟨co_yX4_empty, ini_LivedLinks_Links, by decide +kernel, by decide +kernel, by decide +kernel, by decide⟩
theorem gv_X4_empty : Cond.instanceMethod m_X4_empty.1 ∈ lw_gd ∧ Cond.selects m_X4_empty.1.cls m_X4_empty.1 m_X4_empty.1 ∈ lw_gd := ⟨im_yX4_empty, se_yX4_empty⟩
abbrev m_X4_addAll : g_M := (yX4_addAll, cX4_addAll, 3, none, none)
theorem gm_X4_addAll : g_mth m_X4_addAll 1 := ⟨co_yX4_addAll, ini_LivedLinks_Links, by decide +kernel, by decide +kernel, by decide +kernel, by decide⟩
theorem gv_X4_addAll : Cond.instanceMethod m_X4_addAll.1 ∈ lw_gd ∧ Cond.selects m_X4_addAll.1.cls m_X4_addAll.1 m_X4_addAll.1 ∈ lw_gd := ⟨im_yX4_addAll, se_yX4_addAll⟩
abbrev m_X4_add : g_M := (yX4_add, cX4_add, 5, none, none)
theorem gm_X4_add : g_mth m_X4_add 4 := ⟨co_yX4_add, ini_LivedLinks_Links, by decide +kernel, by decide +kernel, by decide +kernel, by decide⟩
theorem gv_X4_add : Cond.instanceMethod m_X4_add.1 ∈ lw_gd ∧ Cond.selects m_X4_add.1.cls m_X4_add.1 m_X4_add.1 ∈ lw_gd := ⟨im_yX4_add, se_yX4_add⟩
abbrev m_X4_size : g_M := (yX4_size, cX4_size, 1, (some .int), none)
theorem gm_X4_size : g_mth m_X4_size 0 := ⟨co_yX4_size, ini_LivedLinks_Links, by decide +kernel, by decide +kernel, by decide +kernel, by decide⟩
theorem gv_X4_size : Cond.instanceMethod m_X4_size.1 ∈ lw_gd ∧ Cond.selects m_X4_size.1.cls m_X4_size.1 m_X4_size.1 ∈ lw_gd := ⟨im_yX4_size, se_yX4_size⟩
abbrev m_X6_removeLink : g_M := (yX6_removeLink, cX6_removeLink, 2, (some .int), none)
theorem gm_X6_removeLink : g_mth m_X6_removeLink 1 := ⟨co_yX6_removeLink, ini_LivedLinks, by decide +kernel, by decide +kernel, by decide +kernel, by decide⟩
theorem gv_X6_removeLink : Cond.instanceMethod m_X6_removeLink.1 ∈ lw_gd ∧ Cond.selects m_X6_removeLink.1.cls m_X6_removeLink.1 m_X6_removeLink.1 ∈ lw_gd := ⟨im_yX6_removeLink, se_yX6_removeLink⟩
abbrev m_X4_has : g_M := (yX4_has, cX4_has, 2, (some .boolean), none)
theorem gm_X4_has : g_mth m_X4_has 1 := ⟨co_yX4_has, ini_LivedLinks_Links, by decide +kernel, by decide +kernel, by decide +kernel, by decide⟩
theorem gv_X4_has : Cond.instanceMethod m_X4_has.1 ∈ lw_gd ∧ Cond.selects m_X4_has.1.cls m_X4_has.1 m_X4_has.1 ∈ lw_gd := ⟨im_yX4_has, se_yX4_has⟩
abbrev m_X4_removeAt : g_M := (yX4_removeAt, cX4_removeAt, 3, none, none)
theorem gm_X4_removeAt : g_mth m_X4_removeAt 1 := ⟨co_yX4_removeAt, ini_LivedLinks_Links, by decide +kernel, by decide +kernel, by decide +kernel, by decide⟩
theorem gv_X4_removeAt : Cond.instanceMethod m_X4_removeAt.1 ∈ lw_gd ∧ Cond.selects m_X4_removeAt.1.cls m_X4_removeAt.1 m_X4_removeAt.1 ∈ lw_gd := ⟨im_yX4_removeAt, se_yX4_removeAt⟩
abbrev m_X6_setLife : g_M := (yX6_setLife, cX6_setLife, 4, (some .int), none)
theorem gm_X6_setLife : g_mth m_X6_setLife 3 := ⟨co_yX6_setLife, ini_LivedLinks, by decide +kernel, by decide +kernel, by decide +kernel, by decide⟩
theorem gv_X6_setLife : Cond.instanceMethod m_X6_setLife.1 ∈ lw_gd ∧ Cond.selects m_X6_setLife.1.cls m_X6_setLife.1 m_X6_setLife.1 ∈ lw_gd := ⟨im_yX6_setLife, se_yX6_setLife⟩
abbrev m_X4_fromOf : g_M := (yX4_fromOf, cX4_fromOf, 2, (some .int), none)
theorem gm_X4_fromOf : g_mth m_X4_fromOf 1 := ⟨co_yX4_fromOf, ini_LivedLinks_Links, by decide +kernel, by decide +kernel, by decide +kernel, by decide⟩
theorem gv_X4_fromOf : Cond.instanceMethod m_X4_fromOf.1 ∈ lw_gd ∧ Cond.selects m_X4_fromOf.1.cls m_X4_fromOf.1 m_X4_fromOf.1 ∈ lw_gd := ⟨im_yX4_fromOf, se_yX4_fromOf⟩
abbrev m_X4_toOf : g_M := (yX4_toOf, cX4_toOf, 2, (some .int), none)
theorem gm_X4_toOf : g_mth m_X4_toOf 1 := ⟨co_yX4_toOf, ini_LivedLinks_Links, by decide +kernel, by decide +kernel, by decide +kernel, by decide⟩
theorem gv_X4_toOf : Cond.instanceMethod m_X4_toOf.1 ∈ lw_gd ∧ Cond.selects m_X4_toOf.1.cls m_X4_toOf.1 m_X4_toOf.1 ∈ lw_gd := ⟨im_yX4_toOf, se_yX4_toOf⟩
abbrev m_X4_live : g_M := (yX4_live, cX4_live, 4, none, none)
theorem gm_X4_live : g_mth m_X4_live 3 := ⟨co_yX4_live, ini_LivedLinks_Links, by decide +kernel, by decide +kernel, by decide +kernel, by decide⟩
theorem gv_X4_live : Cond.instanceMethod m_X4_live.1 ∈ lw_gd ∧ Cond.selects m_X4_live.1.cls m_X4_live.1 m_X4_live.1 ∈ lw_gd := ⟨im_yX4_live, se_yX4_live⟩
abbrev m_X6_cut : g_M := (yX6_cut, cX6_cut, 3, (some .int), none)
theorem gm_X6_cut : g_mth m_X6_cut 2 := ⟨co_yX6_cut, ini_LivedLinks, by decide +kernel, by decide +kernel, by decide +kernel, by decide⟩
theorem gv_X6_cut : Cond.instanceMethod m_X6_cut.1 ∈ lw_gd ∧ Cond.selects m_X6_cut.1.cls m_X6_cut.1 m_X6_cut.1 ∈ lw_gd := ⟨im_yX6_cut, se_yX6_cut⟩
abbrev m_X4_livesAt : g_M := (yX4_livesAt, cX4_livesAt, 3, (some .boolean), none)
theorem gm_X4_livesAt : g_mth m_X4_livesAt 2 := ⟨co_yX4_livesAt, ini_LivedLinks_Links, by decide +kernel, by decide +kernel, by decide +kernel, by decide⟩
theorem gv_X4_livesAt : Cond.instanceMethod m_X4_livesAt.1 ∈ lw_gd ∧ Cond.selects m_X4_livesAt.1.cls m_X4_livesAt.1 m_X4_livesAt.1 ∈ lw_gd := ⟨im_yX4_livesAt, se_yX4_livesAt⟩
abbrev m_X4_oneOf : g_M := (yX4_oneOf, cX4_oneOf, 2, (some .int), none)
theorem gm_X4_oneOf : g_mth m_X4_oneOf 1 := ⟨co_yX4_oneOf, ini_LivedLinks_Links, by decide +kernel, by decide +kernel, by decide +kernel, by decide⟩
theorem gv_X4_oneOf : Cond.instanceMethod m_X4_oneOf.1 ∈ lw_gd ∧ Cond.selects m_X4_oneOf.1.cls m_X4_oneOf.1 m_X4_oneOf.1 ∈ lw_gd := ⟨im_yX4_oneOf, se_yX4_oneOf⟩
abbrev m_X4_otherOf : g_M := (yX4_otherOf, cX4_otherOf, 2, (some .int), none)
theorem gm_X4_otherOf : g_mth m_X4_otherOf 1 := ⟨co_yX4_otherOf, ini_LivedLinks_Links, by decide +kernel, by decide +kernel, by decide +kernel, by decide⟩
theorem gv_X4_otherOf : Cond.instanceMethod m_X4_otherOf.1 ∈ lw_gd ∧ Cond.selects m_X4_otherOf.1.cls m_X4_otherOf.1 m_X4_otherOf.1 ∈ lw_gd := ⟨im_yX4_otherOf, se_yX4_otherOf⟩
abbrev m_X6_readLinks : g_M := (yX6_readLinks, cX6_readLinks, 2, (some .int), none)
theorem gm_X6_readLinks : g_mth m_X6_readLinks 0 := ⟨co_yX6_readLinks, ini_LivedLinks, by decide +kernel, by decide +kernel, by decide +kernel, by decide⟩
theorem gv_X6_readLinks : Cond.instanceMethod m_X6_readLinks.1 ∈ lw_gd ∧ Cond.selects m_X6_readLinks.1.cls m_X6_readLinks.1 m_X6_readLinks.1 ∈ lw_gd := ⟨im_yX6_readLinks, se_yX6_readLinks⟩
abbrev m_X3_readInto : g_M := (yX3_readInto, cX3_readInto, 3, (some .int), none)
theorem gm_X3_readInto : g_mth m_X3_readInto 1 := ⟨co_yX3_readInto, ini_LivedLinks_LinkText, by decide +kernel, by decide +kernel, by decide +kernel, by decide⟩
theorem gv_X3_readInto : Cond.instanceMethod m_X3_readInto.1 ∈ lw_gd ∧ Cond.selects m_X3_readInto.1.cls m_X3_readInto.1 m_X3_readInto.1 ∈ lw_gd := ⟨im_yX3_readInto, se_yX3_readInto⟩
abbrev m_X3_readLink : g_M := (yX3_readLink, cX3_readLink, 6, (some .boolean), none)
theorem gm_X3_readLink : g_mth m_X3_readLink 1 := ⟨co_yX3_readLink, ini_LivedLinks_LinkText, by decide +kernel, by decide +kernel, by decide +kernel, by decide⟩
theorem gv_X3_readLink : Cond.instanceMethod m_X3_readLink.1 ∈ lw_gd ∧ Cond.selects m_X3_readLink.1.cls m_X3_readLink.1 m_X3_readLink.1 ∈ lw_gd := ⟨im_yX3_readLink, se_yX3_readLink⟩
abbrev m_X3_readNumber : g_M := (yX3_readNumber, cX3_readNumber, 5, (some .int), none)
theorem gm_X3_readNumber : g_mth m_X3_readNumber 1 := ⟨co_yX3_readNumber, ini_LivedLinks_LinkText, by decide +kernel, by decide +kernel, by decide +kernel, by decide⟩
theorem gv_X3_readNumber : Cond.instanceMethod m_X3_readNumber.1 ∈ lw_gd ∧ Cond.selects m_X3_readNumber.1.cls m_X3_readNumber.1 m_X3_readNumber.1 ∈ lw_gd := ⟨im_yX3_readNumber, se_yX3_readNumber⟩
abbrev m_X3_digitAt : g_M := (yX3_digitAt, cX3_digitAt, 3, (some .int), none)
theorem gm_X3_digitAt : g_mth m_X3_digitAt 1 := ⟨co_yX3_digitAt, ini_LivedLinks_LinkText, by decide +kernel, by decide +kernel, by decide +kernel, by decide⟩
theorem gv_X3_digitAt : Cond.instanceMethod m_X3_digitAt.1 ∈ lw_gd ∧ Cond.selects m_X3_digitAt.1.cls m_X3_digitAt.1 m_X3_digitAt.1 ∈ lw_gd := ⟨im_yX3_digitAt, se_yX3_digitAt⟩
abbrev m_X3_readSign : g_M := (yX3_readSign, cX3_readSign, 2, (some .boolean), none)
theorem gm_X3_readSign : g_mth m_X3_readSign 1 := ⟨co_yX3_readSign, ini_LivedLinks_LinkText, by decide +kernel, by decide +kernel, by decide +kernel, by decide⟩
theorem gv_X3_readSign : Cond.instanceMethod m_X3_readSign.1 ∈ lw_gd ∧ Cond.selects m_X3_readSign.1.cls m_X3_readSign.1 m_X3_readSign.1 ∈ lw_gd := ⟨im_yX3_readSign, se_yX3_readSign⟩
abbrev m_X3_refuseLastDigit : g_M := (yX3_refuseLastDigit, cX3_refuseLastDigit, 1, (some .boolean), none)
theorem gm_X3_refuseLastDigit : g_mth m_X3_refuseLastDigit 0 := ⟨co_yX3_refuseLastDigit, ini_LivedLinks_LinkText, by decide +kernel, by decide +kernel, by decide +kernel, by decide⟩
theorem gv_X3_refuseLastDigit : Cond.instanceMethod m_X3_refuseLastDigit.1 ∈ lw_gd ∧ Cond.selects m_X3_refuseLastDigit.1.cls m_X3_refuseLastDigit.1 m_X3_refuseLastDigit.1 ∈ lw_gd := ⟨im_yX3_refuseLastDigit, se_yX3_refuseLastDigit⟩
abbrev m_X6_clear : g_M := (yX6_clear, cX6_clear, 3, (some .int), none)
theorem gm_X6_clear : g_mth m_X6_clear 1 := ⟨co_yX6_clear, ini_LivedLinks, by decide +kernel, by decide +kernel, by decide +kernel, by decide⟩
theorem gv_X6_clear : Cond.instanceMethod m_X6_clear.1 ∈ lw_gd ∧ Cond.selects m_X6_clear.1.cls m_X6_clear.1 m_X6_clear.1 ∈ lw_gd := ⟨im_yX6_clear, se_yX6_clear⟩
abbrev m_X4_livingAt : g_M := (yX4_livingAt, cX4_livingAt, 4, (some .int), none)
theorem gm_X4_livingAt : g_mth m_X4_livingAt 1 := ⟨co_yX4_livingAt, ini_LivedLinks_Links, by decide +kernel, by decide +kernel, by decide +kernel, by decide⟩
theorem gv_X4_livingAt : Cond.instanceMethod m_X4_livingAt.1 ∈ lw_gd ∧ Cond.selects m_X4_livingAt.1.cls m_X4_livingAt.1 m_X4_livingAt.1 ∈ lw_gd := ⟨im_yX4_livingAt, se_yX4_livingAt⟩
abbrev m_X4_removeLivingAt : g_M := (yX4_removeLivingAt, cX4_removeLivingAt, 3, none, none)
theorem gm_X4_removeLivingAt : g_mth m_X4_removeLivingAt 1 := ⟨co_yX4_removeLivingAt, ini_LivedLinks_Links, by decide +kernel, by decide +kernel, by decide +kernel, by decide⟩
theorem gv_X4_removeLivingAt : Cond.instanceMethod m_X4_removeLivingAt.1 ∈ lw_gd ∧ Cond.selects m_X4_removeLivingAt.1.cls m_X4_removeLivingAt.1 m_X4_removeLivingAt.1 ∈ lw_gd := ⟨im_yX4_removeLivingAt, se_yX4_removeLivingAt⟩
abbrev m_X6_type : g_M := (yX6_type, cX6_type, 2, (some .int), none)
theorem gm_X6_type : g_mth m_X6_type 1 := ⟨co_yX6_type, ini_LivedLinks, by decide +kernel, by decide +kernel, by decide +kernel, by decide⟩
theorem gv_X6_type : Cond.instanceMethod m_X6_type.1 ∈ lw_gd ∧ Cond.selects m_X6_type.1.cls m_X6_type.1 m_X6_type.1 ∈ lw_gd := ⟨im_yX6_type, se_yX6_type⟩
abbrev m_X3_length : g_M := (yX3_length, cX3_length, 1, (some .int), none)
theorem gm_X3_length : g_mth m_X3_length 0 := ⟨co_yX3_length, ini_LivedLinks_LinkText, by decide +kernel, by decide +kernel, by decide +kernel, by decide⟩
theorem gv_X3_length : Cond.instanceMethod m_X3_length.1 ∈ lw_gd ∧ Cond.selects m_X3_length.1.cls m_X3_length.1 m_X3_length.1 ∈ lw_gd := ⟨im_yX3_length, se_yX3_length⟩
abbrev m_X3_append : g_M := (yX3_append, cX3_append, 2, none, none)
theorem gm_X3_append : g_mth m_X3_append 1 := ⟨co_yX3_append, ini_LivedLinks_LinkText, by decide +kernel, by decide +kernel, by decide +kernel, by decide⟩
theorem gv_X3_append : Cond.instanceMethod m_X3_append.1 ∈ lw_gd ∧ Cond.selects m_X3_append.1.cls m_X3_append.1 m_X3_append.1 ∈ lw_gd := ⟨im_yX3_append, se_yX3_append⟩
abbrev m_X6_clearText : g_M := (yX6_clearText, cX6_clearText, 2, (some .int), none)
theorem gm_X6_clearText : g_mth m_X6_clearText 0 := ⟨co_yX6_clearText, ini_LivedLinks, by decide +kernel, by decide +kernel, by decide +kernel, by decide⟩
theorem gv_X6_clearText : Cond.instanceMethod m_X6_clearText.1 ∈ lw_gd ∧ Cond.selects m_X6_clearText.1.cls m_X6_clearText.1 m_X6_clearText.1 ∈ lw_gd := ⟨im_yX6_clearText, se_yX6_clearText⟩
abbrev m_X3_empty : g_M := (yX3_empty, cX3_empty, 1, none, none)
theorem gm_X3_empty : g_mth m_X3_empty 0 := ⟨co_yX3_empty, ini_LivedLinks_LinkText, by decide +kernel, by decide +kernel, by decide +kernel, by decide⟩
theorem gv_X3_empty : Cond.instanceMethod m_X3_empty.1 ∈ lw_gd ∧ Cond.selects m_X3_empty.1.cls m_X3_empty.1 m_X3_empty.1 ∈ lw_gd := ⟨im_yX3_empty, se_yX3_empty⟩
abbrev m_X6_undo : g_M := (yX6_undo, cX6_undo, 1, (some .int), none)
theorem gm_X6_undo : g_mth m_X6_undo 0 := ⟨co_yX6_undo, ini_LivedLinks, by decide +kernel, by decide +kernel, by decide +kernel, by decide⟩
theorem gv_X6_undo : Cond.instanceMethod m_X6_undo.1 ∈ lw_gd ∧ Cond.selects m_X6_undo.1.cls m_X6_undo.1 m_X6_undo.1 ∈ lw_gd := ⟨im_yX6_undo, se_yX6_undo⟩
abbrev m_X1_size : g_M := (yX1_size, cX1_size, 1, (some .int), none)
theorem gm_X1_size : g_mth m_X1_size 0 := ⟨co_yX1_size, ini_LivedLinks_History, by decide +kernel, by decide +kernel, by decide +kernel, by decide⟩
theorem gv_X1_size : Cond.instanceMethod m_X1_size.1 ∈ lw_gd ∧ Cond.selects m_X1_size.1.cls m_X1_size.1 m_X1_size.1 ∈ lw_gd := ⟨im_yX1_size, se_yX1_size⟩
abbrev m_X1_goBack : g_M := (yX1_goBack, cX1_goBack, 3, none, none)
theorem gm_X1_goBack : g_mth m_X1_goBack 1 := ⟨co_yX1_goBack, ini_LivedLinks_History, by decide +kernel, by decide +kernel, by decide +kernel, by decide⟩
theorem gv_X1_goBack : Cond.instanceMethod m_X1_goBack.1 ∈ lw_gd ∧ Cond.selects m_X1_goBack.1.cls m_X1_goBack.1 m_X1_goBack.1 ∈ lw_gd := ⟨im_yX1_goBack, se_yX1_goBack⟩
abbrev m_X6_keep : g_M := (yX6_keep, cX6_keep, 1, (some .int), none)
theorem gm_X6_keep : g_mth m_X6_keep 0 := ⟨co_yX6_keep, ini_LivedLinks, by decide +kernel, by decide +kernel, by decide +kernel, by decide⟩
theorem gv_X6_keep : Cond.instanceMethod m_X6_keep.1 ∈ lw_gd ∧ Cond.selects m_X6_keep.1.cls m_X6_keep.1 m_X6_keep.1 ∈ lw_gd := ⟨im_yX6_keep, se_yX6_keep⟩
abbrev m_X6_restore : g_M := (yX6_restore, cX6_restore, 1, (some .int), none)
theorem gm_X6_restore : g_mth m_X6_restore 0 := ⟨co_yX6_restore, ini_LivedLinks, by decide +kernel, by decide +kernel, by decide +kernel, by decide⟩
theorem gv_X6_restore : Cond.instanceMethod m_X6_restore.1 ∈ lw_gd ∧ Cond.selects m_X6_restore.1.cls m_X6_restore.1 m_X6_restore.1 ∈ lw_gd := ⟨im_yX6_restore, se_yX6_restore⟩
abbrev m_X6_link : g_M := (yX6_link, cX6_link, 3, (some .int), none)
theorem gm_X6_link : g_mth m_X6_link 2 := ⟨co_yX6_link, ini_LivedLinks, by decide +kernel, by decide +kernel, by decide +kernel, by decide⟩
theorem gv_X6_link : Cond.instanceMethod m_X6_link.1 ∈ lw_gd ∧ Cond.selects m_X6_link.1.cls m_X6_link.1 m_X6_link.1 ∈ lw_gd := ⟨im_yX6_link, se_yX6_link⟩
abbrev m_X4_spansOf : g_M := (yX4_spansOf, cX4_spansOf, 5, (some .int), none)
theorem gm_X4_spansOf : g_mth m_X4_spansOf 1 := ⟨co_yX4_spansOf, ini_LivedLinks_Links, by decide +kernel, by decide +kernel, by decide +kernel, by decide⟩
theorem gv_X4_spansOf : Cond.instanceMethod m_X4_spansOf.1 ∈ lw_gd ∧ Cond.selects m_X4_spansOf.1.cls m_X4_spansOf.1 m_X4_spansOf.1 ∈ lw_gd := ⟨im_yX4_spansOf, se_yX4_spansOf⟩
abbrev m_X6_spanBegin : g_M := (yX6_spanBegin, cX6_spanBegin, 2, (some .int), none)
theorem gm_X6_spanBegin : g_mth m_X6_spanBegin 2 := ⟨co_yX6_spanBegin, ini_LivedLinks, by decide +kernel, by decide +kernel, by decide +kernel, by decide⟩
abbrev m_X6_spanLength : g_M := (yX6_spanLength, cX6_spanLength, 1, (some .int), none)
theorem gm_X6_spanLength : g_mth m_X6_spanLength 1 := ⟨co_yX6_spanLength, ini_LivedLinks, by decide +kernel, by decide +kernel, by decide +kernel, by decide⟩
abbrev m_X4_isLaidAt : g_M := (yX4_isLaidAt, cX4_isLaidAt, 4, (some .boolean), none)
theorem gm_X4_isLaidAt : g_mth m_X4_isLaidAt 3 := ⟨co_yX4_isLaidAt, ini_LivedLinks_Links, by decide +kernel, by decide +kernel, by decide +kernel, by decide⟩
theorem gv_X4_isLaidAt : Cond.instanceMethod m_X4_isLaidAt.1 ∈ lw_gd ∧ Cond.selects m_X4_isLaidAt.1.cls m_X4_isLaidAt.1 m_X4_isLaidAt.1 ∈ lw_gd := ⟨im_yX4_isLaidAt, se_yX4_isLaidAt⟩
abbrev m_X4_coversAll : g_M := (yX4_coversAll, cX4_coversAll, 4, (some .boolean), none)
theorem gm_X4_coversAll : g_mth m_X4_coversAll 3 := ⟨co_yX4_coversAll, ini_LivedLinks_Links, by decide +kernel, by decide +kernel, by decide +kernel, by decide⟩
theorem gv_X4_coversAll : Cond.instanceMethod m_X4_coversAll.1 ∈ lw_gd ∧ Cond.selects m_X4_coversAll.1.cls m_X4_coversAll.1 m_X4_coversAll.1 ∈ lw_gd := ⟨im_yX4_coversAll, se_yX4_coversAll⟩
abbrev m_X5_neededMomentsOf : g_M := (yX5_neededMomentsOf, cX5_neededMomentsOf, 5, (some .int), none)
theorem gm_X5_neededMomentsOf : g_mth m_X5_neededMomentsOf 2 := ⟨co_yX5_neededMomentsOf, ini_LivedLinks_Moments, by decide +kernel, by decide +kernel, by decide +kernel, by decide⟩
theorem gv_X5_neededMomentsOf : Cond.instanceMethod m_X5_neededMomentsOf.1 ∈ lw_gd ∧ Cond.selects m_X5_neededMomentsOf.1.cls m_X5_neededMomentsOf.1 m_X5_neededMomentsOf.1 ∈ lw_gd := ⟨im_yX5_neededMomentsOf, se_yX5_neededMomentsOf⟩
abbrev m_X5_isNeededAt : g_M := (yX5_isNeededAt, cX5_isNeededAt, 4, (some .boolean), none)
theorem gm_X5_isNeededAt : g_mth m_X5_isNeededAt 3 := ⟨co_yX5_isNeededAt, ini_LivedLinks_Moments, by decide +kernel, by decide +kernel, by decide +kernel, by decide⟩
theorem gv_X5_isNeededAt : Cond.instanceMethod m_X5_isNeededAt.1 ∈ lw_gd ∧ Cond.selects m_X5_isNeededAt.1.cls m_X5_isNeededAt.1 m_X5_isNeededAt.1 ∈ lw_gd := ⟨im_yX5_isNeededAt, se_yX5_isNeededAt⟩
abbrev m_X5_joinWithout : g_M := (yX5_joinWithout, cX5_joinWithout, 5, none, none)
theorem gm_X5_joinWithout : g_mth m_X5_joinWithout 3 := ⟨co_yX5_joinWithout, ini_LivedLinks_Moments, by decide +kernel, by decide +kernel, by decide +kernel, by decide⟩
theorem gv_X5_joinWithout : Cond.instanceMethod m_X5_joinWithout.1 ∈ lw_gd ∧ Cond.selects m_X5_joinWithout.1.cls m_X5_joinWithout.1 m_X5_joinWithout.1 ∈ lw_gd := ⟨im_yX5_joinWithout, se_yX5_joinWithout⟩
abbrev m_X2_takeBackTo : g_M := (yX2_takeBackTo, cX2_takeBackTo, 3, none, none)
theorem gm_X2_takeBackTo : g_mth m_X2_takeBackTo 1 := ⟨co_yX2_takeBackTo, ini_LivedLinks_Joinings, by decide +kernel, by decide +kernel, by decide +kernel, by decide⟩
theorem gv_X2_takeBackTo : Cond.instanceMethod m_X2_takeBackTo.1 ∈ lw_gd ∧ Cond.selects m_X2_takeBackTo.1.cls m_X2_takeBackTo.1 m_X2_takeBackTo.1 ∈ lw_gd := ⟨im_yX2_takeBackTo, se_yX2_takeBackTo⟩
abbrev m_X2_takeOff : g_M := (yX2_takeOff, cX2_takeOff, 3, none, none)
theorem gm_X2_takeOff : g_mth m_X2_takeOff 1 := ⟨co_yX2_takeOff, ini_LivedLinks_Joinings, by decide +kernel, by decide +kernel, by decide +kernel, by decide⟩
theorem gv_X2_takeOff : Cond.instanceMethod m_X2_takeOff.1 ∈ lw_gd ∧ Cond.selects m_X2_takeOff.1.cls m_X2_takeOff.1 m_X2_takeOff.1 ∈ lw_gd := ⟨im_yX2_takeOff, se_yX2_takeOff⟩
abbrev m_X2_has : g_M := (yX2_has, cX2_has, 2, (some .boolean), none)
theorem gm_X2_has : g_mth m_X2_has 1 := ⟨co_yX2_has, ini_LivedLinks_Joinings, by decide +kernel, by decide +kernel, by decide +kernel, by decide⟩
theorem gv_X2_has : Cond.instanceMethod m_X2_has.1 ∈ lw_gd ∧ Cond.selects m_X2_has.1.cls m_X2_has.1 m_X2_has.1 ∈ lw_gd := ⟨im_yX2_has, se_yX2_has⟩
abbrev m_X2_join : g_M := (yX2_join, cX2_join, 6, none, none)
theorem gm_X2_join : g_mth m_X2_join 2 := ⟨co_yX2_join, ini_LivedLinks_Joinings, by decide +kernel, by decide +kernel, by decide +kernel, by decide⟩
theorem gv_X2_join : Cond.instanceMethod m_X2_join.1 ∈ lw_gd ∧ Cond.selects m_X2_join.1.cls m_X2_join.1 m_X2_join.1 ∈ lw_gd := ⟨im_yX2_join, se_yX2_join⟩
abbrev m_X2_topOf : g_M := (yX2_topOf, cX2_topOf, 4, (some .int), none)
theorem gm_X2_topOf : g_mth m_X2_topOf 1 := ⟨co_yX2_topOf, ini_LivedLinks_Joinings, by decide +kernel, by decide +kernel, by decide +kernel, by decide⟩
theorem gv_X2_topOf : Cond.instanceMethod m_X2_topOf.1 ∈ lw_gd ∧ Cond.selects m_X2_topOf.1.cls m_X2_topOf.1 m_X2_topOf.1 ∈ lw_gd := ⟨im_yX2_topOf, se_yX2_topOf⟩
abbrev m_X2_areJoined : g_M := (yX2_areJoined, cX2_areJoined, 3, (some .boolean), none)
theorem gm_X2_areJoined : g_mth m_X2_areJoined 2 := ⟨co_yX2_areJoined, ini_LivedLinks_Joinings, by decide +kernel, by decide +kernel, by decide +kernel, by decide⟩
theorem gv_X2_areJoined : Cond.instanceMethod m_X2_areJoined.1 ∈ lw_gd ∧ Cond.selects m_X2_areJoined.1.cls m_X2_areJoined.1 m_X2_areJoined.1 ∈ lw_gd := ⟨im_yX2_areJoined, se_yX2_areJoined⟩
abbrev m_X6_joined : g_M := (yX6_joined, cX6_joined, 4, (some .int), none)
theorem gm_X6_joined : g_mth m_X6_joined 3 := ⟨co_yX6_joined, ini_LivedLinks, by decide +kernel, by decide +kernel, by decide +kernel, by decide⟩
theorem gv_X6_joined : Cond.instanceMethod m_X6_joined.1 ∈ lw_gd ∧ Cond.selects m_X6_joined.1.cls m_X6_joined.1 m_X6_joined.1 ∈ lw_gd := ⟨im_yX6_joined, se_yX6_joined⟩
abbrev m_X5_areJoinedAt : g_M := (yX5_areJoinedAt, cX5_areJoinedAt, 5, (some .boolean), none)
theorem gm_X5_areJoinedAt : g_mth m_X5_areJoinedAt 4 := ⟨co_yX5_areJoinedAt, ini_LivedLinks_Moments, by decide +kernel, by decide +kernel, by decide +kernel, by decide⟩
theorem gv_X5_areJoinedAt : Cond.instanceMethod m_X5_areJoinedAt.1 ∈ lw_gd ∧ Cond.selects m_X5_areJoinedAt.1.cls m_X5_areJoinedAt.1 m_X5_areJoinedAt.1 ∈ lw_gd := ⟨im_yX5_areJoinedAt, se_yX5_areJoinedAt⟩
abbrev m_X6_asNumber : g_M := (yX6_asNumber, cX6_asNumber, 1, (some .int), none)
theorem gm_X6_asNumber : g_mth m_X6_asNumber 1 := ⟨co_yX6_asNumber, ini_LivedLinks, by decide +kernel, by decide +kernel, by decide +kernel, by decide⟩
abbrev m_X6_moment : g_M := (yX6_moment, cX6_moment, 3, (some .int), none)
theorem gm_X6_moment : g_mth m_X6_moment 2 := ⟨co_yX6_moment, ini_LivedLinks, by decide +kernel, by decide +kernel, by decide +kernel, by decide⟩
theorem gv_X6_moment : Cond.instanceMethod m_X6_moment.1 ∈ lw_gd ∧ Cond.selects m_X6_moment.1.cls m_X6_moment.1 m_X6_moment.1 ∈ lw_gd := ⟨im_yX6_moment, se_yX6_moment⟩
abbrev m_X5_partsAt : g_M := (yX5_partsAt, cX5_partsAt, 3, (some .int), none)
theorem gm_X5_partsAt : g_mth m_X5_partsAt 2 := ⟨co_yX5_partsAt, ini_LivedLinks_Moments, by decide +kernel, by decide +kernel, by decide +kernel, by decide⟩
theorem gv_X5_partsAt : Cond.instanceMethod m_X5_partsAt.1 ∈ lw_gd ∧ Cond.selects m_X5_partsAt.1.cls m_X5_partsAt.1 m_X5_partsAt.1 ∈ lw_gd := ⟨im_yX5_partsAt, se_yX5_partsAt⟩
abbrev m_X2_standing : g_M := (yX2_standing, cX2_standing, 1, (some .int), none)
theorem gm_X2_standing : g_mth m_X2_standing 0 := ⟨co_yX2_standing, ini_LivedLinks_Joinings, by decide +kernel, by decide +kernel, by decide +kernel, by decide⟩
theorem gv_X2_standing : Cond.instanceMethod m_X2_standing.1 ∈ lw_gd ∧ Cond.selects m_X2_standing.1.cls m_X2_standing.1 m_X2_standing.1 ∈ lw_gd := ⟨im_yX2_standing, se_yX2_standing⟩
abbrev m_X5_isOddAt : g_M := (yX5_isOddAt, cX5_isOddAt, 4, (some .boolean), none)
theorem gm_X5_isOddAt : g_mth m_X5_isOddAt 2 := ⟨co_yX5_isOddAt, ini_LivedLinks_Moments, by decide +kernel, by decide +kernel, by decide +kernel, by decide⟩
theorem gv_X5_isOddAt : Cond.instanceMethod m_X5_isOddAt.1 ∈ lw_gd ∧ Cond.selects m_X5_isOddAt.1.cls m_X5_isOddAt.1 m_X5_isOddAt.1 ∈ lw_gd := ⟨im_yX5_isOddAt, se_yX5_isOddAt⟩
abbrev m_X5_greatestPartAt : g_M := (yX5_greatestPartAt, cX5_greatestPartAt, 5, (some .int), none)
theorem gm_X5_greatestPartAt : g_mth m_X5_greatestPartAt 2 := ⟨co_yX5_greatestPartAt, ini_LivedLinks_Moments, by decide +kernel, by decide +kernel, by decide +kernel, by decide⟩
theorem gv_X5_greatestPartAt : Cond.instanceMethod m_X5_greatestPartAt.1 ∈ lw_gd ∧ Cond.selects m_X5_greatestPartAt.1.cls m_X5_greatestPartAt.1 m_X5_greatestPartAt.1 ∈ lw_gd := ⟨im_yX5_greatestPartAt, se_yX5_greatestPartAt⟩
abbrev m_X2_partSize : g_M := (yX2_partSize, cX2_partSize, 3, (some .int), none)
theorem gm_X2_partSize : g_mth m_X2_partSize 1 := ⟨co_yX2_partSize, ini_LivedLinks_Joinings, by decide +kernel, by decide +kernel, by decide +kernel, by decide⟩
theorem gv_X2_partSize : Cond.instanceMethod m_X2_partSize.1 ∈ lw_gd ∧ Cond.selects m_X2_partSize.1.cls m_X2_partSize.1 m_X2_partSize.1 ∈ lw_gd := ⟨im_yX2_partSize, se_yX2_partSize⟩
abbrev m_X5_neededLinksAt : g_M := (yX5_neededLinksAt, cX5_neededLinksAt, 5, (some .int), none)
theorem gm_X5_neededLinksAt : g_mth m_X5_neededLinksAt 2 := ⟨co_yX5_neededLinksAt, ini_LivedLinks_Moments, by decide +kernel, by decide +kernel, by decide +kernel, by decide⟩
theorem gv_X5_neededLinksAt : Cond.instanceMethod m_X5_neededLinksAt.1 ∈ lw_gd ∧ Cond.selects m_X5_neededLinksAt.1.cls m_X5_neededLinksAt.1 m_X5_neededLinksAt.1 ∈ lw_gd := ⟨im_yX5_neededLinksAt, se_yX5_neededLinksAt⟩
abbrev m_X5_linklessPointsAt : g_M := (yX5_linklessPointsAt, cX5_linklessPointsAt, 5, (some .int), none)
theorem gm_X5_linklessPointsAt : g_mth m_X5_linklessPointsAt 2 := ⟨co_yX5_linklessPointsAt, ini_LivedLinks_Moments, by decide +kernel, by decide +kernel, by decide +kernel, by decide⟩
theorem gv_X5_linklessPointsAt : Cond.instanceMethod m_X5_linklessPointsAt.1 ∈ lw_gd ∧ Cond.selects m_X5_linklessPointsAt.1.cls m_X5_linklessPointsAt.1 m_X5_linklessPointsAt.1 ∈ lw_gd := ⟨im_yX5_linklessPointsAt, se_yX5_linklessPointsAt⟩
abbrev m_X6_part : g_M := (yX6_part, cX6_part, 4, (some .int), none)
theorem gm_X6_part : g_mth m_X6_part 3 := ⟨co_yX6_part, ini_LivedLinks, by decide +kernel, by decide +kernel, by decide +kernel, by decide⟩
theorem gv_X6_part : Cond.instanceMethod m_X6_part.1 ∈ lw_gd ∧ Cond.selects m_X6_part.1.cls m_X6_part.1 m_X6_part.1 ∈ lw_gd := ⟨im_yX6_part, se_yX6_part⟩
abbrev m_X5_lowestOfPartAt : g_M := (yX5_lowestOfPartAt, cX5_lowestOfPartAt, 5, (some .int), none)
theorem gm_X5_lowestOfPartAt : g_mth m_X5_lowestOfPartAt 3 := ⟨co_yX5_lowestOfPartAt, ini_LivedLinks_Moments, by decide +kernel, by decide +kernel, by decide +kernel, by decide⟩
theorem gv_X5_lowestOfPartAt : Cond.instanceMethod m_X5_lowestOfPartAt.1 ∈ lw_gd ∧ Cond.selects m_X5_lowestOfPartAt.1.cls m_X5_lowestOfPartAt.1 m_X5_lowestOfPartAt.1 ∈ lw_gd := ⟨im_yX5_lowestOfPartAt, se_yX5_lowestOfPartAt⟩
abbrev m_X5_partSizeAt : g_M := (yX5_partSizeAt, cX5_partSizeAt, 4, (some .int), none)
theorem gm_X5_partSizeAt : g_mth m_X5_partSizeAt 3 := ⟨co_yX5_partSizeAt, ini_LivedLinks_Moments, by decide +kernel, by decide +kernel, by decide +kernel, by decide⟩
theorem gv_X5_partSizeAt : Cond.instanceMethod m_X5_partSizeAt.1 ∈ lw_gd ∧ Cond.selects m_X5_partSizeAt.1.cls m_X5_partSizeAt.1 m_X5_partSizeAt.1 ∈ lw_gd := ⟨im_yX5_partSizeAt, se_yX5_partSizeAt⟩
abbrev m_X5_partBitsAt : g_M := (yX5_partBitsAt, cX5_partBitsAt, 6, (some .int), none)
theorem gm_X5_partBitsAt : g_mth m_X5_partBitsAt 3 := ⟨co_yX5_partBitsAt, ini_LivedLinks_Moments, by decide +kernel, by decide +kernel, by decide +kernel, by decide⟩
theorem gv_X5_partBitsAt : Cond.instanceMethod m_X5_partBitsAt.1 ∈ lw_gd ∧ Cond.selects m_X5_partBitsAt.1.cls m_X5_partBitsAt.1 m_X5_partBitsAt.1 ∈ lw_gd := ⟨im_yX5_partBitsAt, se_yX5_partBitsAt⟩
abbrev m_X6_needed : g_M := (yX6_needed, cX6_needed, 3, (some .int), none)
theorem gm_X6_needed : g_mth m_X6_needed 2 := ⟨co_yX6_needed, ini_LivedLinks, by decide +kernel, by decide +kernel, by decide +kernel, by decide⟩
theorem gv_X6_needed : Cond.instanceMethod m_X6_needed.1 ∈ lw_gd ∧ Cond.selects m_X6_needed.1.cls m_X6_needed.1 m_X6_needed.1 ∈ lw_gd := ⟨im_yX6_needed, se_yX6_needed⟩
abbrev m_X6_together : g_M := (yX6_together, cX6_together, 11, (some .int), none)
theorem gm_X6_together : g_mth m_X6_together 3 := ⟨co_yX6_together, ini_LivedLinks, by decide +kernel, by decide +kernel, by decide +kernel, by decide⟩
theorem gv_X6_together : Cond.instanceMethod m_X6_together.1 ∈ lw_gd ∧ Cond.selects m_X6_together.1.cls m_X6_together.1 m_X6_together.1 ∈ lw_gd := ⟨im_yX6_together, se_yX6_together⟩
abbrev m_X6_odd : g_M := (yX6_odd, cX6_odd, 3, (some .int), none)
theorem gm_X6_odd : g_mth m_X6_odd 1 := ⟨co_yX6_odd, ini_LivedLinks, by decide +kernel, by decide +kernel, by decide +kernel, by decide⟩
theorem gv_X6_odd : Cond.instanceMethod m_X6_odd.1 ∈ lw_gd ∧ Cond.selects m_X6_odd.1.cls m_X6_odd.1 m_X6_odd.1 ∈ lw_gd := ⟨im_yX6_odd, se_yX6_odd⟩
abbrev m_X6_span : g_M := (yX6_span, cX6_span, 4, (some .int), none)
theorem gm_X6_span : g_mth m_X6_span 3 := ⟨co_yX6_span, ini_LivedLinks, by decide +kernel, by decide +kernel, by decide +kernel, by decide⟩
theorem gv_X6_span : Cond.instanceMethod m_X6_span.1 ∈ lw_gd ∧ Cond.selects m_X6_span.1.cls m_X6_span.1 m_X6_span.1 ∈ lw_gd := ⟨im_yX6_span, se_yX6_span⟩
abbrev m_X0_goTo : g_M := (yX0_goTo, cX0_goTo, 5, none, none)
theorem gm_X0_goTo : g_mth m_X0_goTo 3 := ⟨co_yX0_goTo, ini_LivedLinks_HalvesWay, by decide +kernel, by decide +kernel, by decide +kernel, by decide⟩
theorem gv_X0_goTo : Cond.instanceMethod m_X0_goTo.1 ∈ lw_gd ∧ Cond.selects m_X0_goTo.1.cls m_X0_goTo.1 m_X0_goTo.1 ∈ lw_gd := ⟨im_yX0_goTo, se_yX0_goTo⟩
abbrev m_X0_joinLaid : g_M := (yX0_joinLaid, cX0_joinLaid, 6, none, none)
theorem gm_X0_joinLaid : g_mth m_X0_joinLaid 3 := ⟨co_yX0_joinLaid, ini_LivedLinks_HalvesWay, by decide +kernel, by decide +kernel, by decide +kernel, by decide⟩
theorem gv_X0_joinLaid : Cond.instanceMethod m_X0_joinLaid.1 ∈ lw_gd ∧ Cond.selects m_X0_joinLaid.1.cls m_X0_joinLaid.1 m_X0_joinLaid.1 ∈ lw_gd := ⟨im_yX0_joinLaid, se_yX0_joinLaid⟩
abbrev m_X0_laidHere : g_M := (yX0_laidHere, cX0_laidHere, 1, (some .int), none)
theorem gm_X0_laidHere : g_mth m_X0_laidHere 0 := ⟨co_yX0_laidHere, ini_LivedLinks_HalvesWay, by decide +kernel, by decide +kernel, by decide +kernel, by decide⟩
theorem gv_X0_laidHere : Cond.instanceMethod m_X0_laidHere.1 ∈ lw_gd ∧ Cond.selects m_X0_laidHere.1.cls m_X0_laidHere.1 m_X0_laidHere.1 ∈ lw_gd := ⟨im_yX0_laidHere, se_yX0_laidHere⟩
abbrev m_X0_madeHere : g_M := (yX0_madeHere, cX0_madeHere, 1, (some .int), none)
theorem gm_X0_madeHere : g_mth m_X0_madeHere 0 := ⟨co_yX0_madeHere, ini_LivedLinks_HalvesWay, by decide +kernel, by decide +kernel, by decide +kernel, by decide⟩
theorem gv_X0_madeHere : Cond.instanceMethod m_X0_madeHere.1 ∈ lw_gd ∧ Cond.selects m_X0_madeHere.1.cls m_X0_madeHere.1 m_X0_madeHere.1 ∈ lw_gd := ⟨im_yX0_madeHere, se_yX0_madeHere⟩
abbrev m_X6_count : g_M := (yX6_count, cX6_count, 2, (some .int), none)
theorem gm_X6_count : g_mth m_X6_count 1 := ⟨co_yX6_count, ini_LivedLinks, by decide +kernel, by decide +kernel, by decide +kernel, by decide⟩
theorem gv_X6_count : Cond.instanceMethod m_X6_count.1 ∈ lw_gd ∧ Cond.selects m_X6_count.1.cls m_X6_count.1 m_X6_count.1 ∈ lw_gd := ⟨im_yX6_count, se_yX6_count⟩
abbrev m_X6_countOnWay : g_M := (yX6_countOnWay, cX6_countOnWay, 2, (some .int), none)
theorem gm_X6_countOnWay : g_mth m_X6_countOnWay 1 := ⟨co_yX6_countOnWay, ini_LivedLinks, by decide +kernel, by decide +kernel, by decide +kernel, by decide⟩
theorem gv_X6_countOnWay : Cond.instanceMethod m_X6_countOnWay.1 ∈ lw_gd ∧ Cond.selects m_X6_countOnWay.1.cls m_X6_countOnWay.1 m_X6_countOnWay.1 ∈ lw_gd := ⟨im_yX6_countOnWay, se_yX6_countOnWay⟩
abbrev m_X0_goAll : g_M := (yX0_goAll, cX0_goAll, 4, none, none)
theorem gm_X0_goAll : g_mth m_X0_goAll 1 := ⟨co_yX0_goAll, ini_LivedLinks_HalvesWay, by decide +kernel, by decide +kernel, by decide +kernel, by decide⟩
theorem gv_X0_goAll : Cond.instanceMethod m_X0_goAll.1 ∈ lw_gd ∧ Cond.selects m_X0_goAll.1.cls m_X0_goAll.1 m_X0_goAll.1 ∈ lw_gd := ⟨im_yX0_goAll, se_yX0_goAll⟩
abbrev m_X0_madeInAll : g_M := (yX0_madeInAll, cX0_madeInAll, 1, (some .int), none)
theorem gm_X0_madeInAll : g_mth m_X0_madeInAll 0 := ⟨co_yX0_madeInAll, ini_LivedLinks_HalvesWay, by decide +kernel, by decide +kernel, by decide +kernel, by decide⟩
theorem gv_X0_madeInAll : Cond.instanceMethod m_X0_madeInAll.1 ∈ lw_gd ∧ Cond.selects m_X0_madeInAll.1.cls m_X0_madeInAll.1 m_X0_madeInAll.1 ∈ lw_gd := ⟨im_yX0_madeInAll, se_yX0_madeInAll⟩
abbrev m_X0_idleInAll : g_M := (yX0_idleInAll, cX0_idleInAll, 1, (some .int), none)
theorem gm_X0_idleInAll : g_mth m_X0_idleInAll 0 := ⟨co_yX0_idleInAll, ini_LivedLinks_HalvesWay, by decide +kernel, by decide +kernel, by decide +kernel, by decide⟩
theorem gv_X0_idleInAll : Cond.instanceMethod m_X0_idleInAll.1 ∈ lw_gd ∧ Cond.selects m_X0_idleInAll.1.cls m_X0_idleInAll.1 m_X0_idleInAll.1 ∈ lw_gd := ⟨im_yX0_idleInAll, se_yX0_idleInAll⟩
abbrev m_X0_mostStanding : g_M := (yX0_mostStanding, cX0_mostStanding, 1, (some .int), none)
theorem gm_X0_mostStanding : g_mth m_X0_mostStanding 0 := ⟨co_yX0_mostStanding, ini_LivedLinks_HalvesWay, by decide +kernel, by decide +kernel, by decide +kernel, by decide⟩
theorem gv_X0_mostStanding : Cond.instanceMethod m_X0_mostStanding.1 ∈ lw_gd ∧ Cond.selects m_X0_mostStanding.1.cls m_X0_mostStanding.1 m_X0_mostStanding.1 ∈ lw_gd := ⟨im_yX0_mostStanding, se_yX0_mostStanding⟩
abbrev m_X5_oddMoments : g_M := (yX5_oddMoments, cX5_oddMoments, 4, (some .int), none)
theorem gm_X5_oddMoments : g_mth m_X5_oddMoments 1 := ⟨co_yX5_oddMoments, ini_LivedLinks_Moments, by decide +kernel, by decide +kernel, by decide +kernel, by decide⟩
theorem gv_X5_oddMoments : Cond.instanceMethod m_X5_oddMoments.1 ∈ lw_gd ∧ Cond.selects m_X5_oddMoments.1.cls m_X5_oddMoments.1 m_X5_oddMoments.1 ∈ lw_gd := ⟨im_yX5_oddMoments, se_yX5_oddMoments⟩
abbrev m_X5_mostParts : g_M := (yX5_mostParts, cX5_mostParts, 4, (some .int), none)
theorem gm_X5_mostParts : g_mth m_X5_mostParts 1 := ⟨co_yX5_mostParts, ini_LivedLinks_Moments, by decide +kernel, by decide +kernel, by decide +kernel, by decide⟩
theorem gv_X5_mostParts : Cond.instanceMethod m_X5_mostParts.1 ∈ lw_gd ∧ Cond.selects m_X5_mostParts.1.cls m_X5_mostParts.1 m_X5_mostParts.1 ∈ lw_gd := ⟨im_yX5_mostParts, se_yX5_mostParts⟩
abbrev m_X5_fewestParts : g_M := (yX5_fewestParts, cX5_fewestParts, 4, (some .int), none)
theorem gm_X5_fewestParts : g_mth m_X5_fewestParts 1 := ⟨co_yX5_fewestParts, ini_LivedLinks_Moments, by decide +kernel, by decide +kernel, by decide +kernel, by decide⟩
theorem gv_X5_fewestParts : Cond.instanceMethod m_X5_fewestParts.1 ∈ lw_gd ∧ Cond.selects m_X5_fewestParts.1.cls m_X5_fewestParts.1 m_X5_fewestParts.1 ∈ lw_gd := ⟨im_yX5_fewestParts, se_yX5_fewestParts⟩
abbrev m_X7_init : g_M := (yX7_init, cX7_init, 1, none, none)
theorem gm_X7_init : g_mth m_X7_init 0 := ⟨co_yX7_init, ini_LivedLinksModel, by decide +kernel, by decide +kernel, by decide +kernel, by decide⟩
abbrev m_X7_addLink : g_M := (yX7_addLink, cX7_addLink, 5, (some .int), none)
theorem gm_X7_addLink : g_mth m_X7_addLink 4 := ⟨co_yX7_addLink, ini_LivedLinksModel, by decide +kernel, by decide +kernel, by decide +kernel, by decide⟩
theorem gv_X7_addLink : Cond.instanceMethod m_X7_addLink.1 ∈ lw_gd ∧ Cond.selects m_X7_addLink.1.cls m_X7_addLink.1 m_X7_addLink.1 ∈ lw_gd := ⟨im_yX7_addLink, se_yX7_addLink⟩
abbrev m_X7_isPoint : g_M := (yX7_isPoint, cX7_isPoint, 1, (some .boolean), none)
theorem gm_X7_isPoint : g_mth m_X7_isPoint 1 := ⟨co_yX7_isPoint, ini_LivedLinksModel, by decide +kernel, by decide +kernel, by decide +kernel, by decide⟩
abbrev m_X7_in : g_M := (yX7_in, cX7_in, 6, (some .boolean), none)
theorem gm_X7_in : g_mth m_X7_in 3 := ⟨co_yX7_in, ini_LivedLinksModel, by decide +kernel, by decide +kernel, by decide +kernel, by decide⟩
abbrev m_X7_isLife : g_M := (yX7_isLife, cX7_isLife, 2, (some .boolean), none)
theorem gm_X7_isLife : g_mth m_X7_isLife 2 := ⟨co_yX7_isLife, ini_LivedLinksModel, by decide +kernel, by decide +kernel, by decide +kernel, by decide⟩
abbrev m_X7_isMoment : g_M := (yX7_isMoment, cX7_isMoment, 1, (some .boolean), none)
theorem gm_X7_isMoment : g_mth m_X7_isMoment 1 := ⟨co_yX7_isMoment, ini_LivedLinksModel, by decide +kernel, by decide +kernel, by decide +kernel, by decide⟩
abbrev m_X7_remember : g_M := (yX7_remember, cX7_remember, 2, none, none)
theorem gm_X7_remember : g_mth m_X7_remember 0 := ⟨co_yX7_remember, ini_LivedLinksModel, by decide +kernel, by decide +kernel, by decide +kernel, by decide⟩
theorem gv_X7_remember : Cond.instanceMethod m_X7_remember.1 ∈ lw_gd ∧ Cond.selects m_X7_remember.1.cls m_X7_remember.1 m_X7_remember.1 ∈ lw_gd := ⟨im_yX7_remember, se_yX7_remember⟩
abbrev m_X7_adds : g_M := (yX7_adds, cX7_adds, 6, none, none)
theorem gm_X7_adds : g_mth m_X7_adds 4 := ⟨co_yX7_adds, ini_LivedLinksModel, by decide +kernel, by decide +kernel, by decide +kernel, by decide⟩
theorem gv_X7_adds : Cond.instanceMethod m_X7_adds.1 ∈ lw_gd ∧ Cond.selects m_X7_adds.1.cls m_X7_adds.1 m_X7_adds.1 ∈ lw_gd := ⟨im_yX7_adds, se_yX7_adds⟩
abbrev m_X7_acted : g_M := (yX7_acted, cX7_acted, 3, (some .int), none)
theorem gm_X7_acted : g_mth m_X7_acted 1 := ⟨co_yX7_acted, ini_LivedLinksModel, by decide +kernel, by decide +kernel, by decide +kernel, by decide⟩
theorem gv_X7_acted : Cond.instanceMethod m_X7_acted.1 ∈ lw_gd ∧ Cond.selects m_X7_acted.1.cls m_X7_acted.1 m_X7_acted.1 ∈ lw_gd := ⟨im_yX7_acted, se_yX7_acted⟩
abbrev m_X7_removeLink : g_M := (yX7_removeLink, cX7_removeLink, 2, (some .int), none)
theorem gm_X7_removeLink : g_mth m_X7_removeLink 1 := ⟨co_yX7_removeLink, ini_LivedLinksModel, by decide +kernel, by decide +kernel, by decide +kernel, by decide⟩
theorem gv_X7_removeLink : Cond.instanceMethod m_X7_removeLink.1 ∈ lw_gd ∧ Cond.selects m_X7_removeLink.1.cls m_X7_removeLink.1 m_X7_removeLink.1 ∈ lw_gd := ⟨im_yX7_removeLink, se_yX7_removeLink⟩
abbrev m_X7_isLink : g_M := (yX7_isLink, cX7_isLink, 2, (some .boolean), none)
theorem gm_X7_isLink : g_mth m_X7_isLink 1 := ⟨co_yX7_isLink, ini_LivedLinksModel, by decide +kernel, by decide +kernel, by decide +kernel, by decide⟩
theorem gv_X7_isLink : Cond.instanceMethod m_X7_isLink.1 ∈ lw_gd ∧ Cond.selects m_X7_isLink.1.cls m_X7_isLink.1 m_X7_isLink.1 ∈ lw_gd := ⟨im_yX7_isLink, se_yX7_isLink⟩
abbrev m_X7_takesOut : g_M := (yX7_takesOut, cX7_takesOut, 4, none, none)
theorem gm_X7_takesOut : g_mth m_X7_takesOut 1 := ⟨co_yX7_takesOut, ini_LivedLinksModel, by decide +kernel, by decide +kernel, by decide +kernel, by decide⟩
theorem gv_X7_takesOut : Cond.instanceMethod m_X7_takesOut.1 ∈ lw_gd ∧ Cond.selects m_X7_takesOut.1.cls m_X7_takesOut.1 m_X7_takesOut.1 ∈ lw_gd := ⟨im_yX7_takesOut, se_yX7_takesOut⟩
abbrev m_X7_setLife : g_M := (yX7_setLife, cX7_setLife, 4, (some .int), none)
theorem gm_X7_setLife : g_mth m_X7_setLife 3 := ⟨co_yX7_setLife, ini_LivedLinksModel, by decide +kernel, by decide +kernel, by decide +kernel, by decide⟩
theorem gv_X7_setLife : Cond.instanceMethod m_X7_setLife.1 ∈ lw_gd ∧ Cond.selects m_X7_setLife.1.cls m_X7_setLife.1 m_X7_setLife.1 ∈ lw_gd := ⟨im_yX7_setLife, se_yX7_setLife⟩
abbrev m_X7_cut : g_M := (yX7_cut, cX7_cut, 3, (some .int), none)
theorem gm_X7_cut : g_mth m_X7_cut 2 := ⟨co_yX7_cut, ini_LivedLinksModel, by decide +kernel, by decide +kernel, by decide +kernel, by decide⟩
theorem gv_X7_cut : Cond.instanceMethod m_X7_cut.1 ∈ lw_gd ∧ Cond.selects m_X7_cut.1.cls m_X7_cut.1 m_X7_cut.1 ∈ lw_gd := ⟨im_yX7_cut, se_yX7_cut⟩
abbrev m_X7_livesAt : g_M := (yX7_livesAt, cX7_livesAt, 3, (some .boolean), none)
theorem gm_X7_livesAt : g_mth m_X7_livesAt 2 := ⟨co_yX7_livesAt, ini_LivedLinksModel, by decide +kernel, by decide +kernel, by decide +kernel, by decide⟩
theorem gv_X7_livesAt : Cond.instanceMethod m_X7_livesAt.1 ∈ lw_gd ∧ Cond.selects m_X7_livesAt.1.cls m_X7_livesAt.1 m_X7_livesAt.1 ∈ lw_gd := ⟨im_yX7_livesAt, se_yX7_livesAt⟩
abbrev m_X7_lives : g_M := (yX7_lives, cX7_lives, 4, (some .boolean), none)
theorem gm_X7_lives : g_mth m_X7_lives 3 := ⟨co_yX7_lives, ini_LivedLinksModel, by decide +kernel, by decide +kernel, by decide +kernel, by decide⟩
theorem gv_X7_lives : Cond.instanceMethod m_X7_lives.1 ∈ lw_gd ∧ Cond.selects m_X7_lives.1.cls m_X7_lives.1 m_X7_lives.1 ∈ lw_gd := ⟨im_yX7_lives, se_yX7_lives⟩
abbrev m_X7_clear : g_M := (yX7_clear, cX7_clear, 4, (some .int), none)
theorem gm_X7_clear : g_mth m_X7_clear 1 := ⟨co_yX7_clear, ini_LivedLinksModel, by decide +kernel, by decide +kernel, by decide +kernel, by decide⟩
theorem gv_X7_clear : Cond.instanceMethod m_X7_clear.1 ∈ lw_gd ∧ Cond.selects m_X7_clear.1.cls m_X7_clear.1 m_X7_clear.1 ∈ lw_gd := ⟨im_yX7_clear, se_yX7_clear⟩
abbrev m_X7_livingAt : g_M := (yX7_livingAt, cX7_livingAt, 5, (some .long), none)
theorem gm_X7_livingAt : g_mth m_X7_livingAt 1 := ⟨co_yX7_livingAt, ini_LivedLinksModel, by decide +kernel, by decide +kernel, by decide +kernel, by decide⟩
theorem gv_X7_livingAt : Cond.instanceMethod m_X7_livingAt.1 ∈ lw_gd ∧ Cond.selects m_X7_livingAt.1.cls m_X7_livingAt.1 m_X7_livingAt.1 ∈ lw_gd := ⟨im_yX7_livingAt, se_yX7_livingAt⟩
abbrev m_X7_bits : g_M := (yX7_bits, cX7_bits, 5, (some .int), none)
theorem gm_X7_bits : g_mth m_X7_bits 1 := ⟨co_yX7_bits, ini_LivedLinksModel, by decide +kernel, by decide +kernel, by decide +kernel, by decide⟩
abbrev m_X7_type : g_M := (yX7_type, cX7_type, 2, (some .int), none)
theorem gm_X7_type : g_mth m_X7_type 1 := ⟨co_yX7_type, ini_LivedLinksModel, by decide +kernel, by decide +kernel, by decide +kernel, by decide⟩
theorem gv_X7_type : Cond.instanceMethod m_X7_type.1 ∈ lw_gd ∧ Cond.selects m_X7_type.1.cls m_X7_type.1 m_X7_type.1 ∈ lw_gd := ⟨im_yX7_type, se_yX7_type⟩
abbrev m_X7_clearText : g_M := (yX7_clearText, cX7_clearText, 2, (some .int), none)
theorem gm_X7_clearText : g_mth m_X7_clearText 0 := ⟨co_yX7_clearText, ini_LivedLinksModel, by decide +kernel, by decide +kernel, by decide +kernel, by decide⟩
theorem gv_X7_clearText : Cond.instanceMethod m_X7_clearText.1 ∈ lw_gd ∧ Cond.selects m_X7_clearText.1.cls m_X7_clearText.1 m_X7_clearText.1 ∈ lw_gd := ⟨im_yX7_clearText, se_yX7_clearText⟩
abbrev m_X7_readLinks : g_M := (yX7_readLinks, cX7_readLinks, 3, (some .int), none)
theorem gm_X7_readLinks : g_mth m_X7_readLinks 0 := ⟨co_yX7_readLinks, ini_LivedLinksModel, by decide +kernel, by decide +kernel, by decide +kernel, by decide⟩
theorem gv_X7_readLinks : Cond.instanceMethod m_X7_readLinks.1 ∈ lw_gd ∧ Cond.selects m_X7_readLinks.1.cls m_X7_readLinks.1 m_X7_readLinks.1 ∈ lw_gd := ⟨im_yX7_readLinks, se_yX7_readLinks⟩
abbrev m_X7_fault : g_M := (yX7_fault, cX7_fault, 2, (some .int), none)
theorem gm_X7_fault : g_mth m_X7_fault 0 := ⟨co_yX7_fault, ini_LivedLinksModel, by decide +kernel, by decide +kernel, by decide +kernel, by decide⟩
theorem gv_X7_fault : Cond.instanceMethod m_X7_fault.1 ∈ lw_gd ∧ Cond.selects m_X7_fault.1.cls m_X7_fault.1 m_X7_fault.1 ∈ lw_gd := ⟨im_yX7_fault, se_yX7_fault⟩
abbrev m_X7_readsLink : g_M := (yX7_readsLink, cX7_readsLink, 5, (some .boolean), none)
theorem gm_X7_readsLink : g_mth m_X7_readsLink 0 := ⟨co_yX7_readsLink, ini_LivedLinksModel, by decide +kernel, by decide +kernel, by decide +kernel, by decide⟩
theorem gv_X7_readsLink : Cond.instanceMethod m_X7_readsLink.1 ∈ lw_gd ∧ Cond.selects m_X7_readsLink.1.cls m_X7_readsLink.1 m_X7_readsLink.1 ∈ lw_gd := ⟨im_yX7_readsLink, se_yX7_readsLink⟩
abbrev m_X7_readsNumber : g_M := (yX7_readsNumber, cX7_readsNumber, 2, (some .boolean), none)
theorem gm_X7_readsNumber : g_mth m_X7_readsNumber 1 := ⟨co_yX7_readsNumber, ini_LivedLinksModel, by decide +kernel, by decide +kernel, by decide +kernel, by decide⟩
theorem gv_X7_readsNumber : Cond.instanceMethod m_X7_readsNumber.1 ∈ lw_gd ∧ Cond.selects m_X7_readsNumber.1.cls m_X7_readsNumber.1 m_X7_readsNumber.1 ∈ lw_gd := ⟨im_yX7_readsNumber, se_yX7_readsNumber⟩
abbrev m_X7_isHere : g_M := (yX7_isHere, cX7_isHere, 3, (some .boolean), none)
theorem gm_X7_isHere : g_mth m_X7_isHere 2 := ⟨co_yX7_isHere, ini_LivedLinksModel, by decide +kernel, by decide +kernel, by decide +kernel, by decide⟩
theorem gv_X7_isHere : Cond.instanceMethod m_X7_isHere.1 ∈ lw_gd ∧ Cond.selects m_X7_isHere.1.cls m_X7_isHere.1 m_X7_isHere.1 ∈ lw_gd := ⟨im_yX7_isHere, se_yX7_isHere⟩
abbrev m_X7_takes : g_M := (yX7_takes, cX7_takes, 3, (some .boolean), none)
theorem gm_X7_takes : g_mth m_X7_takes 1 := ⟨co_yX7_takes, ini_LivedLinksModel, by decide +kernel, by decide +kernel, by decide +kernel, by decide⟩
theorem gv_X7_takes : Cond.instanceMethod m_X7_takes.1 ∈ lw_gd ∧ Cond.selects m_X7_takes.1.cls m_X7_takes.1 m_X7_takes.1 ∈ lw_gd := ⟨im_yX7_takes, se_yX7_takes⟩
abbrev m_X7_isTold : g_M := (yX7_isTold, cX7_isTold, 2, (some .boolean), none)
theorem gm_X7_isTold : g_mth m_X7_isTold 1 := ⟨co_yX7_isTold, ini_LivedLinksModel, by decide +kernel, by decide +kernel, by decide +kernel, by decide⟩
theorem gv_X7_isTold : Cond.instanceMethod m_X7_isTold.1 ∈ lw_gd ∧ Cond.selects m_X7_isTold.1.cls m_X7_isTold.1 m_X7_isTold.1 ∈ lw_gd := ⟨im_yX7_isTold, se_yX7_isTold⟩
abbrev m_X7_undo : g_M := (yX7_undo, cX7_undo, 2, (some .int), none)
theorem gm_X7_undo : g_mth m_X7_undo 0 := ⟨co_yX7_undo, ini_LivedLinksModel, by decide +kernel, by decide +kernel, by decide +kernel, by decide⟩
theorem gv_X7_undo : Cond.instanceMethod m_X7_undo.1 ∈ lw_gd ∧ Cond.selects m_X7_undo.1.cls m_X7_undo.1 m_X7_undo.1 ∈ lw_gd := ⟨im_yX7_undo, se_yX7_undo⟩
abbrev m_X7_keep : g_M := (yX7_keep, cX7_keep, 2, (some .int), none)
theorem gm_X7_keep : g_mth m_X7_keep 0 := ⟨co_yX7_keep, ini_LivedLinksModel, by decide +kernel, by decide +kernel, by decide +kernel, by decide⟩
theorem gv_X7_keep : Cond.instanceMethod m_X7_keep.1 ∈ lw_gd ∧ Cond.selects m_X7_keep.1.cls m_X7_keep.1 m_X7_keep.1 ∈ lw_gd := ⟨im_yX7_keep, se_yX7_keep⟩
abbrev m_X7_restore : g_M := (yX7_restore, cX7_restore, 2, (some .int), none)
theorem gm_X7_restore : g_mth m_X7_restore 0 := ⟨co_yX7_restore, ini_LivedLinksModel, by decide +kernel, by decide +kernel, by decide +kernel, by decide⟩
theorem gv_X7_restore : Cond.instanceMethod m_X7_restore.1 ∈ lw_gd ∧ Cond.selects m_X7_restore.1.cls m_X7_restore.1 m_X7_restore.1 ∈ lw_gd := ⟨im_yX7_restore, se_yX7_restore⟩
abbrev m_X7_link : g_M := (yX7_link, cX7_link, 3, (some .int), none)
theorem gm_X7_link : g_mth m_X7_link 2 := ⟨co_yX7_link, ini_LivedLinksModel, by decide +kernel, by decide +kernel, by decide +kernel, by decide⟩
theorem gv_X7_link : Cond.instanceMethod m_X7_link.1 ∈ lw_gd ∧ Cond.selects m_X7_link.1.cls m_X7_link.1 m_X7_link.1 ∈ lw_gd := ⟨im_yX7_link, se_yX7_link⟩
abbrev m_X7_spansOf : g_M := (yX7_spansOf, cX7_spansOf, 5, (some .int), none)
theorem gm_X7_spansOf : g_mth m_X7_spansOf 1 := ⟨co_yX7_spansOf, ini_LivedLinksModel, by decide +kernel, by decide +kernel, by decide +kernel, by decide⟩
theorem gv_X7_spansOf : Cond.instanceMethod m_X7_spansOf.1 ∈ lw_gd ∧ Cond.selects m_X7_spansOf.1.cls m_X7_spansOf.1 m_X7_spansOf.1 ∈ lw_gd := ⟨im_yX7_spansOf, se_yX7_spansOf⟩
abbrev m_X7_covers : g_M := (yX7_covers, cX7_covers, 5, (some .boolean), none)
theorem gm_X7_covers : g_mth m_X7_covers 3 := ⟨co_yX7_covers, ini_LivedLinksModel, by decide +kernel, by decide +kernel, by decide +kernel, by decide⟩
theorem gv_X7_covers : Cond.instanceMethod m_X7_covers.1 ∈ lw_gd ∧ Cond.selects m_X7_covers.1.cls m_X7_covers.1 m_X7_covers.1 ∈ lw_gd := ⟨im_yX7_covers, se_yX7_covers⟩
abbrev m_X7_begin : g_M := (yX7_begin, cX7_begin, 2, (some .int), none)
theorem gm_X7_begin : g_mth m_X7_begin 2 := ⟨co_yX7_begin, ini_LivedLinksModel, by decide +kernel, by decide +kernel, by decide +kernel, by decide⟩
abbrev m_X7_spanLong : g_M := (yX7_spanLong, cX7_spanLong, 1, (some .int), none)
theorem gm_X7_spanLong : g_mth m_X7_spanLong 1 := ⟨co_yX7_spanLong, ini_LivedLinksModel, by decide +kernel, by decide +kernel, by decide +kernel, by decide⟩
abbrev m_X7_momentsNeeded : g_M := (yX7_momentsNeeded, cX7_momentsNeeded, 4, (some .int), none)
theorem gm_X7_momentsNeeded : g_mth m_X7_momentsNeeded 1 := ⟨co_yX7_momentsNeeded, ini_LivedLinksModel, by decide +kernel, by decide +kernel, by decide +kernel, by decide⟩
theorem gv_X7_momentsNeeded : Cond.instanceMethod m_X7_momentsNeeded.1 ∈ lw_gd ∧ Cond.selects m_X7_momentsNeeded.1.cls m_X7_momentsNeeded.1 m_X7_momentsNeeded.1 ∈ lw_gd := ⟨im_yX7_momentsNeeded, se_yX7_momentsNeeded⟩
abbrev m_X7_isNeeded : g_M := (yX7_isNeeded, cX7_isNeeded, 4, (some .boolean), none)
theorem gm_X7_isNeeded : g_mth m_X7_isNeeded 2 := ⟨co_yX7_isNeeded, ini_LivedLinksModel, by decide +kernel, by decide +kernel, by decide +kernel, by decide⟩
theorem gv_X7_isNeeded : Cond.instanceMethod m_X7_isNeeded.1 ∈ lw_gd ∧ Cond.selects m_X7_isNeeded.1.cls m_X7_isNeeded.1 m_X7_isNeeded.1 ∈ lw_gd := ⟨im_yX7_isNeeded, se_yX7_isNeeded⟩
abbrev m_X7_join : g_M := (yX7_join, cX7_join, 5, (some .boolean), none)
theorem gm_X7_join : g_mth m_X7_join 3 := ⟨co_yX7_join, ini_LivedLinksModel, by decide +kernel, by decide +kernel, by decide +kernel, by decide⟩
theorem gv_X7_join : Cond.instanceMethod m_X7_join.1 ∈ lw_gd ∧ Cond.selects m_X7_join.1.cls m_X7_join.1 m_X7_join.1 ∈ lw_gd := ⟨im_yX7_join, se_yX7_join⟩
abbrev m_X7_reach : g_M := (yX7_reach, cX7_reach, 9, (some .int), none)
theorem gm_X7_reach : g_mth m_X7_reach 2 := ⟨co_yX7_reach, ini_LivedLinksModel, by decide +kernel, by decide +kernel, by decide +kernel, by decide⟩
theorem gv_X7_reach : Cond.instanceMethod m_X7_reach.1 ∈ lw_gd ∧ Cond.selects m_X7_reach.1.cls m_X7_reach.1 m_X7_reach.1 ∈ lw_gd := ⟨im_yX7_reach, se_yX7_reach⟩
abbrev m_X7_joined : g_M := (yX7_joined, cX7_joined, 4, (some .int), none)
theorem gm_X7_joined : g_mth m_X7_joined 3 := ⟨co_yX7_joined, ini_LivedLinksModel, by decide +kernel, by decide +kernel, by decide +kernel, by decide⟩
theorem gv_X7_joined : Cond.instanceMethod m_X7_joined.1 ∈ lw_gd ∧ Cond.selects m_X7_joined.1.cls m_X7_joined.1 m_X7_joined.1 ∈ lw_gd := ⟨im_yX7_joined, se_yX7_joined⟩
abbrev m_X7_moment : g_M := (yX7_moment, cX7_moment, 5, (some .int), none)
theorem gm_X7_moment : g_mth m_X7_moment 2 := ⟨co_yX7_moment, ini_LivedLinksModel, by decide +kernel, by decide +kernel, by decide +kernel, by decide⟩
theorem gv_X7_moment : Cond.instanceMethod m_X7_moment.1 ∈ lw_gd ∧ Cond.selects m_X7_moment.1.cls m_X7_moment.1 m_X7_moment.1 ∈ lw_gd := ⟨im_yX7_moment, se_yX7_moment⟩
abbrev m_X7_parts : g_M := (yX7_parts, cX7_parts, 6, (some .int), none)
theorem gm_X7_parts : g_mth m_X7_parts 1 := ⟨co_yX7_parts, ini_LivedLinksModel, by decide +kernel, by decide +kernel, by decide +kernel, by decide⟩
theorem gv_X7_parts : Cond.instanceMethod m_X7_parts.1 ∈ lw_gd ∧ Cond.selects m_X7_parts.1.cls m_X7_parts.1 m_X7_parts.1 ∈ lw_gd := ⟨im_yX7_parts, se_yX7_parts⟩
abbrev m_X7_isOdd : g_M := (yX7_isOdd, cX7_isOdd, 13, (some .boolean), none)
theorem gm_X7_isOdd : g_mth m_X7_isOdd 1 := ⟨co_yX7_isOdd, ini_LivedLinksModel, by decide +kernel, by decide +kernel, by decide +kernel, by decide⟩
theorem gv_X7_isOdd : Cond.instanceMethod m_X7_isOdd.1 ∈ lw_gd ∧ Cond.selects m_X7_isOdd.1.cls m_X7_isOdd.1 m_X7_isOdd.1 ∈ lw_gd := ⟨im_yX7_isOdd, se_yX7_isOdd⟩
abbrev m_X7_greatestPart : g_M := (yX7_greatestPart, cX7_greatestPart, 6, (some .int), none)
theorem gm_X7_greatestPart : g_mth m_X7_greatestPart 1 := ⟨co_yX7_greatestPart, ini_LivedLinksModel, by decide +kernel, by decide +kernel, by decide +kernel, by decide⟩
theorem gv_X7_greatestPart : Cond.instanceMethod m_X7_greatestPart.1 ∈ lw_gd ∧ Cond.selects m_X7_greatestPart.1.cls m_X7_greatestPart.1 m_X7_greatestPart.1 ∈ lw_gd := ⟨im_yX7_greatestPart, se_yX7_greatestPart⟩
abbrev m_X7_neededAt : g_M := (yX7_neededAt, cX7_neededAt, 5, (some .int), none)
theorem gm_X7_neededAt : g_mth m_X7_neededAt 1 := ⟨co_yX7_neededAt, ini_LivedLinksModel, by decide +kernel, by decide +kernel, by decide +kernel, by decide⟩
theorem gv_X7_neededAt : Cond.instanceMethod m_X7_neededAt.1 ∈ lw_gd ∧ Cond.selects m_X7_neededAt.1.cls m_X7_neededAt.1 m_X7_neededAt.1 ∈ lw_gd := ⟨im_yX7_neededAt, se_yX7_neededAt⟩
abbrev m_X7_alone : g_M := (yX7_alone, cX7_alone, 5, (some .int), none)
theorem gm_X7_alone : g_mth m_X7_alone 1 := ⟨co_yX7_alone, ini_LivedLinksModel, by decide +kernel, by decide +kernel, by decide +kernel, by decide⟩
theorem gv_X7_alone : Cond.instanceMethod m_X7_alone.1 ∈ lw_gd ∧ Cond.selects m_X7_alone.1.cls m_X7_alone.1 m_X7_alone.1 ∈ lw_gd := ⟨im_yX7_alone, se_yX7_alone⟩
abbrev m_X7_part : g_M := (yX7_part, cX7_part, 5, (some .int), none)
theorem gm_X7_part : g_mth m_X7_part 3 := ⟨co_yX7_part, ini_LivedLinksModel, by decide +kernel, by decide +kernel, by decide +kernel, by decide⟩
theorem gv_X7_part : Cond.instanceMethod m_X7_part.1 ∈ lw_gd ∧ Cond.selects m_X7_part.1.cls m_X7_part.1 m_X7_part.1 ∈ lw_gd := ⟨im_yX7_part, se_yX7_part⟩
abbrev m_X7_needed : g_M := (yX7_needed, cX7_needed, 3, (some .int), none)
theorem gm_X7_needed : g_mth m_X7_needed 2 := ⟨co_yX7_needed, ini_LivedLinksModel, by decide +kernel, by decide +kernel, by decide +kernel, by decide⟩
theorem gv_X7_needed : Cond.instanceMethod m_X7_needed.1 ∈ lw_gd ∧ Cond.selects m_X7_needed.1.cls m_X7_needed.1 m_X7_needed.1 ∈ lw_gd := ⟨im_yX7_needed, se_yX7_needed⟩
abbrev m_X7_together : g_M := (yX7_together, cX7_together, 12, (some .int), none)
theorem gm_X7_together : g_mth m_X7_together 3 := ⟨co_yX7_together, ini_LivedLinksModel, by decide +kernel, by decide +kernel, by decide +kernel, by decide⟩
theorem gv_X7_together : Cond.instanceMethod m_X7_together.1 ∈ lw_gd ∧ Cond.selects m_X7_together.1.cls m_X7_together.1 m_X7_together.1 ∈ lw_gd := ⟨im_yX7_together, se_yX7_together⟩
abbrev m_X7_odd : g_M := (yX7_odd, cX7_odd, 3, (some .int), none)
theorem gm_X7_odd : g_mth m_X7_odd 1 := ⟨co_yX7_odd, ini_LivedLinksModel, by decide +kernel, by decide +kernel, by decide +kernel, by decide⟩
theorem gv_X7_odd : Cond.instanceMethod m_X7_odd.1 ∈ lw_gd ∧ Cond.selects m_X7_odd.1.cls m_X7_odd.1 m_X7_odd.1 ∈ lw_gd := ⟨im_yX7_odd, se_yX7_odd⟩
abbrev m_X7_span : g_M := (yX7_span, cX7_span, 4, (some .int), none)
theorem gm_X7_span : g_mth m_X7_span 3 := ⟨co_yX7_span, ini_LivedLinksModel, by decide +kernel, by decide +kernel, by decide +kernel, by decide⟩
theorem gv_X7_span : Cond.instanceMethod m_X7_span.1 ∈ lw_gd ∧ Cond.selects m_X7_span.1.cls m_X7_span.1 m_X7_span.1 ∈ lw_gd := ⟨im_yX7_span, se_yX7_span⟩
abbrev m_X7_laidAt : g_M := (yX7_laidAt, cX7_laidAt, 6, (some .long), none)
theorem gm_X7_laidAt : g_mth m_X7_laidAt 2 := ⟨co_yX7_laidAt, ini_LivedLinksModel, by decide +kernel, by decide +kernel, by decide +kernel, by decide⟩
theorem gv_X7_laidAt : Cond.instanceMethod m_X7_laidAt.1 ∈ lw_gd ∧ Cond.selects m_X7_laidAt.1.cls m_X7_laidAt.1 m_X7_laidAt.1 ∈ lw_gd := ⟨im_yX7_laidAt, se_yX7_laidAt⟩
abbrev m_X7_madeAt : g_M := (yX7_madeAt, cX7_madeAt, 3, (some .int), none)
theorem gm_X7_madeAt : g_mth m_X7_madeAt 2 := ⟨co_yX7_madeAt, ini_LivedLinksModel, by decide +kernel, by decide +kernel, by decide +kernel, by decide⟩
theorem gv_X7_madeAt : Cond.instanceMethod m_X7_madeAt.1 ∈ lw_gd ∧ Cond.selects m_X7_madeAt.1.cls m_X7_madeAt.1 m_X7_madeAt.1 ∈ lw_gd := ⟨im_yX7_madeAt, se_yX7_madeAt⟩
abbrev m_X7_livingAll : g_M := (yX7_livingAll, cX7_livingAll, 6, (some .long), none)
theorem gm_X7_livingAll : g_mth m_X7_livingAll 2 := ⟨co_yX7_livingAll, ini_LivedLinksModel, by decide +kernel, by decide +kernel, by decide +kernel, by decide⟩
theorem gv_X7_livingAll : Cond.instanceMethod m_X7_livingAll.1 ∈ lw_gd ∧ Cond.selects m_X7_livingAll.1.cls m_X7_livingAll.1 m_X7_livingAll.1 ∈ lw_gd := ⟨im_yX7_livingAll, se_yX7_livingAll⟩
abbrev m_X7_count : g_M := (yX7_count, cX7_count, 2, (some .int), none)
theorem gm_X7_count : g_mth m_X7_count 1 := ⟨co_yX7_count, ini_LivedLinksModel, by decide +kernel, by decide +kernel, by decide +kernel, by decide⟩
theorem gv_X7_count : Cond.instanceMethod m_X7_count.1 ∈ lw_gd ∧ Cond.selects m_X7_count.1.cls m_X7_count.1 m_X7_count.1 ∈ lw_gd := ⟨im_yX7_count, se_yX7_count⟩
abbrev m_X7_ofSpans : g_M := (yX7_ofSpans, cX7_ofSpans, 6, (some .int), none)
theorem gm_X7_ofSpans : g_mth m_X7_ofSpans 1 := ⟨co_yX7_ofSpans, ini_LivedLinksModel, by decide +kernel, by decide +kernel, by decide +kernel, by decide⟩
theorem gv_X7_ofSpans : Cond.instanceMethod m_X7_ofSpans.1 ∈ lw_gd ∧ Cond.selects m_X7_ofSpans.1.cls m_X7_ofSpans.1 m_X7_ofSpans.1 ∈ lw_gd := ⟨im_yX7_ofSpans, se_yX7_ofSpans⟩
abbrev m_X7_ofMoments : g_M := (yX7_ofMoments, cX7_ofMoments, 9, (some .int), none)
theorem gm_X7_ofMoments : g_mth m_X7_ofMoments 1 := ⟨co_yX7_ofMoments, ini_LivedLinksModel, by decide +kernel, by decide +kernel, by decide +kernel, by decide⟩
theorem gv_X7_ofMoments : Cond.instanceMethod m_X7_ofMoments.1 ∈ lw_gd ∧ Cond.selects m_X7_ofMoments.1.cls m_X7_ofMoments.1 m_X7_ofMoments.1 ∈ lw_gd := ⟨im_yX7_ofMoments, se_yX7_ofMoments⟩
theorem gc_0 : g_cls 0 RX0 TX0 7 tyX0 := ⟨rfl, by decide +kernel, tyX0_ok, nmX0⟩
theorem gc_1 : g_cls 1 RX1 TX1 2 tyX1 := ⟨rfl, by decide +kernel, tyX1_ok, nmX1⟩
theorem gc_2 : g_cls 2 RX2 TX2 4 tyX2 := ⟨rfl, by decide +kernel, tyX2_ok, nmX2⟩
theorem gc_3 : g_cls 3 RX3 TX3 3 tyX3 := ⟨rfl, by decide +kernel, tyX3_ok, nmX3⟩
theorem gc_4 : g_cls 4 RX4 TX4 5 tyX4 := ⟨rfl, by decide +kernel, tyX4_ok, nmX4⟩
theorem gc_5 : g_cls 5 RX5 TX5 2 tyX5 := ⟨rfl, by decide +kernel, tyX5_ok, nmX5⟩
theorem gc_6 : g_cls 6 RX6 TX6 8 tyX6 := ⟨rfl, by decide +kernel, tyX6_ok, nmX6⟩
theorem gc_7 : g_cls 7 RX7 TX7 12 tyX7 := ⟨rfl, by decide +kernel, tyX7_ok, nmX7⟩
theorem gw_max : Cond.static Lib.Math.max.name ∈ lw_gd ∧ Cond.initialized "java/lang/Math" ∈ lw_gd ∧ Cond.code Lib.Math.max.name Lib.Math.max.code 2 (some .int) ∈ lw_gd := ⟨sm_Lib_Math_max_name, ini_java_lang_Math, co_Lib_Math_max_name⟩
theorem gw_min : Cond.static Lib.Math.min.name ∈ lw_gd ∧ Cond.initialized "java/lang/Math" ∈ lw_gd ∧ Cond.code Lib.Math.min.name Lib.Math.min.code 2 (some .int) ∈ lw_gd := ⟨sm_Lib_Math_min_name, ini_java_lang_Math, co_Lib_Math_min_name⟩
end
section
/-! numbers, frames, the picture of a Links object: a list of links -/
noncomputable def bI (P : Prop) : Int32 := @ite Int32 P (Classical.propDecidable P) 1 0
theorem bI_t {P : Prop} (h : P) : bI P = 1 := by unfold bI; exact if_pos h
theorem bI_f {P : Prop} (h : ¬ P) : bI P = 0 := by unfold bI; exact if_neg h
theorem bI_01 (P : Prop) : bI P = 0 ∨ bI P = 1 := (Classical.em P).elim (fun h => Or.inr (bI_t h)) (fun h => Or.inl (bI_f h))
theorem bI_0 {P : Prop} {r : Int32} (e : r = bI P) : r = 0 ↔ ¬ P := by
  subst e
  rcases Classical.em P with h | h
  · rw [bI_t h]; simp [h]
  · rw [bI_f h]; simp [h]
theorem bI_c {P Q : Prop} (h : P ↔ Q) : bI P = bI Q := congrArg bI (propext h)
def IX (x : Int32) (n : Nat) : Prop := ∃ j : Nat, j < n ∧ x = nI j
theorem IX_n0 {x : Int32} {n : Nat} (hn : n < 2 ^ 31) (h : x < 0) : ¬ IX x n := by
  rintro ⟨j, hj, rfl⟩
  exact nI_pos (by omega) h
theorem IX_nn {x : Int32} {n : Nat} (hn : n < 2 ^ 31) (h : nI n ≤ x) : ¬ IX x n := by
  rintro ⟨j, hj, rfl⟩
  exact nI_ge hj hn h
theorem IX_of {x : Int32} {n : Nat} (hn : n < 2 ^ 31) (h0 : ¬ x < 0) (h : ¬ nI n ≤ x) : IX x n := by
  rcases pk_ix x hn with q | q | q
  · exact absurd q h0
  · exact absurd q h
  · exact q
theorem nI_i1 (a : Nat) : nI a + Int32.ofInt 1 = nI (a + 1) := nI_1 a
theorem nI_im1 (a : Nat) : nI (a + 1) + Int32.ofInt (-1) = nI a := pk_m1 a
theorem nI_lit (n : Nat) : Int32.ofNat n = nI n := rfl
def Fr (lo hi : Nat) (h h' : g_H) : Prop := h'.2 = h.2 ∧ ∀ k : Nat, k < lo ∨ hi ≤ k → h'.1 k = h.1 k
theorem Fr.rf {lo hi : Nat} {h : g_H} : Fr lo hi h h := ⟨rfl, fun _ _ => rfl⟩
theorem Fr.tr {lo hi : Nat} {h h1 h2 : g_H} (a : Fr lo hi h h1) (b : Fr lo hi h1 h2) : Fr lo hi h h2 := ⟨b.1.trans a.1, fun k q => (b.2 k q).trans (a.2 k q)⟩
theorem Fr.mono {lo hi lo' hi' : Nat} {h h1 : g_H} (a : Fr lo hi h h1) (h2 : lo' ≤ lo) (h3 : hi ≤ hi') : Fr lo' hi' h h1 := ⟨a.1, fun k q => a.2 k (by omega)⟩
theorem Fr.up {lo hi k : Nat} {h h1 : g_H} {c : g_C} (a : Fr lo hi h h1) (h2 : lo ≤ k) (h3 : k < hi) : Fr lo hi h (g_up h1 k c) := ⟨a.1, fun j q => by rw [g_up_n h1 c (by omega)]; exact a.2 j q⟩
def LR (h : g_H) (a : Nat) (n : Int32) (f1 f2 f3 f4 : Nat → Int32) : Prop := (1 ≤ a ∧ a + 4 ≤ h.2) ∧ h.1 a = .inr (4, [.ref (a + 1), .ref (a + 2), .ref (a + 3), .ref (a + 4), .int n]) ∧ h.1 (a + 1) = .inl (0, 40, .inl f1) ∧ h.1 (a + 2) = .inl (0, 40, .inl f2) ∧ h.1 (a + 3) = .inl (0, 40, .inl f3) ∧ h.1 (a + 4) = .inl (0, 40, .inl f4)
section LRs
variable {h h' : g_H} {a : Nat} {n : Int32} {f1 f2 f3 f4 : Nat → Int32}
theorem LR.o (p : LR h a n f1 f2 f3 f4) : h.1 a = .inr (4, [.ref (a + 1), .ref (a + 2), .ref (a + 3), .ref (a + 4), .int n]) := p.2.1
theorem LR.b (p : LR h a n f1 f2 f3 f4) : 1 ≤ a ∧ a ≤ h.2 := ⟨p.1.1, by have := p.1.2; omega⟩
theorem LR.c1 (p : LR h a n f1 f2 f3 f4) : h.1 (a + 1) = .inl (0, 40, .inl f1) := p.2.2.1
theorem LR.c2 (p : LR h a n f1 f2 f3 f4) : h.1 (a + 2) = .inl (0, 40, .inl f2) := p.2.2.2.1
theorem LR.c3 (p : LR h a n f1 f2 f3 f4) : h.1 (a + 3) = .inl (0, 40, .inl f3) := p.2.2.2.2.1
theorem LR.c4 (p : LR h a n f1 f2 f3 f4) : h.1 (a + 4) = .inl (0, 40, .inl f4) := p.2.2.2.2.2
theorem LR.b1 (p : LR h a n f1 f2 f3 f4) : 1 ≤ a + 1 ∧ a + 1 ≤ h.2 := ⟨by omega, by have := p.1.2; omega⟩
theorem LR.b2 (p : LR h a n f1 f2 f3 f4) : 1 ≤ a + 2 ∧ a + 2 ≤ h.2 := ⟨by omega, by have := p.1.2; omega⟩
theorem LR.b3 (p : LR h a n f1 f2 f3 f4) : 1 ≤ a + 3 ∧ a + 3 ≤ h.2 := ⟨by omega, by have := p.1.2; omega⟩
theorem LR.b4 (p : LR h a n f1 f2 f3 f4) : 1 ≤ a + 4 ∧ a + 4 ≤ h.2 := ⟨by omega, by have := p.1.2; omega⟩
theorem LR.fr {lo hi : Nat} (p : LR h a n f1 f2 f3 f4) (F : Fr lo hi h h') (q : a + 5 ≤ lo ∨ hi ≤ a) : LR h' a n f1 f2 f3 f4 :=
  ⟨⟨p.1.1, by rw [F.1]; exact p.1.2⟩, (F.2 a (by omega)).trans p.o, (F.2 (a + 1) (by omega)).trans p.c1, (F.2 (a + 2) (by omega)).trans p.c2, (F.2 (a + 3) (by omega)).trans p.c3, (F.2 (a + 4) (by omega)).trans p.c4⟩
theorem LR.s1 (p : LR h a n f1 f2 f3 f4) (g : Nat → Int32) : LR (g_up h (a + 1) (.inl (0, 40, .inl g))) a n g f2 f3 f4 :=
  ⟨p.1, (g_up_n h _ (by omega)).trans p.o, g_up_s h _ _, (g_up_n h _ (by omega)).trans p.c2, (g_up_n h _ (by omega)).trans p.c3, (g_up_n h _ (by omega)).trans p.c4⟩
theorem LR.s2 (p : LR h a n f1 f2 f3 f4) (g : Nat → Int32) : LR (g_up h (a + 2) (.inl (0, 40, .inl g))) a n f1 g f3 f4 :=
  ⟨p.1, (g_up_n h _ (by omega)).trans p.o, (g_up_n h _ (by omega)).trans p.c1, g_up_s h _ _, (g_up_n h _ (by omega)).trans p.c3, (g_up_n h _ (by omega)).trans p.c4⟩
theorem LR.s3 (p : LR h a n f1 f2 f3 f4) (g : Nat → Int32) : LR (g_up h (a + 3) (.inl (0, 40, .inl g))) a n f1 f2 g f4 :=
  ⟨p.1, (g_up_n h _ (by omega)).trans p.o, (g_up_n h _ (by omega)).trans p.c1, (g_up_n h _ (by omega)).trans p.c2, g_up_s h _ _, (g_up_n h _ (by omega)).trans p.c4⟩
theorem LR.s4 (p : LR h a n f1 f2 f3 f4) (g : Nat → Int32) : LR (g_up h (a + 4) (.inl (0, 40, .inl g))) a n f1 f2 f3 g :=
  ⟨p.1, (g_up_n h _ (by omega)).trans p.o, (g_up_n h _ (by omega)).trans p.c1, (g_up_n h _ (by omega)).trans p.c2, (g_up_n h _ (by omega)).trans p.c3, g_up_s h _ _⟩
theorem LR.sn (p : LR h a n f1 f2 f3 f4) (m : Int32) : LR (g_up h a (.inr (4, [.ref (a + 1), .ref (a + 2), .ref (a + 3), .ref (a + 4), .int m]))) a m f1 f2 f3 f4 :=
  ⟨p.1, g_up_s h _ _, (g_up_n h _ (by omega)).trans p.c1, (g_up_n h _ (by omega)).trans p.c2, (g_up_n h _ (by omega)).trans p.c3, (g_up_n h _ (by omega)).trans p.c4⟩
end LRs
abbrev Lk : Type := Nat × Nat × Nat × Nat
def LV (ls : List Lk) (f1 f2 f3 f4 : Nat → Int32) : Prop := ∀ (k : Nat) (x : Lk), ls[k]? = some x → f1 k = nI x.1 ∧ f2 k = nI x.2.1 ∧ f3 k = nI x.2.2.1 ∧ f4 k = nI x.2.2.2
def okK (x : Lk) : Prop := x.1 < 16 ∧ x.2.1 < 16 ∧ x.1 ≠ x.2.1 ∧ x.2.2.1 < x.2.2.2 ∧ x.2.2.2 ≤ 64
def LA (h : g_H) (a : Nat) (ls : List Lk) : Prop := ∃ f1 f2 f3 f4 : Nat → Int32, LR h a (nI ls.length) f1 f2 f3 f4 ∧ LV ls f1 f2 f3 f4 ∧ ls.length ≤ 40 ∧ ∀ x ∈ ls, okK x
theorem LA.fr {h h' : g_H} {a lo hi : Nat} {ls : List Lk} (p : LA h a ls) (F : Fr lo hi h h') (q : a + 5 ≤ lo ∨ hi ≤ a) : LA h' a ls := by
  obtain ⟨f1, f2, f3, f4, p1, p2⟩ := p
  exact ⟨f1, f2, f3, f4, p1.fr F q, p2⟩
theorem LA.o {h : g_H} {a : Nat} {ls : List Lk} (p : LA h a ls) : h.1 a = .inr (4, [.ref (a + 1), .ref (a + 2), .ref (a + 3), .ref (a + 4), .int (nI ls.length)]) := by
  obtain ⟨f1, f2, f3, f4, p1, p2⟩ := p
  exact p1.o
theorem LA.b {h : g_H} {a : Nat} {ls : List Lk} (p : LA h a ls) : 1 ≤ a ∧ a ≤ h.2 := by
  obtain ⟨f1, f2, f3, f4, p1, p2⟩ := p
  exact p1.b
theorem LA.bd {h : g_H} {a : Nat} {ls : List Lk} (p : LA h a ls) : 1 ≤ a ∧ a + 4 ≤ h.2 := by
  obtain ⟨f1, f2, f3, f4, p1, p2⟩ := p
  exact p1.1
theorem LA.len {h : g_H} {a : Nat} {ls : List Lk} (p : LA h a ls) : ls.length ≤ 40 := by
  obtain ⟨f1, f2, f3, f4, p1, p2, p3, p4⟩ := p
  exact p3
theorem LA.ok {h : g_H} {a : Nat} {ls : List Lk} (p : LA h a ls) : ∀ x ∈ ls, okK x := by
  obtain ⟨f1, f2, f3, f4, p1, p2, p3, p4⟩ := p
  exact p4
theorem get_lt {α : Type} {l : List α} {j : Nat} {y : α} (h : l[j]? = some y) : j < l.length := (List.getElem?_eq_some_iff.mp h).1
theorem get_of {α : Type} {l : List α} {j : Nat} (h : j < l.length) : ∃ y, l[j]? = some y := ⟨l[j], List.getElem?_eq_getElem h⟩
theorem take_succ_cnt {α : Type} {l : List α} {k : Nat} {y : α} (p : α → Bool) (h : l[k]? = some y) : (l.take (k + 1)).countP p = (l.take k).countP p + if p y = true then 1 else 0 := by
  rw [List.take_succ, h, List.countP_append]
  simp [List.countP_cons]
/-- whether a link lives at a moment -/
def lvB (m : Int) (x : Lk) : Bool := decide ((x.2.2.1 : Int) ≤ m ∧ m < (x.2.2.2 : Int))
theorem lvB_iff {m : Int} {x : Lk} : lvB m x = true ↔ (x.2.2.1 : Int) ≤ m ∧ m < (x.2.2.2 : Int) := by simp [lvB]
theorem nI_leT {a : Nat} {x : Int32} (h : a < 2 ^ 31) : nI a ≤ x ↔ (a : Int) ≤ x.toInt := by rw [Int32.le_iff_toInt_le, nI_toInt h]
theorem nI_leT' {a : Nat} {x : Int32} (h : a < 2 ^ 31) : x ≤ nI a ↔ x.toInt ≤ (a : Int) := by rw [Int32.le_iff_toInt_le, nI_toInt h]
theorem nI_ltT {a : Nat} {x : Int32} (h : a < 2 ^ 31) : nI a < x ↔ (a : Int) < x.toInt := by rw [Int32.lt_iff_toInt_lt, nI_toInt h]
theorem nI_ltT' {a : Nat} {x : Int32} (h : a < 2 ^ 31) : x < nI a ↔ x.toInt < (a : Int) := by rw [Int32.lt_iff_toInt_lt, nI_toInt h]
end
section
/-- the length of a span, and where it begins -/
def sl (d : Nat) : Nat := 64 / 2 ^ d
def sb (m d : Nat) : Nat := m - m % sl d
theorem sl_i : ∀ d, d < 7 → (64 : Int32) >>> (nI d &&& 31) = nI (sl d) := by decide +kernel
theorem sb_i : ∀ m, m < 64 → ∀ d, d < 7 → nI m &&& -(nI (sl d)) = nI (sb m d) := by decide +kernel
theorem sb_le (m d : Nat) : sb m d ≤ m := Nat.sub_le _ _
theorem sl_64 : ∀ d, d < 7 → sl d ≤ 64 ∧ 0 < sl d := by decide +kernel
section SStat
variable {h : g_H} {Q : Option Value → g_H → Prop}
theorem s_X6_spanLength {d : Nat} (hd : d < 7) (hQ : ∀ r, r = nI (sl d) → Q (some (.int r)) h) : MJ m_X6_spanLength 0 0 0 [.int (nI d)] h Q := by
  refine MJ_of_J (L := [some (.int (nI d))]) (by decide +kernel) rfl (Nat.le_of_ble_eq_true rfl) rfl ?_
  refine J_bipush (x := 64) dX6_spanLength_0 (by decide) ?_
  refine J_iload_n dX6_spanLength_2 rfl ?_
  refine J_ishr dX6_spanLength_3 ?_
  exact J_iret dX6_spanLength_4 rfl ⟨rfl, Nat.le_refl _⟩ (hQ _ (sl_i d hd))
theorem s_X6_spanBegin {m d : Nat} (hm : m < 64) (hd : d < 7) (hQ : ∀ r, r = nI (sb m d) → Q (some (.int r)) h) : MJ m_X6_spanBegin 1 0 0 [.int (nI m), .int (nI d)] h Q := by
  refine MJ_of_J (L := [some (.int (nI m)), some (.int (nI d))]) (by decide +kernel) rfl (Nat.le_of_ble_eq_true rfl) rfl ?_
  refine J_iload_n dX6_spanBegin_0 rfl ?_
  refine J_iload_n dX6_spanBegin_1 rfl ?_
  refine J_callS (As := [_]) (rest := [_]) (M' := m_X6_spanLength) dX6_spanBegin_2 ml_RX6_190 gm_X6_spanLength sm_yX6_spanLength rfl rfl (Nat.le_of_ble_eq_true rfl) (by decide) ⟨rfl, rfl, by decide, by decide⟩ (s_X6_spanLength hd (fun r hr => ?_))
  refine J_ineg dX6_spanBegin_5 ?_
  refine J_iand dX6_spanBegin_6 ?_
  exact J_iret dX6_spanBegin_7 rfl ⟨rfl, Nat.le_refl _⟩ (hQ _ (by rw [hr]; exact sb_i m hm d hd))
theorem s_X6_asNumber {P : Prop} {x : Int32} (hx : x = bI P) (hQ : ∀ r, r = bI P → Q (some (.int r)) h) : MJ m_X6_asNumber 0 0 0 [.int x] h Q := by
  refine MJ_of_J (L := [some (.int x)]) (by decide +kernel) rfl (Nat.le_of_ble_eq_true rfl) rfl ?_
  refine J_iload_n dX6_asNumber_0 rfl ?_
  refine J_if_eq (tgt := 8) dX6_asNumber_1 (by decide) (fun c1 => ?_) (fun c1 => ?_)
  · refine J_iconst (x := 0) dX6_asNumber_8 (by decide) ?_
    exact J_iret dX6_asNumber_9 rfl ⟨rfl, Nat.le_refl _⟩ (hQ _ (bI_f ((bI_0 hx).mp c1)).symm)
  · refine J_iconst (x := 1) dX6_asNumber_4 (by decide) ?_
    refine J_goto (tgt := 9) dX6_asNumber_5 (by decide) ?_
    exact J_iret dX6_asNumber_9 rfl ⟨rfl, Nat.le_refl _⟩ (hQ _ (bI_t (Classical.not_not.mp (fun q => c1 ((bI_0 hx).mpr q)))).symm)
theorem s_X6_isPoint {x : Int32} (hQ : ∀ r, r = bI (IX x 16) → Q (some (.int r)) h) : MJ m_X6_isPoint 0 0 0 [.int x] h Q := by
  refine MJ_of_J (L := [some (.int x)]) (by decide +kernel) rfl (Nat.le_of_ble_eq_true rfl) rfl ?_
  refine J_iload_n dX6_isPoint_0 rfl ?_
  refine J_if_lt (tgt := 14) dX6_isPoint_1 (by decide) (fun c1 => ?_) (fun c1 => ?_)
  · refine J_iconst (x := 0) dX6_isPoint_14 (by decide) ?_
    exact J_zret dX6_isPoint_15 rfl (by first | exact Or.inl rfl | exact Or.inr rfl) ⟨rfl, Nat.le_refl _⟩ (hQ _ (bI_f (IX_n0 (by omega) c1)).symm)
  · refine J_iload_n dX6_isPoint_4 rfl ?_
    refine J_bipush (x := 16) dX6_isPoint_5 (by decide) ?_
    refine J_icmp_ge (tgt := 14) dX6_isPoint_7 (by decide) (fun c7 => ?_) (fun c7 => ?_)
    · refine J_iconst (x := 0) dX6_isPoint_14 (by decide) ?_
      exact J_zret dX6_isPoint_15 rfl (by first | exact Or.inl rfl | exact Or.inr rfl) ⟨rfl, Nat.le_refl _⟩ (hQ _ (bI_f (IX_nn (n := 16) (by omega) c7)).symm)
    · refine J_iconst (x := 1) dX6_isPoint_10 (by decide) ?_
      refine J_goto (tgt := 15) dX6_isPoint_11 (by decide) ?_
      exact J_zret dX6_isPoint_15 rfl (by first | exact Or.inl rfl | exact Or.inr rfl) ⟨rfl, Nat.le_refl _⟩ (hQ _ (bI_t (IX_of (n := 16) (by omega) c1 c7)).symm)
theorem s_X6_isMoment {x : Int32} (hQ : ∀ r, r = bI (IX x 64) → Q (some (.int r)) h) : MJ m_X6_isMoment 0 0 0 [.int x] h Q := by
  refine MJ_of_J (L := [some (.int x)]) (by decide +kernel) rfl (Nat.le_of_ble_eq_true rfl) rfl ?_
  refine J_iload_n dX6_isMoment_0 rfl ?_
  refine J_if_lt (tgt := 14) dX6_isMoment_1 (by decide) (fun c1 => ?_) (fun c1 => ?_)
  · refine J_iconst (x := 0) dX6_isMoment_14 (by decide) ?_
    exact J_zret dX6_isMoment_15 rfl (by first | exact Or.inl rfl | exact Or.inr rfl) ⟨rfl, Nat.le_refl _⟩ (hQ _ (bI_f (IX_n0 (by omega) c1)).symm)
  · refine J_iload_n dX6_isMoment_4 rfl ?_
    refine J_bipush (x := 64) dX6_isMoment_5 (by decide) ?_
    refine J_icmp_ge (tgt := 14) dX6_isMoment_7 (by decide) (fun c7 => ?_) (fun c7 => ?_)
    · refine J_iconst (x := 0) dX6_isMoment_14 (by decide) ?_
      exact J_zret dX6_isMoment_15 rfl (by first | exact Or.inl rfl | exact Or.inr rfl) ⟨rfl, Nat.le_refl _⟩ (hQ _ (bI_f (IX_nn (n := 64) (by omega) c7)).symm)
    · refine J_iconst (x := 1) dX6_isMoment_10 (by decide) ?_
      refine J_goto (tgt := 15) dX6_isMoment_11 (by decide) ?_
      exact J_zret dX6_isMoment_15 rfl (by first | exact Or.inl rfl | exact Or.inr rfl) ⟨rfl, Nat.le_refl _⟩ (hQ _ (bI_t (IX_of (n := 64) (by omega) c1 c7)).symm)
/-- a begin and an end of a life, as they were told -/
def LF (x y : Int32) : Prop := ∃ b e : Nat, b < e ∧ e ≤ 64 ∧ x = nI b ∧ y = nI e
theorem LF_of {x y : Int32} (h1 : IX x 64) (h2 : ¬ y ≤ x) (h3 : ¬ 64 < y) : LF x y := by
  obtain ⟨b, hb, rfl⟩ := h1
  have h3' : ¬ nI 64 < y := h3
  rw [nI_leT' (by omega)] at h2
  rw [nI_ltT (by omega)] at h3'
  have h0 : ¬ y < 0 := by rw [Int32.lt_iff_toInt_lt]; show ¬ y.toInt < 0; omega
  obtain ⟨e, he, rfl⟩ := nI_of h0
  rw [nI_toInt he] at h2 h3'
  exact ⟨b, e, by omega, by omega, rfl, rfl⟩
theorem LF_n1 {x y : Int32} (h1 : ¬ IX x 64) : ¬ LF x y := by
  rintro ⟨b, e, h2, h3, rfl, rfl⟩
  exact h1 ⟨b, by omega, rfl⟩
theorem LF_n2 {x y : Int32} (h1 : y ≤ x) : ¬ LF x y := by
  rintro ⟨b, e, h2, h3, rfl, rfl⟩
  exact nI_ge h2 (by omega) h1
theorem LF_n3 {x y : Int32} (h1 : 64 < y) : ¬ LF x y := by
  rintro ⟨b, e, h2, h3, rfl, rfl⟩
  exact nI_nlt h3 (by omega) h1
theorem s_X6_isLife {x y : Int32} (hQ : ∀ r, r = bI (LF x y) → Q (some (.int r)) h) : MJ m_X6_isLife 1 0 0 [.int x, .int y] h Q := by
  refine MJ_of_J (L := [some (.int x), some (.int y)]) (by decide +kernel) rfl (Nat.le_of_ble_eq_true rfl) rfl ?_
  refine J_iload_n dX6_isLife_0 rfl ?_
  refine J_callS (As := [_]) (rest := []) (M' := m_X6_isMoment) dX6_isLife_1 ml_RX6_95 gm_X6_isMoment sm_yX6_isMoment rfl rfl (Nat.le_of_ble_eq_true rfl) (by decide) ⟨rfl, rfl, by decide, by decide⟩ (s_X6_isMoment (fun r hr => ?_))
  refine J_if_eq (tgt := 22) dX6_isLife_4 (by decide) (fun c4 => ?_) (fun c4 => ?_)
  · refine J_iconst (x := 0) dX6_isLife_22 (by decide) ?_
    exact J_zret dX6_isLife_23 rfl (by first | exact Or.inl rfl | exact Or.inr rfl) ⟨rfl, Nat.le_refl _⟩ (hQ _ (bI_f (LF_n1 ((bI_0 hr).mp c4))).symm)
  · refine J_iload_n dX6_isLife_7 rfl ?_
    refine J_iload_n dX6_isLife_8 rfl ?_
    refine J_icmp_le (tgt := 22) dX6_isLife_9 (by decide) (fun c9 => ?_) (fun c9 => ?_)
    · refine J_iconst (x := 0) dX6_isLife_22 (by decide) ?_
      exact J_zret dX6_isLife_23 rfl (by first | exact Or.inl rfl | exact Or.inr rfl) ⟨rfl, Nat.le_refl _⟩ (hQ _ (bI_f (LF_n2 c9)).symm)
    · refine J_iload_n dX6_isLife_12 rfl ?_
      refine J_bipush (x := 64) dX6_isLife_13 (by decide) ?_
      refine J_icmp_gt (tgt := 22) dX6_isLife_15 (by decide) (fun c15 => ?_) (fun c15 => ?_)
      · refine J_iconst (x := 0) dX6_isLife_22 (by decide) ?_
        exact J_zret dX6_isLife_23 rfl (by first | exact Or.inl rfl | exact Or.inr rfl) ⟨rfl, Nat.le_refl _⟩ (hQ _ (bI_f (LF_n3 c15)).symm)
      · refine J_iconst (x := 1) dX6_isLife_18 (by decide) ?_
        refine J_goto (tgt := 23) dX6_isLife_19 (by decide) ?_
        exact J_zret dX6_isLife_23 rfl (by first | exact Or.inl rfl | exact Or.inr rfl) ⟨rfl, Nat.le_refl _⟩ (hQ _ (bI_t (LF_of (Classical.not_not.mp (fun q => c4 ((bI_0 hr).mpr q))) c9 c15)).symm)
end SStat
section SLinks
variable {h : g_H} {a : Nat} {ls : List Lk} {Q : Option Value → g_H → Prop}
theorem s_X4_size (hA : LA h a ls) (hQ : ∀ r, r = nI ls.length → Q (some (.int r)) h) : MJ m_X4_size 0 0 0 [.ref a] h Q := by
  obtain ⟨f1, f2, f3, f4, hP, hV, hn, hO⟩ := hA
  refine MJ_of_J (L := [some (.ref a)]) (by decide +kernel) rfl (Nat.le_of_ble_eq_true rfl) rfl ?_
  refine J_aload_n dX4_size_0 rfl ?_
  refine J_get (k := 4) dX4_size_1 gc_4 fl_RX4_24 (by decide) hP.o hP.b rfl ?_
  exact J_iret dX4_size_4 rfl ⟨rfl, Nat.le_refl _⟩ (hQ _ rfl)
theorem s_X4_room (hA : LA h a ls) (hQ : ∀ r, r = nI (40 - ls.length) → Q (some (.int r)) h) : MJ m_X4_room 0 0 0 [.ref a] h Q := by
  obtain ⟨f1, f2, f3, f4, hP, hV, hn, hO⟩ := hA
  refine MJ_of_J (L := [some (.ref a)]) (by decide +kernel) rfl (Nat.le_of_ble_eq_true rfl) rfl ?_
  refine J_bipush (x := 40) dX4_room_0 (by decide) ?_
  refine J_aload_n dX4_room_2 rfl ?_
  refine J_get (k := 4) dX4_room_3 gc_4 fl_RX4_24 (by decide) hP.o hP.b rfl ?_
  refine J_isub dX4_room_6 ?_
  exact J_iret dX4_room_7 rfl ⟨rfl, Nat.le_refl _⟩ (hQ _ (pk_sub hn))
theorem s_X4_has {x : Int32} (hA : LA h a ls) (hQ : ∀ r, r = bI (IX x ls.length) → Q (some (.int r)) h) : MJ m_X4_has 0 0 0 [.ref a, .int x] h Q := by
  obtain ⟨f1, f2, f3, f4, hP, hV, hn, hO⟩ := hA
  refine MJ_of_J (L := [some (.ref a), some (.int x)]) (by decide +kernel) rfl (Nat.le_of_ble_eq_true rfl) rfl ?_
  refine J_iload_n dX4_has_0 rfl ?_
  refine J_if_lt (tgt := 16) dX4_has_1 (by decide) (fun c1 => ?_) (fun c1 => ?_)
  · refine J_iconst (x := 0) dX4_has_16 (by decide) ?_
    exact J_zret dX4_has_17 rfl (by first | exact Or.inl rfl | exact Or.inr rfl) ⟨rfl, Nat.le_refl _⟩ (hQ _ (bI_f (IX_n0 (by omega) c1)).symm)
  · refine J_iload_n dX4_has_4 rfl ?_
    refine J_aload_n dX4_has_5 rfl ?_
    refine J_get (k := 4) dX4_has_6 gc_4 fl_RX4_24 (by decide) hP.o hP.b rfl ?_
    refine J_icmp_ge (tgt := 16) dX4_has_9 (by decide) (fun c9 => ?_) (fun c9 => ?_)
    · refine J_iconst (x := 0) dX4_has_16 (by decide) ?_
      exact J_zret dX4_has_17 rfl (by first | exact Or.inl rfl | exact Or.inr rfl) ⟨rfl, Nat.le_refl _⟩ (hQ _ (bI_f (IX_nn (by omega) c9)).symm)
    · refine J_iconst (x := 1) dX4_has_12 (by decide) ?_
      refine J_goto (tgt := 17) dX4_has_13 (by decide) ?_
      exact J_zret dX4_has_17 rfl (by first | exact Or.inl rfl | exact Or.inr rfl) ⟨rfl, Nat.le_refl _⟩ (hQ _ (bI_t (IX_of (by omega) c1 c9)).symm)
theorem s_X4_oneOf {j : Nat} {y : Lk} (hA : LA h a ls) (hj : ls[j]? = some y) (hQ : ∀ r, r = nI y.1 → Q (some (.int r)) h) : MJ m_X4_oneOf 1 0 0 [.ref a, .int (nI j)] h Q := by
  have hA0 := hA
  obtain ⟨f1, f2, f3, f4, hP, hV, hn, hO⟩ := hA
  have hjl := get_lt hj
  obtain ⟨v1, v2, v3, v4⟩ := hV j y hj
  obtain ⟨o1, o2, o3, o4, o5⟩ := hO y (List.mem_of_getElem? hj)
  refine MJ_of_J (L := [some (.ref a), some (.int (nI j))]) (by decide +kernel) rfl (Nat.le_of_ble_eq_true rfl) rfl ?_
  refine J_aload_n dX4_oneOf_0 rfl ?_
  refine J_iload_n dX4_oneOf_1 rfl ?_
  refine J_callV (As := [_]) (rest := []) (M' := m_X4_has) dX4_oneOf_2 ml_RX4_28 gm_X4_has gv_X4_has hP.o hP.b rfl rfl rfl (Nat.le_of_ble_eq_true rfl) (by decide) ⟨rfl, rfl, by decide, by decide⟩ (s_X4_has hA0 (fun r hr => ?_))
  refine J_if_eq (tgt := 17) dX4_oneOf_5 (by decide) (fun c5 => absurd ⟨j, hjl, rfl⟩ ((bI_0 hr).mp c5)) (fun c5 => ?_)
  refine J_aload_n dX4_oneOf_8 rfl ?_
  refine J_get (k := 0) dX4_oneOf_9 gc_4 fl_RX4_9 (by decide) hP.o hP.b rfl ?_
  refine J_iload_n dX4_oneOf_12 rfl ?_
  refine J_iald dX4_oneOf_13 hP.c1 hP.b1 (vp_in_nI (by omega) (by decide)) ?_
  rw [nI_clamp (n := j) (by omega), v1]
  refine J_goto (tgt := 18) dX4_oneOf_14 (by decide) ?_
  exact J_iret dX4_oneOf_18 rfl ⟨rfl, Nat.le_refl _⟩ (hQ _ rfl)
theorem s_X4_otherOf {j : Nat} {y : Lk} (hA : LA h a ls) (hj : ls[j]? = some y) (hQ : ∀ r, r = nI y.2.1 → Q (some (.int r)) h) : MJ m_X4_otherOf 1 0 0 [.ref a, .int (nI j)] h Q := by
  have hA0 := hA
  obtain ⟨f1, f2, f3, f4, hP, hV, hn, hO⟩ := hA
  have hjl := get_lt hj
  obtain ⟨v1, v2, v3, v4⟩ := hV j y hj
  obtain ⟨o1, o2, o3, o4, o5⟩ := hO y (List.mem_of_getElem? hj)
  refine MJ_of_J (L := [some (.ref a), some (.int (nI j))]) (by decide +kernel) rfl (Nat.le_of_ble_eq_true rfl) rfl ?_
  refine J_aload_n dX4_otherOf_0 rfl ?_
  refine J_iload_n dX4_otherOf_1 rfl ?_
  refine J_callV (As := [_]) (rest := []) (M' := m_X4_has) dX4_otherOf_2 ml_RX4_28 gm_X4_has gv_X4_has hP.o hP.b rfl rfl rfl (Nat.le_of_ble_eq_true rfl) (by decide) ⟨rfl, rfl, by decide, by decide⟩ (s_X4_has hA0 (fun r hr => ?_))
  refine J_if_eq (tgt := 17) dX4_otherOf_5 (by decide) (fun c5 => absurd ⟨j, hjl, rfl⟩ ((bI_0 hr).mp c5)) (fun c5 => ?_)
  refine J_aload_n dX4_otherOf_8 rfl ?_
  refine J_get (k := 1) dX4_otherOf_9 gc_4 fl_RX4_15 (by decide) hP.o hP.b rfl ?_
  refine J_iload_n dX4_otherOf_12 rfl ?_
  refine J_iald dX4_otherOf_13 hP.c2 hP.b2 (vp_in_nI (by omega) (by decide)) ?_
  rw [nI_clamp (n := j) (by omega), v2]
  refine J_goto (tgt := 18) dX4_otherOf_14 (by decide) ?_
  exact J_iret dX4_otherOf_18 rfl ⟨rfl, Nat.le_refl _⟩ (hQ _ rfl)
theorem s_X4_fromOf {j : Nat} {y : Lk} (hA : LA h a ls) (hj : ls[j]? = some y) (hQ : ∀ r, r = nI y.2.2.1 → Q (some (.int r)) h) : MJ m_X4_fromOf 1 0 0 [.ref a, .int (nI j)] h Q := by
  have hA0 := hA
  obtain ⟨f1, f2, f3, f4, hP, hV, hn, hO⟩ := hA
  have hjl := get_lt hj
  obtain ⟨v1, v2, v3, v4⟩ := hV j y hj
  obtain ⟨o1, o2, o3, o4, o5⟩ := hO y (List.mem_of_getElem? hj)
  refine MJ_of_J (L := [some (.ref a), some (.int (nI j))]) (by decide +kernel) rfl (Nat.le_of_ble_eq_true rfl) rfl ?_
  refine J_aload_n dX4_fromOf_0 rfl ?_
  refine J_iload_n dX4_fromOf_1 rfl ?_
  refine J_callV (As := [_]) (rest := []) (M' := m_X4_has) dX4_fromOf_2 ml_RX4_28 gm_X4_has gv_X4_has hP.o hP.b rfl rfl rfl (Nat.le_of_ble_eq_true rfl) (by decide) ⟨rfl, rfl, by decide, by decide⟩ (s_X4_has hA0 (fun r hr => ?_))
  refine J_if_eq (tgt := 17) dX4_fromOf_5 (by decide) (fun c5 => absurd ⟨j, hjl, rfl⟩ ((bI_0 hr).mp c5)) (fun c5 => ?_)
  refine J_aload_n dX4_fromOf_8 rfl ?_
  refine J_get (k := 2) dX4_fromOf_9 gc_4 fl_RX4_18 (by decide) hP.o hP.b rfl ?_
  refine J_iload_n dX4_fromOf_12 rfl ?_
  refine J_iald dX4_fromOf_13 hP.c3 hP.b3 (vp_in_nI (by omega) (by decide)) ?_
  rw [nI_clamp (n := j) (by omega), v3]
  refine J_goto (tgt := 18) dX4_fromOf_14 (by decide) ?_
  exact J_iret dX4_fromOf_18 rfl ⟨rfl, Nat.le_refl _⟩ (hQ _ rfl)
theorem s_X4_toOf {j : Nat} {y : Lk} (hA : LA h a ls) (hj : ls[j]? = some y) (hQ : ∀ r, r = nI y.2.2.2 → Q (some (.int r)) h) : MJ m_X4_toOf 1 0 0 [.ref a, .int (nI j)] h Q := by
  have hA0 := hA
  obtain ⟨f1, f2, f3, f4, hP, hV, hn, hO⟩ := hA
  have hjl := get_lt hj
  obtain ⟨v1, v2, v3, v4⟩ := hV j y hj
  obtain ⟨o1, o2, o3, o4, o5⟩ := hO y (List.mem_of_getElem? hj)
  refine MJ_of_J (L := [some (.ref a), some (.int (nI j))]) (by decide +kernel) rfl (Nat.le_of_ble_eq_true rfl) rfl ?_
  refine J_aload_n dX4_toOf_0 rfl ?_
  refine J_iload_n dX4_toOf_1 rfl ?_
  refine J_callV (As := [_]) (rest := []) (M' := m_X4_has) dX4_toOf_2 ml_RX4_28 gm_X4_has gv_X4_has hP.o hP.b rfl rfl rfl (Nat.le_of_ble_eq_true rfl) (by decide) ⟨rfl, rfl, by decide, by decide⟩ (s_X4_has hA0 (fun r hr => ?_))
  refine J_if_eq (tgt := 17) dX4_toOf_5 (by decide) (fun c5 => absurd ⟨j, hjl, rfl⟩ ((bI_0 hr).mp c5)) (fun c5 => ?_)
  refine J_aload_n dX4_toOf_8 rfl ?_
  refine J_get (k := 3) dX4_toOf_9 gc_4 fl_RX4_21 (by decide) hP.o hP.b rfl ?_
  refine J_iload_n dX4_toOf_12 rfl ?_
  refine J_iald dX4_toOf_13 hP.c4 hP.b4 (vp_in_nI (by omega) (by decide)) ?_
  rw [nI_clamp (n := j) (by omega), v4]
  refine J_goto (tgt := 18) dX4_toOf_14 (by decide) ?_
  exact J_iret dX4_toOf_18 rfl ⟨rfl, Nat.le_refl _⟩ (hQ _ rfl)
theorem s_X4_livesAt {j : Nat} {y : Lk} {m : Int32} (hA : LA h a ls) (hj : ls[j]? = some y) (hQ : ∀ r, r = bI (lvB m.toInt y = true) → Q (some (.int r)) h) : MJ m_X4_livesAt 1 0 0 [.ref a, .int (nI j), .int m] h Q := by
  have hA0 := hA
  obtain ⟨f1, f2, f3, f4, hP, hV, hn, hO⟩ := hA
  have hjl := get_lt hj
  obtain ⟨v1, v2, v3, v4⟩ := hV j y hj
  obtain ⟨o1, o2, o3, o4, o5⟩ := hO y (List.mem_of_getElem? hj)
  refine MJ_of_J (L := [some (.ref a), some (.int (nI j)), some (.int m)]) (by decide +kernel) rfl (Nat.le_of_ble_eq_true rfl) rfl ?_
  refine J_aload_n dX4_livesAt_0 rfl ?_
  refine J_iload_n dX4_livesAt_1 rfl ?_
  refine J_callV (As := [_]) (rest := []) (M' := m_X4_has) dX4_livesAt_2 ml_RX4_28 gm_X4_has gv_X4_has hP.o hP.b rfl rfl rfl (Nat.le_of_ble_eq_true rfl) (by decide) ⟨rfl, rfl, by decide, by decide⟩ (s_X4_has hA0 (fun r hr => ?_))
  refine J_if_eq (tgt := 32) dX4_livesAt_5 (by decide) (fun c5 => absurd ⟨j, hjl, rfl⟩ ((bI_0 hr).mp c5)) (fun c5 => ?_)
  refine J_aload_n dX4_livesAt_8 rfl ?_
  refine J_get (k := 2) dX4_livesAt_9 gc_4 fl_RX4_18 (by decide) hP.o hP.b rfl ?_
  refine J_iload_n dX4_livesAt_12 rfl ?_
  refine J_iald dX4_livesAt_13 hP.c3 hP.b3 (vp_in_nI (by omega) (by decide)) ?_
  rw [nI_clamp (n := j) (by omega), v3]
  refine J_iload_n dX4_livesAt_14 rfl ?_
  refine J_icmp_gt (tgt := 32) dX4_livesAt_15 (by decide) (fun c15 => ?_) (fun c15 => ?_)
  · refine J_iconst (x := 0) dX4_livesAt_32 (by decide) ?_
    exact J_zret dX4_livesAt_33 rfl (by first | exact Or.inl rfl | exact Or.inr rfl) ⟨rfl, Nat.le_refl _⟩ (hQ _ (bI_f (fun q => by rw [lvB_iff] at q; rw [nI_ltT' (by omega)] at c15; omega)).symm)
  · refine J_iload_n dX4_livesAt_18 rfl ?_
    refine J_aload_n dX4_livesAt_19 rfl ?_
    refine J_get (k := 3) dX4_livesAt_20 gc_4 fl_RX4_21 (by decide) hP.o hP.b rfl ?_
    refine J_iload_n dX4_livesAt_23 rfl ?_
    refine J_iald dX4_livesAt_24 hP.c4 hP.b4 (vp_in_nI (by omega) (by decide)) ?_
    rw [nI_clamp (n := j) (by omega), v4]
    refine J_icmp_ge (tgt := 32) dX4_livesAt_25 (by decide) (fun c25 => ?_) (fun c25 => ?_)
    · refine J_iconst (x := 0) dX4_livesAt_32 (by decide) ?_
      exact J_zret dX4_livesAt_33 rfl (by first | exact Or.inl rfl | exact Or.inr rfl) ⟨rfl, Nat.le_refl _⟩ (hQ _ (bI_f (fun q => by rw [lvB_iff] at q; rw [nI_leT (by omega)] at c25; omega)).symm)
    · refine J_iconst (x := 1) dX4_livesAt_28 (by decide) ?_
      refine J_goto (tgt := 33) dX4_livesAt_29 (by decide) ?_
      exact J_zret dX4_livesAt_33 rfl (by first | exact Or.inl rfl | exact Or.inr rfl) ⟨rfl, Nat.le_refl _⟩ (hQ _ (bI_t (by rw [lvB_iff]; rw [nI_ltT' (by omega)] at c15; rw [nI_leT (by omega)] at c25; omega)).symm)
theorem l_X4_livingAt {m : Int32} (hA : LA h a ls) (hQ : ∀ r, r = nI (ls.countP (lvB m.toInt)) → Q (some (.int r)) h) : ∀ (t k c : Nat), ls.length - k < t → k ≤ ls.length → c = (ls.take k).countP (lvB m.toInt) → J m_X4_livingAt 2 0 0 0 0 4 [some (.ref a), some (.int m), some (.int (nI c)), some (.int (nI k))] [] h Q := by
  intro t
  induction t with
  | zero => intro k c ht; omega
  | succ t ih =>
    intro k c ht hk hc
    have hA0 := hA
    have hn := hA.len
    have hcl : c ≤ k := by rw [hc]; exact Nat.le_trans List.countP_le_length (by rw [List.length_take]; omega)
    refine J_iload_n dX4_livingAt_4 rfl ?_
    refine J_aload_n dX4_livingAt_5 rfl ?_
    refine J_get (k := 4) dX4_livingAt_6 gc_4 fl_RX4_24 (by decide) hA0.o hA0.b rfl ?_
    refine J_icmp_ge (tgt := 30) dX4_livingAt_9 (by decide) (fun c9 => ?_) (fun c9 => ?_)
    · refine J_iload_n dX4_livingAt_30 rfl ?_
      exact J_iret dX4_livingAt_31 rfl ⟨rfl, Nat.le_refl _⟩ (hQ _ (by have c9 := (nI_leI (by omega) (by omega)).mp c9; rw [hc, List.take_of_length_le c9]))
    · have c9 : k < ls.length := Nat.not_le.mp (fun q => c9 ((nI_leI (by omega) (by omega)).mpr q))
      obtain ⟨y, hy⟩ := get_of c9
      have hs := take_succ_cnt (lvB m.toInt) hy
      refine J_aload_n dX4_livingAt_12 rfl ?_
      refine J_iload_n dX4_livingAt_13 rfl ?_
      refine J_iload_n dX4_livingAt_14 rfl ?_
      refine J_callV (As := [_, _]) (rest := []) (M' := m_X4_livesAt) dX4_livingAt_15 ml_RX4_32 gm_X4_livesAt gv_X4_livesAt hA0.o hA0.b rfl rfl rfl (Nat.le_of_ble_eq_true rfl) (by decide) ⟨rfl, rfl, by decide, by decide⟩ (s_X4_livesAt hA0 hy (fun r hr => ?_))
      refine J_if_eq (tgt := 24) dX4_livingAt_18 (by decide) (fun c18 => ?_) (fun c18 => ?_)
      · refine J_iinc dX4_livingAt_24 rfl (nI_i1 k) (by decide) rfl ?_
        refine J_goto (tgt := 4) dX4_livingAt_27 (by decide) ?_
        exact ih (k + 1) _ (by omega) (by omega) (by rw [hs, if_neg ((bI_0 hr).mp c18), ← hc]; rfl)
      · refine J_iinc dX4_livingAt_21 rfl (nI_i1 c) (by decide) rfl ?_
        refine J_iinc dX4_livingAt_24 rfl (nI_i1 k) (by decide) rfl ?_
        refine J_goto (tgt := 4) dX4_livingAt_27 (by decide) ?_
        exact ih (k + 1) (c + 1) (by omega) (by omega) (by rw [hs, if_pos (Classical.not_not.mp (fun q => c18 ((bI_0 hr).mpr q))), ← hc])
theorem s_X4_livingAt {m : Int32} (hA : LA h a ls) (hQ : ∀ r, r = nI (ls.countP (lvB m.toInt)) → Q (some (.int r)) h) : MJ m_X4_livingAt 2 0 0 [.ref a, .int m] h Q := by
  refine MJ_of_J (L := [some (.ref a), some (.int m), none, none]) (by decide +kernel) rfl (Nat.le_of_ble_eq_true rfl) rfl ?_
  refine J_iconst (x := 0) dX4_livingAt_0 (by decide) ?_
  refine J_istore_n dX4_livingAt_1 (by decide) rfl ?_
  refine J_iconst (x := 0) dX4_livingAt_2 (by decide) ?_
  refine J_istore_n dX4_livingAt_3 (by decide) rfl ?_
  exact l_X4_livingAt hA hQ (ls.length + 1) 0 0 (by omega) (by omega) (by simp)
/-- a link lives at all of a span -/
def cvB (b n : Nat) (x : Lk) : Bool := decide (x.2.2.1 ≤ b ∧ b + n ≤ x.2.2.2)
theorem cvB_iff {b n : Nat} {x : Lk} : cvB b n x = true ↔ x.2.2.1 ≤ b ∧ b + n ≤ x.2.2.2 := by simp [cvB]
theorem s_X4_coversAll {j b n : Nat} {y : Lk} (hA : LA h a ls) (hj : ls[j]? = some y) (hb : b < 1000) (hm : n < 1000) (hQ : ∀ r, r = bI (cvB b n y = true) → Q (some (.int r)) h) : MJ m_X4_coversAll 1 0 0 [.ref a, .int (nI j), .int (nI b), .int (nI n)] h Q := by
  have hA0 := hA
  obtain ⟨f1, f2, f3, f4, hP, hV, hn, hO⟩ := hA
  have hjl := get_lt hj
  obtain ⟨v1, v2, v3, v4⟩ := hV j y hj
  obtain ⟨o1, o2, o3, o4, o5⟩ := hO y (List.mem_of_getElem? hj)
  refine MJ_of_J (L := [some (.ref a), some (.int (nI j)), some (.int (nI b)), some (.int (nI n))]) (by decide +kernel) rfl (Nat.le_of_ble_eq_true rfl) rfl ?_
  refine J_aload_n dX4_coversAll_0 rfl ?_
  refine J_iload_n dX4_coversAll_1 rfl ?_
  refine J_callV (As := [_]) (rest := []) (M' := m_X4_has) dX4_coversAll_2 ml_RX4_28 gm_X4_has gv_X4_has hP.o hP.b rfl rfl rfl (Nat.le_of_ble_eq_true rfl) (by decide) ⟨rfl, rfl, by decide, by decide⟩ (s_X4_has hA0 (fun r hr => ?_))
  refine J_if_eq (tgt := 34) dX4_coversAll_5 (by decide) (fun c5 => absurd ⟨j, hjl, rfl⟩ ((bI_0 hr).mp c5)) (fun c5 => ?_)
  refine J_aload_n dX4_coversAll_8 rfl ?_
  refine J_get (k := 2) dX4_coversAll_9 gc_4 fl_RX4_18 (by decide) hP.o hP.b rfl ?_
  refine J_iload_n dX4_coversAll_12 rfl ?_
  refine J_iald dX4_coversAll_13 hP.c3 hP.b3 (vp_in_nI (by omega) (by decide)) ?_
  rw [nI_clamp (n := j) (by omega), v3]
  refine J_iload_n dX4_coversAll_14 rfl ?_
  refine J_icmp_gt (tgt := 34) dX4_coversAll_15 (by decide) (fun c15 => ?_) (fun c15 => ?_)
  · refine J_iconst (x := 0) dX4_coversAll_34 (by decide) ?_
    exact J_zret dX4_coversAll_35 rfl (by first | exact Or.inl rfl | exact Or.inr rfl) ⟨rfl, Nat.le_refl _⟩ (hQ _ (bI_f (fun q => by rw [cvB_iff] at q; rw [nI_ltI (by omega) (by omega)] at c15; omega)).symm)
  · refine J_iload_n dX4_coversAll_18 rfl ?_
    refine J_iload_n dX4_coversAll_19 rfl ?_
    refine J_iadd dX4_coversAll_20 ?_
    refine J_aload_n dX4_coversAll_21 rfl ?_
    refine J_get (k := 3) dX4_coversAll_22 gc_4 fl_RX4_21 (by decide) hP.o hP.b rfl ?_
    refine J_iload_n dX4_coversAll_25 rfl ?_
    refine J_iald dX4_coversAll_26 hP.c4 hP.b4 (vp_in_nI (by omega) (by decide)) ?_
    rw [nI_clamp (n := j) (by omega), v4, nI_add]
    refine J_icmp_gt (tgt := 34) dX4_coversAll_27 (by decide) (fun c27 => ?_) (fun c27 => ?_)
    · refine J_iconst (x := 0) dX4_coversAll_34 (by decide) ?_
      exact J_zret dX4_coversAll_35 rfl (by first | exact Or.inl rfl | exact Or.inr rfl) ⟨rfl, Nat.le_refl _⟩ (hQ _ (bI_f (fun q => by rw [cvB_iff] at q; rw [nI_ltI (by omega) (by omega)] at c27; omega)).symm)
    · refine J_iconst (x := 1) dX4_coversAll_30 (by decide) ?_
      refine J_goto (tgt := 35) dX4_coversAll_31 (by decide) ?_
      exact J_zret dX4_coversAll_35 rfl (by first | exact Or.inl rfl | exact Or.inr rfl) ⟨rfl, Nat.le_refl _⟩ (hQ _ (bI_t (by rw [cvB_iff]; rw [nI_ltI (by omega) (by omega)] at c15 c27; omega)).symm)
/-- a link is laid at the span that begins at b, of which the whole time has been halved d times -/
def ldB (b d : Nat) (x : Lk) : Bool := cvB b (sl d) x && (decide (d = 0) || !cvB (sb b (d - 1)) (sl (d - 1)) x)
theorem nI_p1 (d : Nat) (h : ¬ nI d = 0) (hd : d < 2 ^ 31) : nI d - 1 = nI (d - 1) ∧ 0 < d := by
  have h0 : d ≠ 0 := fun e => h (by rw [e]; exact nI_0)
  obtain ⟨k, rfl⟩ : ∃ k, d = k + 1 := ⟨d - 1, by omega⟩
  exact ⟨nI_pred k, by omega⟩
theorem s_X4_isLaidAt {j b d : Nat} {y : Lk} (hA : LA h a ls) (hj : ls[j]? = some y) (hb : b < 64) (hd : d < 7) (hQ : ∀ r, r = bI (ldB b d y = true) → Q (some (.int r)) h) : MJ m_X4_isLaidAt 2 0 0 [.ref a, .int (nI j), .int (nI b), .int (nI d)] h Q := by
  have hsl := sl_64 d hd
  refine MJ_of_J (L := [some (.ref a), some (.int (nI j)), some (.int (nI b)), some (.int (nI d))]) (by decide +kernel) rfl (Nat.le_of_ble_eq_true rfl) rfl ?_
  refine J_aload_n dX4_isLaidAt_0 rfl ?_
  refine J_iload_n dX4_isLaidAt_1 rfl ?_
  refine J_iload_n dX4_isLaidAt_2 rfl ?_
  refine J_iload_n dX4_isLaidAt_3 rfl ?_
  refine J_callSN (As := [_]) (rest := [_, _, _]) (M' := m_X6_spanLength) dX4_isLaidAt_4 ml_RX4_36 gm_X6_spanLength sm_yX6_spanLength rfl rfl (Nat.le_of_ble_eq_true rfl) (by decide) ⟨rfl, rfl, by decide, by decide⟩ (s_X6_spanLength hd (fun r1 hr1 => ?_))
  subst hr1
  refine J_callV (As := [_, _, _]) (rest := []) (M' := m_X4_coversAll) dX4_isLaidAt_7 ml_RX4_40 gm_X4_coversAll gv_X4_coversAll hA.o hA.b rfl rfl rfl (Nat.le_of_ble_eq_true rfl) (by decide) ⟨rfl, rfl, by decide, by decide⟩ (s_X4_coversAll hA hj (by omega) (by omega) (fun r hr => ?_))
  refine J_if_ne (tgt := 15) dX4_isLaidAt_10 (by decide) (fun c10 => ?_) (fun c10 => ?_)
  · refine J_iload_n dX4_isLaidAt_15 rfl ?_
    have c10 : cvB b (sl d) y = true := Classical.not_not.mp (fun q => c10 ((bI_0 hr).mpr q))
    refine J_if_eq (tgt := 40) dX4_isLaidAt_16 (by decide) (fun c16 => ?_) (fun c16 => ?_)
    · refine J_iconst (x := 1) dX4_isLaidAt_40 (by decide) ?_
      refine J_goto (tgt := 45) dX4_isLaidAt_41 (by decide) ?_
      exact J_zret dX4_isLaidAt_45 rfl (by first | exact Or.inl rfl | exact Or.inr rfl) ⟨rfl, Nat.le_refl _⟩ (hQ _ (bI_t (by unfold ldB; rw [c10]; have : d = 0 := Classical.not_not.mp (fun q => (nI_ne0 (Nat.pos_of_ne_zero q) (by omega)) c16); simp [this])).symm)
    · obtain ⟨e1, hd0⟩ := nI_p1 d c16 (by omega)
      have hsl1 := sl_64 (d - 1) (by omega)
      have hsb := sb_le b (d - 1)
      refine J_aload_n dX4_isLaidAt_19 rfl ?_
      refine J_iload_n dX4_isLaidAt_20 rfl ?_
      refine J_iload_n dX4_isLaidAt_21 rfl ?_
      refine J_iload_n dX4_isLaidAt_22 rfl ?_
      refine J_iconst (x := 1) dX4_isLaidAt_23 (by decide) ?_
      refine J_isub dX4_isLaidAt_24 ?_
      rw [e1]
      refine J_callSN (As := [_, _]) (rest := [_, _]) (M' := m_X6_spanBegin) dX4_isLaidAt_25 ml_RX4_44 gm_X6_spanBegin sm_yX6_spanBegin rfl rfl (Nat.le_of_ble_eq_true rfl) (by decide) ⟨rfl, rfl, by decide, by decide⟩ (s_X6_spanBegin hb (show d - 1 < 7 by omega) (fun r2 hr2 => ?_))
      subst hr2
      refine J_iload_n dX4_isLaidAt_28 rfl ?_
      refine J_iconst (x := 1) dX4_isLaidAt_29 (by decide) ?_
      refine J_isub dX4_isLaidAt_30 ?_
      rw [e1]
      refine J_callSN (As := [_]) (rest := [_, _, _]) (M' := m_X6_spanLength) dX4_isLaidAt_31 ml_RX4_36 gm_X6_spanLength sm_yX6_spanLength rfl rfl (Nat.le_of_ble_eq_true rfl) (by decide) ⟨rfl, rfl, by decide, by decide⟩ (s_X6_spanLength (show d - 1 < 7 by omega) (fun r3 hr3 => ?_))
      subst hr3
      refine J_callV (As := [_, _, _]) (rest := []) (M' := m_X4_coversAll) dX4_isLaidAt_34 ml_RX4_40 gm_X4_coversAll gv_X4_coversAll hA.o hA.b rfl rfl rfl (Nat.le_of_ble_eq_true rfl) (by decide) ⟨rfl, rfl, by decide, by decide⟩ (s_X4_coversAll hA hj (by omega) (by omega) (fun r4 hr4 => ?_))
      refine J_if_ne (tgt := 44) dX4_isLaidAt_37 (by decide) (fun c37 => ?_) (fun c37 => ?_)
      · refine J_iconst (x := 0) dX4_isLaidAt_44 (by decide) ?_
        exact J_zret dX4_isLaidAt_45 rfl (by first | exact Or.inl rfl | exact Or.inr rfl) ⟨rfl, Nat.le_refl _⟩ (hQ _ (bI_f (by unfold ldB; rw [Classical.not_not.mp (fun q => c37 ((bI_0 hr4).mpr q))]; simp; omega)).symm)
      · refine J_iconst (x := 1) dX4_isLaidAt_40 (by decide) ?_
        refine J_goto (tgt := 45) dX4_isLaidAt_41 (by decide) ?_
        exact J_zret dX4_isLaidAt_45 rfl (by first | exact Or.inl rfl | exact Or.inr rfl) ⟨rfl, Nat.le_refl _⟩ (hQ _ (bI_t (by unfold ldB; have := (bI_0 hr4).mp c37; simp only [Bool.not_eq_true] at this; rw [c10, this]; simp)).symm)
  · refine J_iconst (x := 0) dX4_isLaidAt_13 (by decide) ?_
    exact J_zret dX4_isLaidAt_14 rfl (by first | exact Or.inl rfl | exact Or.inr rfl) ⟨rfl, Nat.le_refl _⟩ (hQ _ (bI_f (by unfold ldB; have := (bI_0 hr).mp c10; simp only [Bool.not_eq_true] at this; rw [this]; simp)).symm)
end SLinks
end
section
/-- f 0 + .. + f (n - 1) -/
def sumN (f : Nat → Nat) : Nat → Nat
  | 0 => 0
  | n + 1 => sumN f n + f n
theorem sumN_le {f : Nat → Nat} {b : Nat} (hf : ∀ k, f k ≤ b) : ∀ n, sumN f n ≤ b * n
  | 0 => Nat.le_refl _
  | n + 1 => by
    have h1 := sumN_le hf n
    have h2 := hf n
    have h3 : b * (n + 1) = b * n + b := Nat.mul_succ b n
    show sumN f n + f n ≤ _
    omega
theorem sumN_c {f g : Nat → Nat} : ∀ {n : Nat}, (∀ k, k < n → f k = g k) → sumN f n = sumN g n
  | 0, _ => rfl
  | n + 1, h => by
    show sumN f n + f n = sumN g n + g n
    rw [sumN_c (fun k hk => h k (Nat.lt_succ_of_lt hk)), h n (Nat.lt_succ_self n)]
/-- one for a truth -/
noncomputable def oneI (P : Prop) : Nat := @ite Nat P (Classical.propDecidable P) 1 0
theorem oneI_t {P : Prop} (h : P) : oneI P = 1 := by unfold oneI; exact if_pos h
theorem oneI_f {P : Prop} (h : ¬ P) : oneI P = 0 := by unfold oneI; exact if_neg h
theorem oneI_le (P : Prop) : oneI P ≤ 1 := (Classical.em P).elim (fun h => Nat.le_of_eq (oneI_t h)) (fun h => by rw [oneI_f h]; omega)
theorem oneI_c {P Q : Prop} (h : P ↔ Q) : oneI P = oneI Q := congrArg oneI (propext h)
theorem nn_of {P : Prop} {r : Int32} (e : r = bI P) (c : ¬ r = 0) : P := Classical.not_not.mp (fun q => c ((bI_0 e).mpr q))
noncomputable def spD (y : Lk) (m : Nat) (d : Nat) : Nat := oneI (sb m d = m ∧ ldB m d y = true)
noncomputable def spM (y : Lk) (m : Nat) : Nat := sumN (spD y m) 7
/-- at how many spans a link is laid -/
noncomputable def spN (y : Lk) : Nat := sumN (spM y) 64
section SLinks2
variable {h : g_H} {a : Nat} {ls : List Lk} {Q : Option Value → g_H → Prop}
theorem l1_X4_spansOf {j m c0 : Nat} {y : Lk} (hA : LA h a ls) (hj : ls[j]? = some y) (hm : m < 64) (K : J m_X4_spansOf 3 0 0 0 0 50 [some (.ref a), some (.int (nI j)), some (.int (nI (c0 + spM y m))), some (.int (nI m)), some (.int (nI 7))] [] h Q) : ∀ (t d c : Nat), 7 - d < t → d ≤ 7 → c = c0 + sumN (spD y m) d → J m_X4_spansOf 3 0 0 0 0 13 [some (.ref a), some (.int (nI j)), some (.int (nI c)), some (.int (nI m)), some (.int (nI d))] [] h Q := by
  intro t
  induction t with
  | zero => intro d c ht; omega
  | succ t ih =>
    intro d c ht hd hc
    refine J_iload dX4_spansOf_13 rfl ?_
    refine J_bipush (x := 6) dX4_spansOf_15 (by decide) ?_
    refine J_icmp_gt (tgt := 50) dX4_spansOf_17 (by decide) (fun c17 => ?_) (fun c17 => ?_)
    · have c17 : nI 6 < nI d := c17
      rw [nI_ltI (by omega) (by omega)] at c17
      obtain rfl : d = 7 := by omega
      subst hc
      exact K
    · have c17 : d < 7 := by
        have c17 : ¬ nI 6 < nI d := c17
        rw [nI_ltI (by omega) (by omega)] at c17; omega
      refine J_iload_n dX4_spansOf_20 rfl ?_
      refine J_iload dX4_spansOf_21 rfl ?_
      refine J_callSN (As := [_, _]) (rest := []) (M' := m_X6_spanBegin) dX4_spansOf_23 ml_RX4_44 gm_X6_spanBegin sm_yX6_spanBegin rfl rfl (Nat.le_of_ble_eq_true rfl) (by decide) ⟨rfl, rfl, by decide, by decide⟩ (s_X6_spanBegin hm c17 (fun r1 hr1 => ?_))
      subst hr1
      refine J_iload_n dX4_spansOf_26 rfl ?_
      refine J_icmp_ne (tgt := 44) dX4_spansOf_27 (by decide) (fun c27 => ?_) (fun c27 => ?_)
      · refine J_iinc dX4_spansOf_44 rfl (nI_i1 d) (by decide) rfl ?_
        refine J_goto (tgt := 13) dX4_spansOf_47 (by decide) ?_
        exact ih (d + 1) _ (by omega) (by omega) (by subst hc; show _ = c0 + (sumN (spD y m) d + spD y m d); rw [show spD y m d = 0 from oneI_f (fun q => c27 ((nI_eq (by have := sb_le m d; omega) (by omega)).mpr q.1))]; omega)
      · have c27 := (nI_eq (by have := sb_le m d; omega) (by omega)).mp c27
        refine J_aload_n dX4_spansOf_30 rfl ?_
        refine J_iload_n dX4_spansOf_31 rfl ?_
        refine J_iload_n dX4_spansOf_32 rfl ?_
        refine J_iload dX4_spansOf_33 rfl ?_
        refine J_callV (As := [_, _, _]) (rest := []) (M' := m_X4_isLaidAt) dX4_spansOf_35 ml_RX4_48 gm_X4_isLaidAt gv_X4_isLaidAt hA.o hA.b rfl rfl rfl (Nat.le_of_ble_eq_true rfl) (by decide) ⟨rfl, rfl, by decide, by decide⟩ (s_X4_isLaidAt hA hj hm c17 (fun r hr => ?_))
        refine J_if_eq (tgt := 44) dX4_spansOf_38 (by decide) (fun c38 => ?_) (fun c38 => ?_)
        · refine J_iinc dX4_spansOf_44 rfl (nI_i1 d) (by decide) rfl ?_
          refine J_goto (tgt := 13) dX4_spansOf_47 (by decide) ?_
          exact ih (d + 1) _ (by omega) (by omega) (by subst hc; show _ = c0 + (sumN (spD y m) d + spD y m d); rw [show spD y m d = 0 from oneI_f (fun q => (bI_0 hr).mp c38 q.2)]; omega)
        · refine J_iinc dX4_spansOf_41 rfl (nI_i1 c) (by decide) rfl ?_
          refine J_iinc dX4_spansOf_44 rfl (nI_i1 d) (by decide) rfl ?_
          refine J_goto (tgt := 13) dX4_spansOf_47 (by decide) ?_
          exact ih (d + 1) (c + 1) (by omega) (by omega) (by subst hc; show _ = c0 + (sumN (spD y m) d + spD y m d); rw [show spD y m d = 1 from oneI_t ⟨c27, nn_of hr c38⟩]; omega)
theorem l2_X4_spansOf {j : Nat} {y : Lk} (hA : LA h a ls) (hj : ls[j]? = some y) (hQ : ∀ r, r = nI (spN y) → Q (some (.int r)) h) : ∀ (t m c : Nat), 64 - m < t → m ≤ 64 → c = sumN (spM y) m → J m_X4_spansOf 3 0 0 0 0 4 [some (.ref a), some (.int (nI j)), some (.int (nI c)), some (.int (nI m)), none] [] h Q := by
  intro t
  induction t with
  | zero => intro m c ht; omega
  | succ t ih =>
    intro m c ht hm hc
    refine J_iload_n dX4_spansOf_4 rfl ?_
    refine J_bipush (x := 64) dX4_spansOf_5 (by decide) ?_
    refine J_icmp_ge (tgt := 56) dX4_spansOf_7 (by decide) (fun c7 => ?_) (fun c7 => ?_)
    · have c7 : 64 ≤ m := (nI_leI (a := 64) (b := m) (by omega) (by omega)).mp c7
      obtain rfl : m = 64 := by omega
      refine J_iload_n dX4_spansOf_56 rfl ?_
      exact J_iret dX4_spansOf_57 rfl ⟨rfl, Nat.le_refl _⟩ (hQ _ (by rw [hc]; rfl))
    · have c7 : m < 64 := Nat.not_le.mp (fun q => c7 ((nI_leI (a := 64) (b := m) (by omega) (by omega)).mpr q))
      refine J_iconst (x := 0) dX4_spansOf_10 (by decide) ?_
      refine J_istore dX4_spansOf_11 (by decide) rfl ?_
      refine l1_X4_spansOf (c0 := c) hA hj c7 ?_ 8 0 c (by omega) (by omega) rfl
      subst hc
      refine J_iinc dX4_spansOf_50 rfl (nI_i1 m) (by decide) rfl ?_
      refine J_goto (tgt := 4) dX4_spansOf_53 (by decide) ?_
      refine J_drop [4] rfl ?_
      exact ih (m + 1) _ (by omega) (by omega) rfl
theorem s_X4_spansOf {j : Nat} {y : Lk} (hA : LA h a ls) (hj : ls[j]? = some y) (hQ : ∀ r, r = nI (spN y) → Q (some (.int r)) h) : MJ m_X4_spansOf 3 0 0 [.ref a, .int (nI j)] h Q := by
  refine MJ_of_J (L := [some (.ref a), some (.int (nI j)), none, none, none]) (by decide +kernel) rfl (Nat.le_of_ble_eq_true rfl) rfl ?_
  refine J_iconst (x := 0) dX4_spansOf_0 (by decide) ?_
  refine J_istore_n dX4_spansOf_1 (by decide) rfl ?_
  refine J_iconst (x := 0) dX4_spansOf_2 (by decide) ?_
  refine J_istore_n dX4_spansOf_3 (by decide) rfl ?_
  exact l2_X4_spansOf hA hj hQ 65 0 0 (by omega) (by omega) rfl
theorem s_X4_empty (hA : LA h a ls) (hQ : ∀ h', Fr a (a + 5) h h' → LA h' a [] → Q none h') : MJ m_X4_empty 0 0 0 [.ref a] h Q := by
  obtain ⟨f1, f2, f3, f4, hP, hV, hn, hO⟩ := hA
  refine MJ_of_J (L := [some (.ref a)]) (by decide +kernel) rfl (Nat.le_of_ble_eq_true rfl) rfl ?_
  refine J_aload_n dX4_empty_0 rfl ?_
  refine J_iconst (x := 0) dX4_empty_1 (by decide) ?_
  refine J_put (k := 4) dX4_empty_2 gc_4 fl_RX4_24 (by decide) rfl hP.o hP.b (Nat.le_of_ble_eq_true rfl) (fun _ => ⟨rfl, rfl⟩) rfl ?_
  replace hP := hP.sn (nI 0)
  exact J_vret dX4_empty_5 rfl ⟨rfl, Nat.le_refl _⟩ (hQ _ (Fr.rf.up (by omega) (by omega)) ⟨f1, f2, f3, f4, hP, fun k x q => by simp at q, by simp, fun x q => by simp at q⟩)
theorem LV.push {f1 f2 f3 f4 : Nat → Int32} (hV : LV ls f1 f2 f3 f4) (y : Lk) : LV (ls ++ [y]) (upd f1 ls.length (nI y.1)) (upd f2 ls.length (nI y.2.1)) (upd f3 ls.length (nI y.2.2.1)) (upd f4 ls.length (nI y.2.2.2)) := by
  intro k x hk
  by_cases e : k < ls.length
  · rw [List.getElem?_append_left e] at hk
    have e2 : k ≠ ls.length := by omega
    simpa [upd, e2] using hV k x hk
  · have e2 : k = ls.length := by
      have := get_lt hk
      simp at this
      omega
    subst e2
    rw [List.getElem?_append_right (Nat.le_refl _), Nat.sub_self] at hk
    simp at hk
    subst hk
    simp [upd]
theorem s_X4_add {y : Lk} (hA : LA h a ls) (hy : okK y) (hl : ls.length < 40) (hQ : ∀ h', Fr a (a + 5) h h' → LA h' a (ls ++ [y]) → Q none h') : MJ m_X4_add 1 0 0 [.ref a, .int (nI y.1), .int (nI y.2.1), .int (nI y.2.2.1), .int (nI y.2.2.2)] h Q := by
  have hA0 := hA
  obtain ⟨f1, f2, f3, f4, hP, hV, hn, hO⟩ := hA
  refine MJ_of_J (L := [some (.ref a), some (.int (nI y.1)), some (.int (nI y.2.1)), some (.int (nI y.2.2.1)), some (.int (nI y.2.2.2))]) (by decide +kernel) rfl (Nat.le_of_ble_eq_true rfl) rfl ?_
  refine J_aload_n dX4_add_0 rfl ?_
  refine J_callV (As := []) (rest := []) (M' := m_X4_room) dX4_add_1 ml_RX4_51 gm_X4_room gv_X4_room hP.o hP.b rfl rfl rfl (Nat.le_of_ble_eq_true rfl) (by decide) ⟨rfl, rfl, by decide, by decide⟩ (s_X4_room hA0 (fun r hr => ?_))
  refine J_if_le (tgt := 58) dX4_add_4 (by decide) (fun c4 => absurd (show r ≤ nI 0 from c4) (by rw [hr, nI_leI (by omega) (by omega)]; omega)) (fun c4 => ?_)
  refine J_aload_n dX4_add_7 rfl ?_
  refine J_get (k := 0) dX4_add_8 gc_4 fl_RX4_9 (by decide) hP.o hP.b rfl ?_
  refine J_aload_n dX4_add_11 rfl ?_
  refine J_get (k := 4) dX4_add_12 gc_4 fl_RX4_24 (by decide) hP.o hP.b rfl ?_
  refine J_iload_n dX4_add_15 rfl ?_
  refine J_iast dX4_add_16 hP.c1 hP.b1 (vp_in_nI (by omega) (by decide)) ?_
  rw [nI_clamp (n := ls.length) (by omega)]
  replace hP := hP.s1 (upd f1 ls.length (nI y.1))
  refine J_aload_n dX4_add_17 rfl ?_
  refine J_get (k := 1) dX4_add_18 gc_4 fl_RX4_15 (by decide) hP.o hP.b rfl ?_
  refine J_aload_n dX4_add_21 rfl ?_
  refine J_get (k := 4) dX4_add_22 gc_4 fl_RX4_24 (by decide) hP.o hP.b rfl ?_
  refine J_iload_n dX4_add_25 rfl ?_
  refine J_iast dX4_add_26 hP.c2 hP.b2 (vp_in_nI (by omega) (by decide)) ?_
  rw [nI_clamp (n := ls.length) (by omega)]
  replace hP := hP.s2 (upd f2 ls.length (nI y.2.1))
  refine J_aload_n dX4_add_27 rfl ?_
  refine J_get (k := 2) dX4_add_28 gc_4 fl_RX4_18 (by decide) hP.o hP.b rfl ?_
  refine J_aload_n dX4_add_31 rfl ?_
  refine J_get (k := 4) dX4_add_32 gc_4 fl_RX4_24 (by decide) hP.o hP.b rfl ?_
  refine J_iload_n dX4_add_35 rfl ?_
  refine J_iast dX4_add_36 hP.c3 hP.b3 (vp_in_nI (by omega) (by decide)) ?_
  rw [nI_clamp (n := ls.length) (by omega)]
  replace hP := hP.s3 (upd f3 ls.length (nI y.2.2.1))
  refine J_aload_n dX4_add_37 rfl ?_
  refine J_get (k := 3) dX4_add_38 gc_4 fl_RX4_21 (by decide) hP.o hP.b rfl ?_
  refine J_aload_n dX4_add_41 rfl ?_
  refine J_get (k := 4) dX4_add_42 gc_4 fl_RX4_24 (by decide) hP.o hP.b rfl ?_
  refine J_iload dX4_add_45 rfl ?_
  refine J_iast dX4_add_47 hP.c4 hP.b4 (vp_in_nI (by omega) (by decide)) ?_
  rw [nI_clamp (n := ls.length) (by omega)]
  replace hP := hP.s4 (upd f4 ls.length (nI y.2.2.2))
  refine J_aload_n dX4_add_48 rfl ?_
  refine J_dup dX4_add_49 rfl ?_
  refine J_get (k := 4) dX4_add_50 gc_4 fl_RX4_24 (by decide) hP.o hP.b rfl ?_
  refine J_iconst (x := 1) dX4_add_53 (by decide) ?_
  refine J_iadd dX4_add_54 ?_
  have e1 : nI ls.length + 1 = nI (ls ++ [y]).length := by rw [nI_1, List.length_append]; rfl
  rw [e1]
  refine J_put (k := 4) dX4_add_55 gc_4 fl_RX4_24 (by decide) rfl hP.o hP.b (Nat.le_of_ble_eq_true rfl) (fun _ => ⟨rfl, rfl⟩) rfl ?_
  replace hP := hP.sn (nI (ls ++ [y]).length)
  exact J_vret dX4_add_58 rfl ⟨rfl, Nat.le_refl _⟩ (hQ _ (((((Fr.rf.up (by omega) (by omega)).up (by omega) (by omega)).up (by omega) (by omega)).up (by omega) (by omega)).up (by omega) (by omega)) ⟨_, _, _, _, hP, hV.push y, by simp; omega, fun x q => by rcases List.mem_append.mp q with q | q; exact hO x q; rw [List.mem_singleton.mp q]; exact hy⟩)
theorem l_X4_addAll {b : Nat} {ms : List Lk} (hB : LA h b ms) (hd : a + 5 ≤ b ∨ b + 5 ≤ a) (hl : ls.length + ms.length ≤ 40) (hQ : ∀ h', Fr a (a + 5) h h' → LA h' a (ls ++ ms) → Q none h') : ∀ (t k : Nat) (h1 : g_H), ms.length - k < t → k ≤ ms.length → Fr a (a + 5) h h1 → LA h1 a (ls ++ ms.take k) → J m_X4_addAll 2 0 0 0 0 2 [some (.ref a), some (.ref b), some (.int (nI k))] [] h1 Q := by
  intro t
  induction t with
  | zero => intro k h1 ht; omega
  | succ t ih =>
    intro k h1 ht hk hF hA1
    obtain ⟨f1, f2, f3, f4, hP, hV, hn, hO⟩ := hB.fr hF (by omega)
    refine J_iload_n dX4_addAll_2 rfl ?_
    refine J_aload_n dX4_addAll_3 rfl ?_
    refine J_get (k := 4) dX4_addAll_4 gc_4 fl_RX4_24 (by decide) hP.o hP.b rfl ?_
    refine J_icmp_ge (tgt := 44) dX4_addAll_7 (by decide) (fun c7 => ?_) (fun c7 => ?_)
    · exact J_vret dX4_addAll_44 rfl ⟨rfl, Nat.le_refl _⟩ (hQ h1 hF (by have c7 := (nI_leI (by omega) (by omega)).mp c7; rwa [List.take_of_length_le c7] at hA1))
    · have c7 : k < ms.length := Nat.not_le.mp (fun q => c7 ((nI_leI (by omega) (by omega)).mpr q))
      obtain ⟨y, hy⟩ := get_of c7
      obtain ⟨v1, v2, v3, v4⟩ := hV k y hy
      refine J_aload_n dX4_addAll_10 rfl ?_
      refine J_aload_n dX4_addAll_11 rfl ?_
      refine J_get (k := 0) dX4_addAll_12 gc_4 fl_RX4_9 (by decide) hP.o hP.b rfl ?_
      refine J_iload_n dX4_addAll_15 rfl ?_
      refine J_iald dX4_addAll_16 hP.c1 hP.b1 (vp_in_nI (by omega) (by decide)) ?_
      refine J_aload_n dX4_addAll_17 rfl ?_
      refine J_get (k := 1) dX4_addAll_18 gc_4 fl_RX4_15 (by decide) hP.o hP.b rfl ?_
      refine J_iload_n dX4_addAll_21 rfl ?_
      refine J_iald dX4_addAll_22 hP.c2 hP.b2 (vp_in_nI (by omega) (by decide)) ?_
      refine J_aload_n dX4_addAll_23 rfl ?_
      refine J_get (k := 2) dX4_addAll_24 gc_4 fl_RX4_18 (by decide) hP.o hP.b rfl ?_
      refine J_iload_n dX4_addAll_27 rfl ?_
      refine J_iald dX4_addAll_28 hP.c3 hP.b3 (vp_in_nI (by omega) (by decide)) ?_
      refine J_aload_n dX4_addAll_29 rfl ?_
      refine J_get (k := 3) dX4_addAll_30 gc_4 fl_RX4_21 (by decide) hP.o hP.b rfl ?_
      refine J_iload_n dX4_addAll_33 rfl ?_
      refine J_iald dX4_addAll_34 hP.c4 hP.b4 (vp_in_nI (by omega) (by decide)) ?_
      rw [nI_clamp (n := k) (by omega), v1, v2, v3, v4]
      refine J_callV (As := [_, _, _, _]) (rest := []) (M' := m_X4_add) dX4_addAll_35 ml_RX4_55 gm_X4_add gv_X4_add hA1.o hA1.b rfl rfl rfl (Nat.le_of_ble_eq_true rfl) (by decide) ⟨rfl, rfl, by decide, by decide⟩ (s_X4_add hA1 (hO y (List.mem_of_getElem? hy)) (by rw [List.length_append, List.length_take]; omega) (fun h2 hF2 hA2 => ?_))
      refine J_iinc dX4_addAll_38 rfl (nI_i1 k) (by decide) rfl ?_
      refine J_goto (tgt := 2) dX4_addAll_41 (by decide) ?_
      exact ih (k + 1) h2 (by omega) (by omega) (hF.tr hF2) (by rw [List.take_succ, hy]; simpa using hA2)
theorem s_X4_addAll {b : Nat} {ms : List Lk} (hA : LA h a ls) (hB : LA h b ms) (hd : a + 5 ≤ b ∨ b + 5 ≤ a) (hl : ls.length + ms.length ≤ 40) (hQ : ∀ h', Fr a (a + 5) h h' → LA h' a (ls ++ ms) → Q none h') : MJ m_X4_addAll 2 0 0 [.ref a, .ref b] h Q := by
  refine MJ_of_J (L := [some (.ref a), some (.ref b), none]) (by decide +kernel) rfl (Nat.le_of_ble_eq_true rfl) rfl ?_
  refine J_iconst (x := 0) dX4_addAll_0 (by decide) ?_
  refine J_istore_n dX4_addAll_1 (by decide) rfl ?_
  exact l_X4_addAll hB hd hl hQ (ms.length + 1) 0 h (by omega) (by omega) Fr.rf (by simpa using hA)
theorem s_X4_take {b : Nat} {ms : List Lk} (hA : LA h a ls) (hB : LA h b ms) (hd : a + 5 ≤ b ∨ b + 5 ≤ a) (hQ : ∀ h', Fr a (a + 5) h h' → LA h' a ms → Q none h') : MJ m_X4_take 3 0 0 [.ref a, .ref b] h Q := by
  have hl := hB.len
  refine MJ_of_J (L := [some (.ref a), some (.ref b)]) (by decide +kernel) rfl (Nat.le_of_ble_eq_true rfl) rfl ?_
  refine J_aload_n dX4_take_0 rfl ?_
  refine J_callV (As := []) (rest := []) (M' := m_X4_empty) dX4_take_1 ml_RX4_59 gm_X4_empty gv_X4_empty hA.o hA.b rfl rfl rfl (Nat.le_of_ble_eq_true rfl) (by decide) ⟨rfl, rfl, by decide, by decide⟩ (s_X4_empty hA (fun h1 hF1 hA1 => ?_))
  replace hA := hA1
  refine J_aload_n dX4_take_4 rfl ?_
  refine J_aload_n dX4_take_5 rfl ?_
  refine J_callV (As := [_]) (rest := []) (M' := m_X4_addAll) dX4_take_6 ml_RX4_62 gm_X4_addAll gv_X4_addAll hA.o hA.b rfl rfl rfl (Nat.le_of_ble_eq_true rfl) (by decide) ⟨rfl, rfl, by decide, by decide⟩ (s_X4_addAll hA1 (hB.fr hF1 (by omega)) hd (by simpa using hl) (fun h2 hF2 hA2 => ?_))
  exact J_vret dX4_take_9 rfl ⟨rfl, Nat.le_refl _⟩ (hQ _ (hF1.tr hF2) (by simpa using hA2))
theorem LV.live {f1 f2 f3 f4 : Nat → Int32} {j : Nat} {y : Lk} (hV : LV ls f1 f2 f3 f4) (hj : ls[j]? = some y) (b e : Nat) : LV (ls.set j (y.1, y.2.1, b, e)) f1 f2 (upd f3 j (nI b)) (upd f4 j (nI e)) := by
  intro k x hk
  by_cases q : j = k
  · subst q
    rw [List.getElem?_set_self (get_lt hj)] at hk
    simp at hk
    subst hk
    have := hV j y hj
    simp [upd, this.1, this.2.1]
  · rw [List.getElem?_set_ne q] at hk
    have q2 : k ≠ j := fun z => q z.symm
    simpa [upd, q2] using hV k x hk
theorem s_X4_live {j b e : Nat} {y : Lk} (hA : LA h a ls) (hj : ls[j]? = some y) (hb : b < e) (he : e ≤ 64) (hQ : ∀ h', Fr a (a + 5) h h' → LA h' a (ls.set j (y.1, y.2.1, b, e)) → Q none h') : MJ m_X4_live 1 0 0 [.ref a, .int (nI j), .int (nI b), .int (nI e)] h Q := by
  have hA0 := hA
  have hjl := get_lt hj
  obtain ⟨f1, f2, f3, f4, hP, hV, hn, hO⟩ := hA
  refine MJ_of_J (L := [some (.ref a), some (.int (nI j)), some (.int (nI b)), some (.int (nI e))]) (by decide +kernel) rfl (Nat.le_of_ble_eq_true rfl) rfl ?_
  refine J_aload_n dX4_live_0 rfl ?_
  refine J_iload_n dX4_live_1 rfl ?_
  refine J_callV (As := [_]) (rest := []) (M' := m_X4_has) dX4_live_2 ml_RX4_28 gm_X4_has gv_X4_has hP.o hP.b rfl rfl rfl (Nat.le_of_ble_eq_true rfl) (by decide) ⟨rfl, rfl, by decide, by decide⟩ (s_X4_has hA0 (fun r hr => ?_))
  refine J_if_eq (tgt := 22) dX4_live_5 (by decide) (fun c5 => absurd ⟨j, hjl, rfl⟩ ((bI_0 hr).mp c5)) (fun c5 => ?_)
  refine J_aload_n dX4_live_8 rfl ?_
  refine J_get (k := 2) dX4_live_9 gc_4 fl_RX4_18 (by decide) hP.o hP.b rfl ?_
  refine J_iload_n dX4_live_12 rfl ?_
  refine J_iload_n dX4_live_13 rfl ?_
  refine J_iast dX4_live_14 hP.c3 hP.b3 (vp_in_nI (by omega) (by decide)) ?_
  rw [nI_clamp (n := j) (by omega)]
  replace hP := hP.s3 (upd f3 j (nI b))
  refine J_aload_n dX4_live_15 rfl ?_
  refine J_get (k := 3) dX4_live_16 gc_4 fl_RX4_21 (by decide) hP.o hP.b rfl ?_
  refine J_iload_n dX4_live_19 rfl ?_
  refine J_iload_n dX4_live_20 rfl ?_
  refine J_iast dX4_live_21 hP.c4 hP.b4 (vp_in_nI (by omega) (by decide)) ?_
  rw [nI_clamp (n := j) (by omega)]
  replace hP := hP.s4 (upd f4 j (nI e))
  exact J_vret dX4_live_22 rfl ⟨rfl, Nat.le_refl _⟩ (hQ _ ((Fr.rf.up (by omega) (by omega)).up (by omega) (by omega)) ⟨f1, f2, _, _, by rw [List.length_set]; exact hP, hV.live hj b e, by rw [List.length_set]; exact hn, fun x q => by rcases List.mem_or_eq_of_mem_set q with q | q; exact hO x q; rw [q]; obtain ⟨o1, o2, o3, -⟩ := hO y (List.mem_of_getElem? hj); exact ⟨o1, o2, o3, hb, he⟩⟩)
def shf (j k : Nat) (f : Nat → Int32) : Nat → Int32 := fun i => if j ≤ i ∧ i + 1 < k then f (i + 1) else f i
theorem shf_0 (j : Nat) (f : Nat → Int32) : shf j (j + 1) f = f := by
  funext i
  unfold shf
  rw [if_neg (by omega)]
theorem shf_k (j k : Nat) (f : Nat → Int32) : shf j k f k = f k := by
  unfold shf
  rw [if_neg (by omega)]
theorem shf_s {j k : Nat} (f : Nat → Int32) (h : j + 1 ≤ k) : upd (shf j k f) (k - 1) (f k) = shf j (k + 1) f := by
  funext i
  unfold upd shf
  by_cases e : i = k - 1
  · subst e
    rw [if_pos rfl, if_pos (by omega), show k - 1 + 1 = k by omega]
  · rw [if_neg e]
    by_cases q : j ≤ i ∧ i + 1 < k
    · rw [if_pos q, if_pos (by omega)]
    · rw [if_neg q, if_neg (by omega)]
theorem l_X4_removeAt {f1 f2 f3 f4 : Nat → Int32} {j n : Nat} (hn : n ≤ 40) (hj : j < n) (hQ : ∀ h', Fr a (a + 5) h h' → LR h' a (nI (n - 1)) (shf j n f1) (shf j n f2) (shf j n f3) (shf j n f4) → Q none h') : ∀ (t k : Nat) (h1 : g_H), n - k < t → j + 1 ≤ k → k ≤ n → Fr a (a + 5) h h1 → LR h1 a (nI n) (shf j k f1) (shf j k f2) (shf j k f3) (shf j k f4) → J m_X4_removeAt 1 0 0 0 0 13 [some (.ref a), some (.int (nI j)), some (.int (nI k))] [] h1 Q := by
  intro t
  induction t with
  | zero => intro k h1 ht; omega
  | succ t ih =>
    intro k h1 ht hjk hk hF hP
    have ek : nI k - 1 = nI (k - 1) := pk_sub (b := 1) (by omega)
    refine J_iload_n dX4_removeAt_13 rfl ?_
    refine J_aload_n dX4_removeAt_14 rfl ?_
    refine J_get (k := 4) dX4_removeAt_15 gc_4 fl_RX4_24 (by decide) hP.o hP.b rfl ?_
    refine J_icmp_ge (tgt := 83) dX4_removeAt_18 (by decide) (fun c18 => ?_) (fun c18 => ?_)
    · have c18 := (nI_leI (by omega) (by omega)).mp c18
      obtain rfl : k = n := by omega
      refine J_aload_n dX4_removeAt_83 rfl ?_
      refine J_dup dX4_removeAt_84 rfl ?_
      refine J_get (k := 4) dX4_removeAt_85 gc_4 fl_RX4_24 (by decide) hP.o hP.b rfl ?_
      refine J_iconst (x := 1) dX4_removeAt_88 (by decide) ?_
      refine J_isub dX4_removeAt_89 ?_
      rw [ek]
      refine J_put (k := 4) dX4_removeAt_90 gc_4 fl_RX4_24 (by decide) rfl hP.o hP.b (Nat.le_of_ble_eq_true rfl) (fun _ => ⟨rfl, rfl⟩) rfl ?_
      replace hP := hP.sn (nI (k - 1))
      exact J_vret dX4_removeAt_93 rfl ⟨rfl, Nat.le_refl _⟩ (hQ _ (hF.up (by omega) (by omega)) hP)
    · have c18 : k < n := Nat.not_le.mp (fun q => c18 ((nI_leI (by omega) (by omega)).mpr q))
      refine J_aload_n dX4_removeAt_21 rfl ?_
      refine J_get (k := 0) dX4_removeAt_22 gc_4 fl_RX4_9 (by decide) hP.o hP.b rfl ?_
      refine J_iload_n dX4_removeAt_25 rfl ?_
      refine J_iconst (x := 1) dX4_removeAt_26 (by decide) ?_
      refine J_isub dX4_removeAt_27 ?_
      rw [ek]
      refine J_aload_n dX4_removeAt_28 rfl ?_
      refine J_get (k := 0) dX4_removeAt_29 gc_4 fl_RX4_9 (by decide) hP.o hP.b rfl ?_
      refine J_iload_n dX4_removeAt_32 rfl ?_
      refine J_iald dX4_removeAt_33 hP.c1 hP.b1 (vp_in_nI (by omega) (by decide)) ?_
      rw [nI_clamp (n := k) (by omega), shf_k]
      refine J_iast dX4_removeAt_34 hP.c1 hP.b1 (vp_in_nI (by omega) (by decide)) ?_
      rw [nI_clamp (n := k - 1) (by omega), shf_s f1 hjk]
      replace hP := hP.s1 (shf j (k + 1) f1)
      refine J_aload_n dX4_removeAt_35 rfl ?_
      refine J_get (k := 1) dX4_removeAt_36 gc_4 fl_RX4_15 (by decide) hP.o hP.b rfl ?_
      refine J_iload_n dX4_removeAt_39 rfl ?_
      refine J_iconst (x := 1) dX4_removeAt_40 (by decide) ?_
      refine J_isub dX4_removeAt_41 ?_
      rw [ek]
      refine J_aload_n dX4_removeAt_42 rfl ?_
      refine J_get (k := 1) dX4_removeAt_43 gc_4 fl_RX4_15 (by decide) hP.o hP.b rfl ?_
      refine J_iload_n dX4_removeAt_46 rfl ?_
      refine J_iald dX4_removeAt_47 hP.c2 hP.b2 (vp_in_nI (by omega) (by decide)) ?_
      rw [nI_clamp (n := k) (by omega), shf_k]
      refine J_iast dX4_removeAt_48 hP.c2 hP.b2 (vp_in_nI (by omega) (by decide)) ?_
      rw [nI_clamp (n := k - 1) (by omega), shf_s f2 hjk]
      replace hP := hP.s2 (shf j (k + 1) f2)
      refine J_aload_n dX4_removeAt_49 rfl ?_
      refine J_get (k := 2) dX4_removeAt_50 gc_4 fl_RX4_18 (by decide) hP.o hP.b rfl ?_
      refine J_iload_n dX4_removeAt_53 rfl ?_
      refine J_iconst (x := 1) dX4_removeAt_54 (by decide) ?_
      refine J_isub dX4_removeAt_55 ?_
      rw [ek]
      refine J_aload_n dX4_removeAt_56 rfl ?_
      refine J_get (k := 2) dX4_removeAt_57 gc_4 fl_RX4_18 (by decide) hP.o hP.b rfl ?_
      refine J_iload_n dX4_removeAt_60 rfl ?_
      refine J_iald dX4_removeAt_61 hP.c3 hP.b3 (vp_in_nI (by omega) (by decide)) ?_
      rw [nI_clamp (n := k) (by omega), shf_k]
      refine J_iast dX4_removeAt_62 hP.c3 hP.b3 (vp_in_nI (by omega) (by decide)) ?_
      rw [nI_clamp (n := k - 1) (by omega), shf_s f3 hjk]
      replace hP := hP.s3 (shf j (k + 1) f3)
      refine J_aload_n dX4_removeAt_63 rfl ?_
      refine J_get (k := 3) dX4_removeAt_64 gc_4 fl_RX4_21 (by decide) hP.o hP.b rfl ?_
      refine J_iload_n dX4_removeAt_67 rfl ?_
      refine J_iconst (x := 1) dX4_removeAt_68 (by decide) ?_
      refine J_isub dX4_removeAt_69 ?_
      rw [ek]
      refine J_aload_n dX4_removeAt_70 rfl ?_
      refine J_get (k := 3) dX4_removeAt_71 gc_4 fl_RX4_21 (by decide) hP.o hP.b rfl ?_
      refine J_iload_n dX4_removeAt_74 rfl ?_
      refine J_iald dX4_removeAt_75 hP.c4 hP.b4 (vp_in_nI (by omega) (by decide)) ?_
      rw [nI_clamp (n := k) (by omega), shf_k]
      refine J_iast dX4_removeAt_76 hP.c4 hP.b4 (vp_in_nI (by omega) (by decide)) ?_
      rw [nI_clamp (n := k - 1) (by omega), shf_s f4 hjk]
      replace hP := hP.s4 (shf j (k + 1) f4)
      refine J_iinc dX4_removeAt_77 rfl (nI_i1 k) (by decide) rfl ?_
      refine J_goto (tgt := 13) dX4_removeAt_80 (by decide) ?_
      exact ih (k + 1) _ (by omega) (by omega) (by omega) ((((hF.up (by omega) (by omega)).up (by omega) (by omega)).up (by omega) (by omega)).up (by omega) (by omega)) hP
theorem LV.rem {f1 f2 f3 f4 : Nat → Int32} {j : Nat} (hV : LV ls f1 f2 f3 f4) : LV (ls.eraseIdx j) (shf j ls.length f1) (shf j ls.length f2) (shf j ls.length f3) (shf j ls.length f4) := by
  intro k x hk
  rw [List.getElem?_eraseIdx] at hk
  unfold shf
  by_cases q : k < j
  · rw [if_pos q] at hk
    rw [if_neg (by omega), if_neg (by omega), if_neg (by omega), if_neg (by omega)]
    exact hV k x hk
  · rw [if_neg q] at hk
    have hl := get_lt hk
    rw [if_pos (by omega), if_pos (by omega), if_pos (by omega), if_pos (by omega)]
    exact hV (k + 1) x hk
theorem s_X4_removeAt {j : Nat} (hA : LA h a ls) (hj : j < ls.length) (hQ : ∀ h', Fr a (a + 5) h h' → LA h' a (ls.eraseIdx j) → Q none h') : MJ m_X4_removeAt 1 0 0 [.ref a, .int (nI j)] h Q := by
  have hA0 := hA
  obtain ⟨f1, f2, f3, f4, hP, hV, hn, hO⟩ := hA
  refine MJ_of_J (L := [some (.ref a), some (.int (nI j)), none]) (by decide +kernel) rfl (Nat.le_of_ble_eq_true rfl) rfl ?_
  refine J_aload_n dX4_removeAt_0 rfl ?_
  refine J_iload_n dX4_removeAt_1 rfl ?_
  refine J_callV (As := [_]) (rest := []) (M' := m_X4_has) dX4_removeAt_2 ml_RX4_28 gm_X4_has gv_X4_has hP.o hP.b rfl rfl rfl (Nat.le_of_ble_eq_true rfl) (by decide) ⟨rfl, rfl, by decide, by decide⟩ (s_X4_has hA0 (fun r hr => ?_))
  refine J_if_ne (tgt := 9) dX4_removeAt_5 (by decide) (fun c5 => ?_) (fun c5 => absurd ⟨j, hj, rfl⟩ ((bI_0 hr).mp c5))
  refine J_iload_n dX4_removeAt_9 rfl ?_
  refine J_iconst (x := 1) dX4_removeAt_10 (by decide) ?_
  refine J_iadd dX4_removeAt_11 ?_
  rw [nI_1]
  refine J_istore_n dX4_removeAt_12 (by decide) rfl ?_
  refine l_X4_removeAt (f1 := f1) (f2 := f2) (f3 := f3) (f4 := f4) (j := j) hn hj (fun h2 hF2 hP2 => ?_) (ls.length + 1) (j + 1) h (by omega) (by omega) (by omega) Fr.rf (by rw [shf_0, shf_0, shf_0, shf_0]; exact hP)
  exact hQ h2 hF2 ⟨_, _, _, _, by rw [List.length_eraseIdx, if_pos hj]; exact hP2, hV.rem, by rw [List.length_eraseIdx, if_pos hj]; omega, fun x q => hO x (List.mem_of_mem_eraseIdx q)⟩
theorem eraseIdx_mid (l1 l2 : List Lk) (y : Lk) (k : Nat) (hk : l1.length = k) : (l1 ++ y :: l2).eraseIdx k = l1 ++ l2 := by
  subst hk
  rw [List.eraseIdx_append_of_length_le (Nat.le_refl _), Nat.sub_self]
  rfl
theorem l_X4_removeLivingAt {m : Int32} (hn : ls.length ≤ 40) (hQ : ∀ h', Fr a (a + 5) h h' → LA h' a (ls.filter (fun x => !lvB m.toInt x)) → Q none h') : ∀ (k : Nat) (x : Int32) (h1 : g_H), k ≤ ls.length → x = nI k - 1 → Fr a (a + 5) h h1 → LA h1 a (ls.take k ++ (ls.drop k).filter (fun x => !lvB m.toInt x)) → J m_X4_removeLivingAt 2 0 0 0 0 7 [some (.ref a), some (.int m), some (.int x)] [] h1 Q := by
  intro k
  induction k with
  | zero =>
    intro x h1 hk hx hF hA1
    refine J_iload_n dX4_removeLivingAt_7 rfl ?_
    refine J_if_lt (tgt := 31) dX4_removeLivingAt_8 (by decide) (fun c8 => ?_) (fun c8 => absurd (show x < 0 by rw [hx]; decide) c8)
    exact J_vret dX4_removeLivingAt_31 rfl ⟨rfl, Nat.le_refl _⟩ (hQ h1 hF (by simpa using hA1))
  | succ k ih =>
    intro x h1 hk hx hF hA1
    rw [nI_pred] at hx
    subst hx
    obtain ⟨y, hy⟩ := get_of (show k < ls.length by omega)
    have e1 : ls.take (k + 1) ++ (ls.drop (k + 1)).filter (fun x => !lvB m.toInt x) = ls.take k ++ y :: (ls.drop (k + 1)).filter (fun x => !lvB m.toInt x) := by
      rw [List.take_succ, hy]; simp
    have e2 : ls.drop k = y :: ls.drop (k + 1) := by
      rw [List.drop_eq_getElem_cons (by omega)]
      congr 1
      exact (List.getElem?_eq_some_iff.mp hy).2
    rw [e1] at hA1
    have htl : (ls.take k).length = k := by rw [List.length_take]; omega
    have hy1 : (ls.take k ++ y :: (ls.drop (k + 1)).filter (fun x => !lvB m.toInt x))[k]? = some y := by
      rw [List.getElem?_append_right (by omega), htl, Nat.sub_self]; rfl
    refine J_iload_n dX4_removeLivingAt_7 rfl ?_
    refine J_if_lt (tgt := 31) dX4_removeLivingAt_8 (by decide) (fun c8 => absurd c8 (nI_pos (by omega))) (fun c8 => ?_)
    refine J_aload_n dX4_removeLivingAt_11 rfl ?_
    refine J_iload_n dX4_removeLivingAt_12 rfl ?_
    refine J_iload_n dX4_removeLivingAt_13 rfl ?_
    refine J_callV (As := [_, _]) (rest := []) (M' := m_X4_livesAt) dX4_removeLivingAt_14 ml_RX4_32 gm_X4_livesAt gv_X4_livesAt hA1.o hA1.b rfl rfl rfl (Nat.le_of_ble_eq_true rfl) (by decide) ⟨rfl, rfl, by decide, by decide⟩ (s_X4_livesAt hA1 hy1 (fun r hr => ?_))
    refine J_if_eq (tgt := 25) dX4_removeLivingAt_17 (by decide) (fun c17 => ?_) (fun c17 => ?_)
    · have hf := (bI_0 hr).mp c17
      refine J_iinc dX4_removeLivingAt_25 rfl (y := nI k - 1) (by rw [Int32.sub_eq_add_neg]; rfl) (by decide) rfl ?_
      refine J_goto (tgt := 7) dX4_removeLivingAt_28 (by decide) ?_
      exact ih _ h1 (by omega) rfl hF (by rw [e2, List.filter_cons, if_pos (by simpa using hf)]; exact hA1)
    · refine J_aload_n dX4_removeLivingAt_20 rfl ?_
      refine J_iload_n dX4_removeLivingAt_21 rfl ?_
      refine J_callV (As := [_]) (rest := []) (M' := m_X4_removeAt) dX4_removeLivingAt_22 ml_RX4_66 gm_X4_removeAt gv_X4_removeAt hA1.o hA1.b rfl rfl rfl (Nat.le_of_ble_eq_true rfl) (by decide) ⟨rfl, rfl, by decide, by decide⟩ (s_X4_removeAt (j := k) hA1 (get_lt hy1) (fun h2 hF2 hA2 => ?_))
      have hf := nn_of hr c17
      refine J_iinc dX4_removeLivingAt_25 rfl (y := nI k - 1) (by rw [Int32.sub_eq_add_neg]; rfl) (by decide) rfl ?_
      refine J_goto (tgt := 7) dX4_removeLivingAt_28 (by decide) ?_
      exact ih _ h2 (by omega) rfl (hF.tr hF2) (by rw [e2, List.filter_cons, if_neg (by simpa using hf)]; rw [eraseIdx_mid _ _ _ _ htl] at hA2; exact hA2)
theorem s_X4_removeLivingAt {m : Int32} (hA : LA h a ls) (hQ : ∀ h', Fr a (a + 5) h h' → LA h' a (ls.filter (fun x => !lvB m.toInt x)) → Q none h') : MJ m_X4_removeLivingAt 2 0 0 [.ref a, .int m] h Q := by
  refine MJ_of_J (L := [some (.ref a), some (.int m), none]) (by decide +kernel) rfl (Nat.le_of_ble_eq_true rfl) rfl ?_
  refine J_aload_n dX4_removeLivingAt_0 rfl ?_
  refine J_get (k := 4) dX4_removeLivingAt_1 gc_4 fl_RX4_24 (by decide) hA.o hA.b rfl ?_
  refine J_iconst (x := 1) dX4_removeLivingAt_4 (by decide) ?_
  refine J_isub dX4_removeLivingAt_5 ?_
  refine J_istore_n dX4_removeLivingAt_6 (by decide) rfl ?_
  exact l_X4_removeLivingAt hA.len hQ ls.length _ h (by omega) rfl Fr.rf (by simpa using hA)
end SLinks2
end
section
/-! joinings that can be taken back: a list of pairs (hung, below which), the latest first -/
def ab : List (Nat × Nat) → Nat → Nat
  | [], x => x
  | p :: js, x => if x = p.1 then p.2 else ab js x
def be : List (Nat × Nat) → Nat → Nat
  | [], _ => 1
  | p :: js, x => if x = p.2 then be js p.2 + be js p.1 else be js x
def rt : List (Nat × Nat) → Nat → Nat
  | [], x => x
  | p :: js, x => if rt js x = p.1 then p.2 else rt js x
def dp : List (Nat × Nat) → Nat → Nat
  | [], _ => 0
  | p :: js, x => if rt js x = p.1 then dp js x + 1 else dp js x
def WJ (N : Nat) : List (Nat × Nat) → Prop
  | [] => True
  | p :: js => WJ N js ∧ p.1 < N ∧ p.2 < N ∧ p.1 ≠ p.2 ∧ ab js p.1 = p.1 ∧ ab js p.2 = p.2
theorem ab_lt {N : Nat} : ∀ {js : List (Nat × Nat)}, WJ N js → ∀ {x : Nat}, x < N → ab js x < N
  | [], _, x, hx => hx
  | p :: js, w, x, hx => by
    show (if x = p.1 then p.2 else ab js x) < N
    split
    · exact w.2.2.1
    · exact ab_lt w.1 hx
theorem rt_root {N : Nat} : ∀ {js : List (Nat × Nat)}, WJ N js → ∀ {x : Nat}, ab js x = x → rt js x = x
  | [], _, x, _ => rfl
  | p :: js, w, x, h => by
    obtain ⟨w0, w1, w2, w3, w4, w5⟩ := w
    have h : (if x = p.1 then p.2 else ab js x) = x := h
    show (if rt js x = p.1 then p.2 else rt js x) = x
    by_cases e : x = p.1
    · rw [if_pos e] at h
      exact absurd (e.symm.trans h.symm) w3
    · rw [if_neg e] at h
      have := rt_root w0 h
      rw [this, if_neg e]
theorem rt_step {N : Nat} : ∀ {js : List (Nat × Nat)}, WJ N js → ∀ (x : Nat), rt js (ab js x) = rt js x
  | [], _, x => rfl
  | p :: js, w, x => by
    obtain ⟨w0, w1, w2, w3, w4, w5⟩ := w
    show (if rt js (if x = p.1 then p.2 else ab js x) = p.1 then p.2 else rt js (if x = p.1 then p.2 else ab js x)) = if rt js x = p.1 then p.2 else rt js x
    by_cases e : x = p.1
    · have r1 := rt_root w0 w4
      have r2 := rt_root w0 w5
      subst e
      rw [if_pos rfl, r2, r1, if_pos rfl, if_neg (Ne.symm w3)]
    · rw [if_neg e, rt_step w0 x]
theorem rt_ab {N : Nat} : ∀ {js : List (Nat × Nat)}, WJ N js → ∀ (x : Nat), ab js (rt js x) = rt js x
  | [], _, x => rfl
  | p :: js, w, x => by
    obtain ⟨w0, w1, w2, w3, w4, w5⟩ := w
    show (if (if rt js x = p.1 then p.2 else rt js x) = p.1 then p.2 else ab js (if rt js x = p.1 then p.2 else rt js x)) = if rt js x = p.1 then p.2 else rt js x
    by_cases e : rt js x = p.1
    · rw [if_pos e, if_neg (Ne.symm w3), w5]
    · rw [if_neg e, if_neg e, rt_ab w0 x]
theorem rt_lt {N : Nat} : ∀ {js : List (Nat × Nat)}, WJ N js → ∀ {x : Nat}, x < N → rt js x < N
  | [], _, x, hx => hx
  | p :: js, w, x, hx => by
    show (if rt js x = p.1 then p.2 else rt js x) < N
    split
    · exact w.2.2.1
    · exact rt_lt w.1 hx
theorem dp_le : ∀ (js : List (Nat × Nat)) (x : Nat), dp js x ≤ js.length
  | [], x => Nat.le_refl _
  | p :: js, x => by
    have := dp_le js x
    show (if rt js x = p.1 then dp js x + 1 else dp js x) ≤ js.length + 1
    split <;> omega
theorem dp_0 {N : Nat} : ∀ {js : List (Nat × Nat)}, WJ N js → ∀ {x : Nat}, ab js x = x → dp js x = 0
  | [], _, x, _ => rfl
  | p :: js, w, x, h => by
    obtain ⟨w0, w1, w2, w3, w4, w5⟩ := w
    have h : (if x = p.1 then p.2 else ab js x) = x := h
    show (if rt js x = p.1 then dp js x + 1 else dp js x) = 0
    by_cases e : x = p.1
    · rw [if_pos e] at h
      exact absurd (e.symm.trans h.symm) w3
    · rw [if_neg e] at h
      rw [rt_root w0 h, if_neg e]
      exact dp_0 w0 h
theorem dp_s {N : Nat} : ∀ {js : List (Nat × Nat)}, WJ N js → ∀ {x : Nat}, ab js x ≠ x → dp js (ab js x) + 1 = dp js x
  | [], _, x, h => absurd rfl h
  | p :: js, w, x, h => by
    obtain ⟨w0, w1, w2, w3, w4, w5⟩ := w
    have h : (if x = p.1 then p.2 else ab js x) ≠ x := h
    show (if rt js (if x = p.1 then p.2 else ab js x) = p.1 then dp js (if x = p.1 then p.2 else ab js x) + 1 else dp js (if x = p.1 then p.2 else ab js x)) + 1 = if rt js x = p.1 then dp js x + 1 else dp js x
    by_cases e : x = p.1
    · subst e
      rw [if_pos rfl, rt_root w0 w5, if_neg (Ne.symm w3), rt_root w0 w4, if_pos rfl, dp_0 w0 w5, dp_0 w0 w4]
    · rw [if_neg e] at h ⊢
      rw [rt_step w0 x]
      have := dp_s w0 h
      by_cases e2 : rt js x = p.1
      · rw [if_pos e2, if_pos e2]; omega
      · rw [if_neg e2, if_neg e2]; omega
theorem sumN_add (f g : Nat → Nat) : ∀ n, sumN (fun k => f k + g k) n = sumN f n + sumN g n
  | 0 => rfl
  | n + 1 => by
    have := sumN_add f g n
    show sumN _ n + (f n + g n) = sumN f n + f n + (sumN g n + g n)
    omega
theorem sumN_del {f g : Nat → Nat} {l : Nat} (hl : f l = g l + 1) (ho : ∀ k, k ≠ l → f k = g k) : ∀ n, l < n → sumN f n = sumN g n + 1
  | 0, h => absurd h (Nat.not_lt_zero _)
  | n + 1, h => by
    show sumN f n + f n = sumN g n + g n + 1
    by_cases e : l = n
    · subst e
      rw [sumN_c (f := f) (g := g) (fun k hk => ho k (Nat.ne_of_lt hk)), hl]
      omega
    · rw [sumN_del hl ho n (by omega), ho n (Ne.symm e)]
      omega
theorem sumN_ge {f : Nat → Nat} {l : Nat} : ∀ n, l < n → f l ≤ sumN f n
  | 0, h => absurd h (Nat.not_lt_zero _)
  | n + 1, h => by
    show f l ≤ sumN f n + f n
    by_cases e : l = n
    · subst e; omega
    · have := sumN_ge (f := f) n (show l < n by omega)
      omega
theorem sumN_ge2 {f : Nat → Nat} {l m : Nat} (hm : l ≠ m) (h1 : 1 ≤ f l) (h2 : 1 ≤ f m) : ∀ n, l < n → m < n → 2 ≤ sumN f n
  | 0, h, _ => absurd h (Nat.not_lt_zero _)
  | n + 1, h, h' => by
    show 2 ≤ sumN f n + f n
    by_cases e : l = n
    · subst e
      have := sumN_ge (f := f) l (show m < l by omega)
      omega
    · by_cases e' : m = n
      · subst e'
        have := sumN_ge (f := f) m (show l < m by omega)
        omega
      · have := sumN_ge2 hm h1 h2 n (by omega) (by omega)
        omega
theorem sumN_one : ∀ n, sumN (fun _ => 1) n = n
  | 0 => rfl
  | n + 1 => by show sumN _ n + 1 = n + 1; rw [sumN_one n]
/-- as many roots as members less joinings -/
theorem roots {N : Nat} : ∀ {js : List (Nat × Nat)}, WJ N js → sumN (fun x => oneI (ab js x = x)) N + js.length = N
  | [], _ => by
    have e : sumN (fun x => oneI (ab [] x = x)) N = sumN (fun _ => 1) N := sumN_c (fun k _ => oneI_t rfl)
    rw [e, sumN_one]; rfl
  | p :: js, w => by
    obtain ⟨w0, w1, w2, w3, w4, w5⟩ := w
    have h0 := roots w0
    have h1 : sumN (fun x => oneI (ab js x = x)) N = sumN (fun x => oneI (ab (p :: js) x = x)) N + 1 := by
      refine sumN_del (l := p.1) ?_ (fun k hk => ?_) N w1
      · show oneI (ab js p.1 = p.1) = oneI ((if p.1 = p.1 then p.2 else ab js p.1) = p.1) + 1
        rw [if_pos rfl, oneI_t w4, oneI_f (Ne.symm w3)]
      · show oneI (ab js k = k) = oneI ((if k = p.1 then p.2 else ab js k) = k)
        rw [if_neg hk]
    have h2 : (p :: js).length = js.length + 1 := rfl
    omega
theorem two_roots {N : Nat} {js : List (Nat × Nat)} (w : WJ N js) {x y : Nat} (hx : x < N) (hy : y < N) (hxy : x ≠ y) (h1 : ab js x = x) (h2 : ab js y = y) : js.length + 2 ≤ N := by
  have h := roots w
  have h3 := sumN_ge2 (f := fun x => oneI (ab js x = x)) hxy (Nat.le_of_eq (oneI_t h1).symm) (Nat.le_of_eq (oneI_t h2).symm) N hx hy
  omega
theorem be_cnt {N : Nat} : ∀ {js : List (Nat × Nat)}, WJ N js → ∀ {r : Nat}, ab js r = r → r < N → be js r = sumN (fun x => oneI (rt js x = r)) N
  | [], _, r, _, hr => by
    show 1 = sumN (fun x => oneI (x = r)) N
    rw [sumN_del (f := fun x => oneI (x = r)) (g := fun _ => 0) (l := r) (oneI_t rfl) (fun k hk => oneI_f hk) N hr]
    have : sumN (fun _ => 0) N = 0 := by
      have := sumN_le (f := fun _ => 0) (b := 0) (fun _ => Nat.le_refl _) N
      omega
    rw [this]
  | p :: js, w, r, h, hr => by
    obtain ⟨w0, w1, w2, w3, w4, w5⟩ := w
    have h : (if r = p.1 then p.2 else ab js r) = r := h
    have hr1 : r ≠ p.1 := by
      intro e
      rw [if_pos e] at h
      exact w3 (e.symm.trans h.symm)
    rw [if_neg hr1] at h
    show (if r = p.2 then be js p.2 + be js p.1 else be js r) = sumN (fun x => oneI ((if rt js x = p.1 then p.2 else rt js x) = r)) N
    by_cases e : r = p.2
    · subst e
      rw [if_pos rfl, be_cnt w0 w5 w2, be_cnt w0 w4 w1, ← sumN_add]
      refine sumN_c (fun k _ => ?_)
      by_cases q : rt js k = p.1
      · rw [if_pos q, oneI_t rfl, oneI_t q, oneI_f (by rw [q]; exact w3)]
      · rw [if_neg q, oneI_f q]; rfl
    · rw [if_neg e, be_cnt w0 h hr]
      refine sumN_c (fun k _ => ?_)
      by_cases q : rt js k = p.1
      · rw [if_pos q, oneI_f (by rw [q]; exact fun z => hr1 z.symm), oneI_f (fun z => e z.symm)]
      · rw [if_neg q]
/-- how many members are the first of their part -/
noncomputable def nfst (C : Nat → Nat → Prop) (n : Nat) : Nat := sumN (fun x => oneI (∀ y, y < x → ¬ C y x)) n
theorem nfst_c {C D : Nat → Nat → Prop} {n : Nat} (h : ∀ x y, x < n → y < n → (C x y ↔ D x y)) : nfst C n = nfst D n := by
  refine sumN_c (fun k hk => oneI_c ⟨fun q y hy z => q y hy ((h y k (by omega) hk).mpr z), fun q y hy z => q y hy ((h y k (by omega) hk).mp z)⟩)
theorem least_of (P : Nat → Prop) (x : Nat) (hx : P x) : ∃ m, P m ∧ m ≤ x ∧ ∀ y, y < m → ¬ P y := by
  induction x using Nat.strongRecOn with
  | ind x ih =>
    rcases Classical.em (∃ y, y < x ∧ P y) with ⟨y, h1, h2⟩ | h
    · obtain ⟨m, a, b, c⟩ := ih y h1 h2
      exact ⟨m, a, by omega, c⟩
    · exact ⟨x, hx, Nat.le_refl _, fun y hy q => h ⟨y, hy, q⟩⟩
theorem nfst_rt {N : Nat} : ∀ {js : List (Nat × Nat)}, WJ N js → nfst (fun x y => rt js x = rt js y) N + js.length = N
  | [], _ => by
    have e : nfst (fun x y => rt [] x = rt [] y) N = sumN (fun _ => 1) N := sumN_c (fun k _ => oneI_t (fun y hy q => absurd (show y = k from q) (Nat.ne_of_lt hy)))
    rw [e, sumN_one]; rfl
  | p :: js, w => by
    obtain ⟨w0, w1, w2, w3, w4, w5⟩ := w
    have h0 := nfst_rt w0
    have r1 := rt_root w0 w4
    have r2 := rt_root w0 w5
    obtain ⟨m1, a1, a2, a3⟩ := least_of (fun x => rt js x = p.1) p.1 r1
    obtain ⟨m2, b1, b2, b3⟩ := least_of (fun x => rt js x = p.2) p.2 r2
    have hne : m1 ≠ m2 := fun e => w3 (by rw [← a1, ← b1, e])
    have e0 : ∀ x, rt (p :: js) x = if rt js x = p.1 then p.2 else rt js x := fun _ => rfl
    have hiff : ∀ x y, rt (p :: js) x = rt (p :: js) y ↔ (rt js x = rt js y ∨ (rt js x = p.1 ∧ rt js y = p.2) ∨ (rt js x = p.2 ∧ rt js y = p.1)) := by
      intro x y
      rw [e0, e0]
      by_cases q1 : rt js x = p.1 <;> by_cases q2 : rt js y = p.1
      · simp [q1, q2]
      · rw [if_pos q1, if_neg q2, q1]
        constructor
        · intro z; exact Or.inr (Or.inl ⟨rfl, z.symm⟩)
        · rintro (z | ⟨-, z⟩ | ⟨z, -⟩)
          · exact absurd z.symm q2
          · exact z.symm
          · exact absurd z w3
      · rw [if_neg q1, if_pos q2, q2]
        constructor
        · intro z; exact Or.inr (Or.inr ⟨z, rfl⟩)
        · rintro (z | ⟨z, -⟩ | ⟨z, -⟩)
          · exact absurd z q1
          · exact absurd z q1
          · exact z
      · rw [if_neg q1, if_neg q2]
        constructor
        · exact Or.inl
        · rintro (z | ⟨z, -⟩ | ⟨-, z⟩)
          · exact z
          · exact absurd z q1
          · exact absurd z q2
    have h1 : nfst (fun x y => rt js x = rt js y) N = nfst (fun x y => rt (p :: js) x = rt (p :: js) y) N + 1 := by
      have key : ∀ M m : Nat, m < M → M < N → (rt js M = p.1 ∧ rt js m = p.2 ∨ rt js M = p.2 ∧ rt js m = p.1) → (∀ y, y < M → rt js y ≠ rt js M) → (∀ y, y < m → rt js y ≠ rt js m) → nfst (fun x y => rt js x = rt js y) N = nfst (fun x y => rt (p :: js) x = rt (p :: js) y) N + 1 := by
        intro M m hmM hMN hpp hM hm
        refine sumN_del (l := M) ?_ (fun k hk => oneI_c ⟨fun q y hy z => ?_, fun q y hy z => q y hy ((hiff y k).mpr (Or.inl z))⟩) N hMN
        · rw [oneI_t (fun y hy q => hM y hy q), oneI_f]
          intro q
          exact q m hmM ((hiff m M).mpr (by rcases hpp with ⟨z1, z2⟩ | ⟨z1, z2⟩; exact Or.inr (Or.inr ⟨z2, z1⟩); exact Or.inr (Or.inl ⟨z2, z1⟩)))
        · have hq : ∀ y, y < k → rt js y ≠ rt js k := q
          have nk : ∀ c, rt js k = c → rt js M = c → k = M := by
            intro c c1 c2
            rcases Nat.lt_trichotomy k M with t | t | t
            · exact absurd (c1.trans c2.symm) (hM k t)
            · exact t
            · exact absurd (c2.trans c1.symm) (hq M t)
          have nm : ∀ c, rt js k = c → rt js m = c → k = m := by
            intro c c1 c2
            rcases Nat.lt_trichotomy k m with t | t | t
            · exact absurd (c1.trans c2.symm) (hm k t)
            · exact t
            · exact absurd (c2.trans c1.symm) (hq m t)
          rcases (hiff y k).mp z with z | ⟨z1, z2⟩ | ⟨z1, z2⟩
          · exact hq y hy z
          · rcases hpp with ⟨g1, g2⟩ | ⟨g1, g2⟩
            · obtain rfl := nm _ z2 g2
              exact hM y (by omega) (z1.trans g1.symm)
            · exact hk (nk _ z2 g1)
          · rcases hpp with ⟨g1, g2⟩ | ⟨g1, g2⟩
            · exact hk (nk _ z2 g1)
            · obtain rfl := nm _ z2 g2
              exact hM y (by omega) (z1.trans g1.symm)
      rcases Nat.lt_or_ge m1 m2 with t | t
      · exact key m2 m1 t (by omega) (Or.inr ⟨b1, a1⟩) (fun y hy q => b3 y hy (q.trans b1)) (fun y hy q => a3 y hy (q.trans a1))
      · exact key m1 m2 (by omega) (by omega) (Or.inl ⟨a1, b1⟩) (fun y hy q => a3 y hy (q.trans a1)) (fun y hy q => b3 y hy (q.trans b1))
    have h2 : (p :: js).length = js.length + 1 := rfl
    omega
/-- joined by a list of pairs: no set that keeps each pair together parts them -/
def Cn (E : List (Nat × Nat)) (x y : Nat) : Prop := ∀ S : Nat → Prop, (∀ e ∈ E, S e.1 ↔ S e.2) → (S x ↔ S y)
theorem Cn.rf {E : List (Nat × Nat)} (x : Nat) : Cn E x x := fun _ _ => Iff.rfl
theorem Cn.sm {E : List (Nat × Nat)} {x y : Nat} (h : Cn E x y) : Cn E y x := fun S q => (h S q).symm
theorem Cn.tr {E : List (Nat × Nat)} {x y z : Nat} (h : Cn E x y) (g : Cn E y z) : Cn E x z := fun S q => (h S q).trans (g S q)
theorem Cn.mono {E F : List (Nat × Nat)} {x y : Nat} (h : Cn E x y) (hs : ∀ e ∈ E, e ∈ F) : Cn F x y := fun S q => h S (fun e he => q e (hs e he))
theorem Cn.ed {E : List (Nat × Nat)} {e : Nat × Nat} (h : e ∈ E) : Cn E e.1 e.2 := fun _ q => q e h
theorem Cn.set {E F : List (Nat × Nat)} (hs : ∀ e, e ∈ E ↔ e ∈ F) (x y : Nat) : Cn E x y ↔ Cn F x y := ⟨fun h => h.mono (fun e he => (hs e).mp he), fun h => h.mono (fun e he => (hs e).mpr he)⟩
/-- what a joining does to the list -/
def JN (js : List (Nat × Nat)) (x y : Nat) (js' : List (Nat × Nat)) : Prop := (rt js x = rt js y ∧ js' = js) ∨ (rt js x ≠ rt js y ∧ ∃ l t : Nat, ((l = rt js x ∧ t = rt js y) ∨ (l = rt js y ∧ t = rt js x)) ∧ js' = (l, t) :: js)
/-- the list stands for the pairs that were joined -/
def RP (N : Nat) (js : List (Nat × Nat)) (E : List (Nat × Nat)) : Prop := ∀ x y : Nat, x < N → y < N → (rt js x = rt js y ↔ Cn E x y)
theorem rt_cons_iff (p : Nat × Nat) (js : List (Nat × Nat)) (hne : p.1 ≠ p.2) (h2 : rt js p.2 = p.2) (x y : Nat) : rt (p :: js) x = rt (p :: js) y ↔ (rt js x = rt js y ∨ (rt js x = p.1 ∧ rt js y = p.2) ∨ (rt js x = p.2 ∧ rt js y = p.1)) := by
  show (if rt js x = p.1 then p.2 else rt js x) = (if rt js y = p.1 then p.2 else rt js y) ↔ _
  by_cases q1 : rt js x = p.1 <;> by_cases q2 : rt js y = p.1
  · simp [q1, q2]
  · rw [if_pos q1, if_neg q2, q1]
    constructor
    · intro z; exact Or.inr (Or.inl ⟨rfl, z.symm⟩)
    · rintro (z | ⟨-, z⟩ | ⟨z, -⟩)
      · exact absurd z.symm q2
      · exact z.symm
      · exact absurd z hne
  · rw [if_neg q1, if_pos q2, q2]
    constructor
    · intro z; exact Or.inr (Or.inr ⟨z, rfl⟩)
    · rintro (z | ⟨z, -⟩ | ⟨z, -⟩)
      · exact absurd z q1
      · exact absurd z q1
      · exact z
  · rw [if_neg q1, if_neg q2]
    constructor
    · exact Or.inl
    · rintro (z | ⟨z, -⟩ | ⟨-, z⟩)
      · exact z
      · exact absurd z q1
      · exact absurd z q2
theorem RP.nil (N : Nat) : RP N [] [] := fun x y _ _ => ⟨fun h => by have h : x = y := h; subst h; exact Cn.rf _, fun h => ((h (fun z => z = x) (fun e he => by simp at he)).mp rfl).symm⟩
theorem RP.join {N : Nat} {js js' E : List (Nat × Nat)} {x y : Nat} (w : WJ N js) (h : RP N js E) (hx : x < N) (hy : y < N) (hE : ∀ e ∈ E, e.1 < N ∧ e.2 < N) (hj : JN js x y js') : RP N js' (E ++ [(x, y)]) := by
  have up : ∀ {u v : Nat}, Cn E u v → Cn (E ++ [(x, y)]) u v := fun q => q.mono (fun e he => List.mem_append_left _ he)
  have hxy : Cn (E ++ [(x, y)]) x y := Cn.ed (e := (x, y)) (List.mem_append_right _ (List.mem_singleton.mpr rfl))
  have back : ∀ {u v : Nat}, u < N → v < N → (∀ S : Nat → Prop, (∀ e ∈ E ++ [(x, y)], S e.1 ↔ S e.2) → (S u ↔ S v)) → rt js' x = rt js' y → (∀ e ∈ E, rt js' e.1 = rt js' e.2) → rt js' u = rt js' v := by
    intro u v hu hv q h1 h2
    have := (q (fun z => rt js' z = rt js' u) (fun e he => by
      rcases List.mem_append.mp he with he | he
      · rw [h2 e he]
      · rw [List.mem_singleton.mp he]
        show rt js' x = _ ↔ rt js' y = _
        rw [h1])).mp rfl
    exact this.symm
  rcases hj with ⟨e1, rfl⟩ | ⟨e1, l, t, hlt, rfl⟩
  · intro u v hu hv
    exact ⟨fun q => up ((h u v hu hv).mp q), fun q => back hu hv q e1 (fun e he => (h _ _ (hE e he).1 (hE e he).2).mpr (Cn.ed he))⟩
  · have hl : ab js l = l := by rcases hlt with ⟨rfl, -⟩ | ⟨rfl, -⟩ <;> exact rt_ab w _
    have ht : ab js t = t := by rcases hlt with ⟨-, rfl⟩ | ⟨-, rfl⟩ <;> exact rt_ab w _
    have hne : l ≠ t := by rcases hlt with ⟨rfl, rfl⟩ | ⟨rfl, rfl⟩; exact e1; exact Ne.symm e1
    have hi := rt_cons_iff (l, t) js hne (rt_root w ht)
    have hlx : ∀ u, u < N → rt js u = l → Cn (E ++ [(x, y)]) u x ∨ Cn (E ++ [(x, y)]) u y := by
      intro u hu q
      rcases hlt with ⟨rfl, -⟩ | ⟨rfl, -⟩
      · exact Or.inl (up ((h u x hu hx).mp q))
      · exact Or.inr (up ((h u y hu hy).mp q))
    have htx : ∀ u, u < N → rt js u = t → Cn (E ++ [(x, y)]) u x ∨ Cn (E ++ [(x, y)]) u y := by
      intro u hu q
      rcases hlt with ⟨-, rfl⟩ | ⟨-, rfl⟩
      · exact Or.inr (up ((h u y hu hy).mp q))
      · exact Or.inl (up ((h u x hu hx).mp q))
    have tox : ∀ {u}, (Cn (E ++ [(x, y)]) u x ∨ Cn (E ++ [(x, y)]) u y) → Cn (E ++ [(x, y)]) u x := fun q => q.elim id (fun z => z.tr hxy.sm)
    intro u v hu hv
    constructor
    · intro q
      rcases (hi u v).mp q with z | ⟨z1, z2⟩ | ⟨z1, z2⟩
      · exact up ((h u v hu hv).mp z)
      · exact (tox (hlx u hu z1)).tr (tox (htx v hv z2)).sm
      · exact (tox (htx u hu z1)).tr (tox (hlx v hv z2)).sm
    · intro q
      refine back hu hv q ((hi x y).mpr ?_) (fun e he => (hi _ _).mpr (Or.inl ((h _ _ (hE e he).1 (hE e he).2).mpr (Cn.ed he))))
      rcases hlt with ⟨rfl, rfl⟩ | ⟨rfl, rfl⟩
      · exact Or.inr (Or.inl ⟨rfl, rfl⟩)
      · exact Or.inr (Or.inr ⟨rfl, rfl⟩)
theorem JN.w {N : Nat} {js js' : List (Nat × Nat)} {x y : Nat} (w : WJ N js) (hx : x < N) (hy : y < N) (hj : JN js x y js') : WJ N js' := by
  rcases hj with ⟨e1, rfl⟩ | ⟨e1, l, t, hlt, rfl⟩
  · exact w
  · rcases hlt with ⟨rfl, rfl⟩ | ⟨rfl, rfl⟩
    · exact ⟨w, rt_lt w hx, rt_lt w hy, e1, rt_ab w _, rt_ab w _⟩
    · exact ⟨w, rt_lt w hy, rt_lt w hx, Ne.symm e1, rt_ab w _, rt_ab w _⟩
end
section
/-! the picture of a Joinings object -/
def JR (h : g_H) (a N : Nat) (s : Int32) (f1 f2 f3 : Nat → Int32) : Prop := (1 ≤ a ∧ a + 3 ≤ h.2) ∧ h.1 a = .inr (2, [.ref (a + 1), .ref (a + 2), .ref (a + 3), .int s]) ∧ h.1 (a + 1) = .inl (0, N, .inl f1) ∧ h.1 (a + 2) = .inl (0, N, .inl f2) ∧ h.1 (a + 3) = .inl (0, N, .inl f3)
section JRs
variable {h h' : g_H} {a N : Nat} {s : Int32} {f1 f2 f3 : Nat → Int32}
theorem JR.o (p : JR h a N s f1 f2 f3) : h.1 a = .inr (2, [.ref (a + 1), .ref (a + 2), .ref (a + 3), .int s]) := p.2.1
theorem JR.b (p : JR h a N s f1 f2 f3) : 1 ≤ a ∧ a ≤ h.2 := ⟨p.1.1, by have := p.1.2; omega⟩
theorem JR.c1 (p : JR h a N s f1 f2 f3) : h.1 (a + 1) = .inl (0, N, .inl f1) := p.2.2.1
theorem JR.c2 (p : JR h a N s f1 f2 f3) : h.1 (a + 2) = .inl (0, N, .inl f2) := p.2.2.2.1
theorem JR.c3 (p : JR h a N s f1 f2 f3) : h.1 (a + 3) = .inl (0, N, .inl f3) := p.2.2.2.2
theorem JR.b1 (p : JR h a N s f1 f2 f3) : 1 ≤ a + 1 ∧ a + 1 ≤ h.2 := ⟨by omega, by have := p.1.2; omega⟩
theorem JR.b2 (p : JR h a N s f1 f2 f3) : 1 ≤ a + 2 ∧ a + 2 ≤ h.2 := ⟨by omega, by have := p.1.2; omega⟩
theorem JR.b3 (p : JR h a N s f1 f2 f3) : 1 ≤ a + 3 ∧ a + 3 ≤ h.2 := ⟨by omega, by have := p.1.2; omega⟩
theorem JR.fr {lo hi : Nat} (p : JR h a N s f1 f2 f3) (F : Fr lo hi h h') (q : a + 4 ≤ lo ∨ hi ≤ a) : JR h' a N s f1 f2 f3 :=
  ⟨⟨p.1.1, by rw [F.1]; exact p.1.2⟩, (F.2 a (by omega)).trans p.o, (F.2 (a + 1) (by omega)).trans p.c1, (F.2 (a + 2) (by omega)).trans p.c2, (F.2 (a + 3) (by omega)).trans p.c3⟩
theorem JR.s1 (p : JR h a N s f1 f2 f3) (g : Nat → Int32) : JR (g_up h (a + 1) (.inl (0, N, .inl g))) a N s g f2 f3 :=
  ⟨p.1, (g_up_n h _ (by omega)).trans p.o, g_up_s h _ _, (g_up_n h _ (by omega)).trans p.c2, (g_up_n h _ (by omega)).trans p.c3⟩
theorem JR.s2 (p : JR h a N s f1 f2 f3) (g : Nat → Int32) : JR (g_up h (a + 2) (.inl (0, N, .inl g))) a N s f1 g f3 :=
  ⟨p.1, (g_up_n h _ (by omega)).trans p.o, (g_up_n h _ (by omega)).trans p.c1, g_up_s h _ _, (g_up_n h _ (by omega)).trans p.c3⟩
theorem JR.s3 (p : JR h a N s f1 f2 f3) (g : Nat → Int32) : JR (g_up h (a + 3) (.inl (0, N, .inl g))) a N s f1 f2 g :=
  ⟨p.1, (g_up_n h _ (by omega)).trans p.o, (g_up_n h _ (by omega)).trans p.c1, (g_up_n h _ (by omega)).trans p.c2, g_up_s h _ _⟩
theorem JR.sn (p : JR h a N s f1 f2 f3) (m : Int32) : JR (g_up h a (.inr (2, [.ref (a + 1), .ref (a + 2), .ref (a + 3), .int m]))) a N m f1 f2 f3 :=
  ⟨p.1, g_up_s h _ _, (g_up_n h _ (by omega)).trans p.c1, (g_up_n h _ (by omega)).trans p.c2, (g_up_n h _ (by omega)).trans p.c3⟩
end JRs
/-- what the arrays hold -/
def JV (N : Nat) (js : List (Nat × Nat)) (f1 f2 f3 : Nat → Int32) : Prop := (∀ x, x < N → f1 x = nI (ab js x)) ∧ (∀ x, x < N → f2 x = nI (be js x)) ∧ (∀ (i : Nat) (p : Nat × Nat), js.reverse[i]? = some p → f3 i = nI p.1)
def JA (h : g_H) (a N : Nat) (js : List (Nat × Nat)) : Prop := ∃ f1 f2 f3 : Nat → Int32, JR h a N (nI js.length) f1 f2 f3 ∧ JV N js f1 f2 f3 ∧ WJ N js ∧ js.length ≤ N ∧ N ≤ 32
theorem JA.fr {h h' : g_H} {a N lo hi : Nat} {js : List (Nat × Nat)} (p : JA h a N js) (F : Fr lo hi h h') (q : a + 4 ≤ lo ∨ hi ≤ a) : JA h' a N js := by
  obtain ⟨f1, f2, f3, p1, p2⟩ := p
  exact ⟨f1, f2, f3, p1.fr F q, p2⟩
theorem JA.o {h : g_H} {a N : Nat} {js : List (Nat × Nat)} (p : JA h a N js) : h.1 a = .inr (2, [.ref (a + 1), .ref (a + 2), .ref (a + 3), .int (nI js.length)]) := by
  obtain ⟨f1, f2, f3, p1, p2⟩ := p
  exact p1.o
theorem JA.b {h : g_H} {a N : Nat} {js : List (Nat × Nat)} (p : JA h a N js) : 1 ≤ a ∧ a ≤ h.2 := by
  obtain ⟨f1, f2, f3, p1, p2⟩ := p
  exact p1.b
theorem JA.w {h : g_H} {a N : Nat} {js : List (Nat × Nat)} (p : JA h a N js) : WJ N js := by
  obtain ⟨f1, f2, f3, p1, p2, p3, p4⟩ := p
  exact p3
theorem JA.len {h : g_H} {a N : Nat} {js : List (Nat × Nat)} (p : JA h a N js) : js.length ≤ N ∧ N ≤ 32 := by
  obtain ⟨f1, f2, f3, p1, p2, p3, p4⟩ := p
  exact p4
section SJoins
variable {h : g_H} {a N : Nat} {js : List (Nat × Nat)} {Q : Option Value → g_H → Prop}
theorem s_X2_standing (hA : JA h a N js) (hQ : ∀ r, r = nI js.length → Q (some (.int r)) h) : MJ m_X2_standing 0 0 0 [.ref a] h Q := by
  obtain ⟨f1, f2, f3, hP, ⟨v1, v2, v3⟩, hW, hl, hN⟩ := hA
  refine MJ_of_J (L := [some (.ref a)]) (by decide +kernel) rfl (Nat.le_of_ble_eq_true rfl) rfl ?_
  refine J_aload_n dX2_standing_0 rfl ?_
  refine J_get (k := 3) dX2_standing_1 gc_2 fl_RX2_25 (by decide) hP.o hP.b rfl ?_
  exact J_iret dX2_standing_4 rfl ⟨rfl, Nat.le_refl _⟩ (hQ _ rfl)
theorem s_X2_has {s : Int32} {f1 f2 f3 : Nat → Int32} {x : Int32} (hP : JR h a N s f1 f2 f3) (hN : N ≤ 32) (hQ : ∀ r, r = bI (IX x N) → Q (some (.int r)) h) : MJ m_X2_has 0 0 0 [.ref a, .int x] h Q := by
  refine MJ_of_J (L := [some (.ref a), some (.int x)]) (by decide +kernel) rfl (Nat.le_of_ble_eq_true rfl) rfl ?_
  refine J_iload_n dX2_has_0 rfl ?_
  refine J_if_lt (tgt := 17) dX2_has_1 (by decide) (fun c1 => ?_) (fun c1 => ?_)
  · refine J_iconst (x := 0) dX2_has_17 (by decide) ?_
    exact J_zret dX2_has_18 rfl (by first | exact Or.inl rfl | exact Or.inr rfl) ⟨rfl, Nat.le_refl _⟩ (hQ _ (bI_f (IX_n0 (by omega) c1)).symm)
  · refine J_iload_n dX2_has_4 rfl ?_
    refine J_aload_n dX2_has_5 rfl ?_
    refine J_get (k := 0) dX2_has_6 gc_2 fl_RX2_13 (by decide) hP.o hP.b rfl ?_
    refine J_alen dX2_has_9 hP.c1 (by decide) hP.b1 rfl ?_
    refine J_icmp_ge (tgt := 17) dX2_has_10 (by decide) (fun c10 => ?_) (fun c10 => ?_)
    · refine J_iconst (x := 0) dX2_has_17 (by decide) ?_
      exact J_zret dX2_has_18 rfl (by first | exact Or.inl rfl | exact Or.inr rfl) ⟨rfl, Nat.le_refl _⟩ (hQ _ (bI_f (IX_nn (by omega) c10)).symm)
    · refine J_iconst (x := 1) dX2_has_13 (by decide) ?_
      refine J_goto (tgt := 18) dX2_has_14 (by decide) ?_
      exact J_zret dX2_has_18 rfl (by first | exact Or.inl rfl | exact Or.inr rfl) ⟨rfl, Nat.le_refl _⟩ (hQ _ (bI_t (IX_of (by omega) c1 c10)).symm)
theorem l_X2_topOf {x : Nat} (hA : JA h a N js) (hx : x < N) (hQ : ∀ r, r = nI (rt js x) → Q (some (.int r)) h) : ∀ (n k t : Nat), N - k < n → k ≤ N → t < N → rt js t = rt js x → dp js t + k ≤ N → J m_X2_topOf 1 0 0 0 0 4 [some (.ref a), some (.int (nI x)), some (.int (nI t)), some (.int (nI k))] [] h Q := by
  intro n
  induction n with
  | zero => intro k t ht; omega
  | succ n ih =>
    intro k t ht hk htN hr hd
    have hA0 := hA
    obtain ⟨f1, f2, f3, hP, ⟨v1, v2, v3⟩, hW, hl, hN⟩ := hA
    have hab := ab_lt hW htN
    refine J_iload_n dX2_topOf_4 rfl ?_
    refine J_aload_n dX2_topOf_5 rfl ?_
    refine J_get (k := 0) dX2_topOf_6 gc_2 fl_RX2_13 (by decide) hP.o hP.b rfl ?_
    refine J_alen dX2_topOf_9 hP.c1 (by decide) hP.b1 rfl ?_
    refine J_icmp_ge (tgt := 44) dX2_topOf_10 (by decide) (fun c10 => ?_) (fun c10 => ?_)
    · refine J_iload_n dX2_topOf_44 rfl ?_
      exact J_iret dX2_topOf_45 rfl ⟨rfl, Nat.le_refl _⟩ (hQ _ (by have c10 := (nI_leI (by omega) (by omega)).mp c10; have h0 : ab js t = t := Classical.not_not.mp (fun q => by have := dp_s hW q; omega); rw [← hr, rt_root hW h0]))
    · refine J_aload_n dX2_topOf_13 rfl ?_
      refine J_iload_n dX2_topOf_14 rfl ?_
      refine J_callV (As := [_]) (rest := []) (M' := m_X2_has) dX2_topOf_15 ml_RX2_29 gm_X2_has gv_X2_has hP.o hP.b rfl rfl rfl (Nat.le_of_ble_eq_true rfl) (by decide) ⟨rfl, rfl, by decide, by decide⟩ (s_X2_has hP hN (fun r1 hr1 => ?_))
      refine J_if_eq (tgt := 44) dX2_topOf_18 (by decide) (fun c18 => absurd ⟨t, htN, rfl⟩ ((bI_0 hr1).mp c18)) (fun c18 => ?_)
      refine J_aload_n dX2_topOf_21 rfl ?_
      refine J_get (k := 0) dX2_topOf_22 gc_2 fl_RX2_13 (by decide) hP.o hP.b rfl ?_
      refine J_iload_n dX2_topOf_25 rfl ?_
      refine J_iald dX2_topOf_26 hP.c1 hP.b1 (vp_in_nI htN (by omega)) ?_
      refine J_iload_n dX2_topOf_27 rfl ?_
      refine J_icmp_eq (tgt := 44) dX2_topOf_28 (by decide) (fun c28 => ?_) (fun c28 => ?_)
      · refine J_iload_n dX2_topOf_44 rfl ?_
        exact J_iret dX2_topOf_45 rfl ⟨rfl, Nat.le_refl _⟩ (hQ _ (by rw [nI_clamp (n := t) (by omega), v1 t htN, nI_eq (by omega) (by omega)] at c28; rw [← hr, rt_root hW c28]))
      · refine J_aload_n dX2_topOf_31 rfl ?_
        refine J_get (k := 0) dX2_topOf_32 gc_2 fl_RX2_13 (by decide) hP.o hP.b rfl ?_
        refine J_iload_n dX2_topOf_35 rfl ?_
        refine J_iald dX2_topOf_36 hP.c1 hP.b1 (vp_in_nI htN (by omega)) ?_
        rw [nI_clamp (n := t) (by omega), v1 t htN]
        refine J_istore_n dX2_topOf_37 (by decide) rfl ?_
        refine J_iinc dX2_topOf_38 rfl (nI_i1 k) (by decide) rfl ?_
        refine J_goto (tgt := 4) dX2_topOf_41 (by decide) ?_
        have c28 : ab js t ≠ t := by
          rw [nI_clamp (n := t) (by omega), v1 t htN, nI_eq (by omega) (by omega)] at c28
          exact c28
        have hs := dp_s hW c28
        exact ih (k + 1) _ (by have c10 : ¬ N ≤ k := fun q => c10 ((nI_leI (by omega) (by omega)).mpr q); omega) (by have c10 : ¬ N ≤ k := fun q => c10 ((nI_leI (by omega) (by omega)).mpr q); omega) hab ((rt_step hW t).trans hr) (by omega)
theorem s_X2_topOf {x : Nat} (hA : JA h a N js) (hx : x < N) (hQ : ∀ r, r = nI (rt js x) → Q (some (.int r)) h) : MJ m_X2_topOf 1 0 0 [.ref a, .int (nI x)] h Q := by
  have hl := hA.len
  refine MJ_of_J (L := [some (.ref a), some (.int (nI x)), none, none]) (by decide +kernel) rfl (Nat.le_of_ble_eq_true rfl) rfl ?_
  refine J_iload_n dX2_topOf_0 rfl ?_
  refine J_istore_n dX2_topOf_1 (by decide) rfl ?_
  refine J_iconst (x := 0) dX2_topOf_2 (by decide) ?_
  refine J_istore_n dX2_topOf_3 (by decide) rfl ?_
  exact l_X2_topOf hA hx hQ (N + 1) 0 x (by omega) (by omega) hx rfl (by have := dp_le js x; omega)
theorem s_X2_areJoined {x y : Nat} (hA : JA h a N js) (hx : x < N) (hy : y < N) (hQ : ∀ r, r = bI (rt js x = rt js y) → Q (some (.int r)) h) : MJ m_X2_areJoined 2 0 0 [.ref a, .int (nI x), .int (nI y)] h Q := by
  have hl := hA.len
  have r1 := rt_lt hA.w hx
  have r2 := rt_lt hA.w hy
  refine MJ_of_J (L := [some (.ref a), some (.int (nI x)), some (.int (nI y))]) (by decide +kernel) rfl (Nat.le_of_ble_eq_true rfl) rfl ?_
  refine J_aload_n dX2_areJoined_0 rfl ?_
  refine J_iload_n dX2_areJoined_1 rfl ?_
  refine J_callV (As := [_]) (rest := []) (M' := m_X2_topOf) dX2_areJoined_2 ml_RX2_33 gm_X2_topOf gv_X2_topOf hA.o hA.b rfl rfl rfl (Nat.le_of_ble_eq_true rfl) (by decide) ⟨rfl, rfl, by decide, by decide⟩ (s_X2_topOf hA hx (fun r hr => ?_))
  subst hr
  refine J_aload_n dX2_areJoined_5 rfl ?_
  refine J_iload_n dX2_areJoined_6 rfl ?_
  refine J_callV (As := [_]) (rest := [_]) (M' := m_X2_topOf) dX2_areJoined_7 ml_RX2_33 gm_X2_topOf gv_X2_topOf hA.o hA.b rfl rfl rfl (Nat.le_of_ble_eq_true rfl) (by decide) ⟨rfl, rfl, by decide, by decide⟩ (s_X2_topOf hA hy (fun r hr => ?_))
  subst hr
  refine J_icmp_ne (tgt := 17) dX2_areJoined_10 (by decide) (fun c10 => ?_) (fun c10 => ?_)
  · refine J_iconst (x := 0) dX2_areJoined_17 (by decide) ?_
    exact J_zret dX2_areJoined_18 rfl (by first | exact Or.inl rfl | exact Or.inr rfl) ⟨rfl, Nat.le_refl _⟩ (hQ _ (bI_f (fun q => c10 (by rw [q]))).symm)
  · refine J_iconst (x := 1) dX2_areJoined_13 (by decide) ?_
    refine J_goto (tgt := 18) dX2_areJoined_14 (by decide) ?_
    exact J_zret dX2_areJoined_18 rfl (by first | exact Or.inl rfl | exact Or.inr rfl) ⟨rfl, Nat.le_refl _⟩ (hQ _ (bI_t ((nI_eq (by omega) (by omega)).mp c10)).symm)
theorem s_X2_partSize {x : Nat} (hA : JA h a N js) (hx : x < N) (hQ : ∀ r, r = nI (sumN (fun y => oneI (rt js y = rt js x)) N) → Q (some (.int r)) h) : MJ m_X2_partSize 2 0 0 [.ref a, .int (nI x)] h Q := by
  have hA0 := hA
  have r1 := rt_lt hA.w hx
  obtain ⟨f1, f2, f3, hP, ⟨v1, v2, v3⟩, hW, hl, hN⟩ := hA
  refine MJ_of_J (L := [some (.ref a), some (.int (nI x)), none]) (by decide +kernel) rfl (Nat.le_of_ble_eq_true rfl) rfl ?_
  refine J_aload_n dX2_partSize_0 rfl ?_
  refine J_iload_n dX2_partSize_1 rfl ?_
  refine J_callV (As := [_]) (rest := []) (M' := m_X2_topOf) dX2_partSize_2 ml_RX2_33 gm_X2_topOf gv_X2_topOf hP.o hP.b rfl rfl rfl (Nat.le_of_ble_eq_true rfl) (by decide) ⟨rfl, rfl, by decide, by decide⟩ (s_X2_topOf hA0 hx (fun r hr => ?_))
  subst hr
  refine J_istore_n dX2_partSize_5 (by decide) rfl ?_
  refine J_aload_n dX2_partSize_6 rfl ?_
  refine J_iload_n dX2_partSize_7 rfl ?_
  refine J_callV (As := [_]) (rest := []) (M' := m_X2_has) dX2_partSize_8 ml_RX2_29 gm_X2_has gv_X2_has hP.o hP.b rfl rfl rfl (Nat.le_of_ble_eq_true rfl) (by decide) ⟨rfl, rfl, by decide, by decide⟩ (s_X2_has hP hN (fun r hr => ?_))
  refine J_if_eq (tgt := 23) dX2_partSize_11 (by decide) (fun c11 => absurd ⟨_, r1, rfl⟩ ((bI_0 hr).mp c11)) (fun c11 => ?_)
  refine J_aload_n dX2_partSize_14 rfl ?_
  refine J_get (k := 1) dX2_partSize_15 gc_2 fl_RX2_19 (by decide) hP.o hP.b rfl ?_
  refine J_iload_n dX2_partSize_18 rfl ?_
  refine J_iald dX2_partSize_19 hP.c2 hP.b2 (vp_in_nI r1 (by omega)) ?_
  refine J_goto (tgt := 24) dX2_partSize_20 (by decide) ?_
  exact J_iret dX2_partSize_24 rfl ⟨rfl, Nat.le_refl _⟩ (hQ _ (by rw [nI_clamp (by omega), v2 _ r1, be_cnt hW (rt_ab hW x) r1]))
theorem JV.push {f1 f2 f3 : Nat → Int32} {l t : Nat} (hl : l < N) (ht : t < N) (v1 : ∀ x, x < N → f1 x = nI (ab js x)) (v2 : ∀ x, x < N → f2 x = nI (be js x)) (v3 : ∀ (i : Nat) (p : Nat × Nat), js.reverse[i]? = some p → f3 i = nI p.1) :
    JV N ((l, t) :: js) (upd f1 l (nI t)) (upd f2 t (f2 t + f2 l)) (upd f3 js.length (nI l)) := by
  refine ⟨fun x hx => ?_, fun x hx => ?_, fun i p hi => ?_⟩
  · show upd f1 l (nI t) x = nI (if x = l then t else ab js x)
    unfold upd
    by_cases e : x = l
    · rw [if_pos e, if_pos e]
    · rw [if_neg e, if_neg e, v1 x hx]
  · show upd f2 t (f2 t + f2 l) x = nI (if x = t then be js t + be js l else be js x)
    unfold upd
    by_cases e : x = t
    · rw [if_pos e, if_pos e, v2 t ht, v2 l hl, nI_add]
    · rw [if_neg e, if_neg e, v2 x hx]
  · unfold upd
    rw [List.reverse_cons] at hi
    by_cases e : i < js.length
    · rw [List.getElem?_append_left (by simpa using e)] at hi
      rw [if_neg (by omega)]
      exact v3 i p hi
    · have e2 : i = js.length := by
        have := get_lt hi
        simp at this
        omega
      subst e2
      rw [List.getElem?_append_right (by simp)] at hi
      simp at hi
      rw [if_pos rfl, ← hi]
theorem s_X2_join {x y : Nat} (hA : JA h a N js) (hx : x < N) (hy : y < N) (hQ : ∀ h' js', Fr a (a + 4) h h' → JA h' a N js' → JN js x y js' → Q none h') : MJ m_X2_join 2 0 0 [.ref a, .int (nI x), .int (nI y)] h Q := by
  have hA0 := hA
  have r1 := rt_lt hA.w hx
  have r2 := rt_lt hA.w hy
  obtain ⟨f1, f2, f3, hP, ⟨v1, v2, v3⟩, hW, hl, hN⟩ := hA
  have fin : ∀ (l t : Nat), ((l = rt js x ∧ t = rt js y) ∨ (l = rt js y ∧ t = rt js x)) → rt js x ≠ rt js y → js.length < N → J m_X2_join 2 0 0 0 0 75 [some (.ref a), some (.int (nI x)), some (.int (nI y)), some (.int (nI t)), some (.int (nI l)), none] [] h Q := by
    intro l t hlt hne hlen
    have hlN : l < N := by rcases hlt with ⟨rfl, -⟩ | ⟨rfl, -⟩ <;> assumption
    have htN : t < N := by rcases hlt with ⟨-, rfl⟩ | ⟨-, rfl⟩ <;> assumption
    have hJ : JN js x y ((l, t) :: js) := Or.inr ⟨hne, l, t, hlt, rfl⟩
    have hv := JV.push hlN htN v1 v2 v3
    refine J_aload_n dX2_join_75 rfl ?_
    refine J_get (k := 0) dX2_join_76 gc_2 fl_RX2_13 (by decide) hP.o hP.b rfl ?_
    refine J_iload dX2_join_79 rfl ?_
    refine J_iload_n dX2_join_81 rfl ?_
    refine J_iast dX2_join_82 hP.c1 hP.b1 (vp_in_nI hlN (by omega)) ?_
    rw [nI_clamp (n := l) (by omega)]
    replace hP := hP.s1 (upd f1 l (nI t))
    refine J_aload_n dX2_join_83 rfl ?_
    refine J_get (k := 1) dX2_join_84 gc_2 fl_RX2_19 (by decide) hP.o hP.b rfl ?_
    refine J_iload_n dX2_join_87 rfl ?_
    refine J_dup2 dX2_join_88 rfl rfl ?_
    refine J_iald dX2_join_89 hP.c2 hP.b2 (vp_in_nI htN (by omega)) ?_
    refine J_aload_n dX2_join_90 rfl ?_
    refine J_get (k := 1) dX2_join_91 gc_2 fl_RX2_19 (by decide) hP.o hP.b rfl ?_
    refine J_iload dX2_join_94 rfl ?_
    refine J_iald dX2_join_96 hP.c2 hP.b2 (vp_in_nI hlN (by omega)) ?_
    refine J_iadd dX2_join_97 ?_
    refine J_iast dX2_join_98 hP.c2 hP.b2 (vp_in_nI htN (by omega)) ?_
    rw [nI_clamp (n := l) (by omega), nI_clamp (n := t) (by omega)]
    replace hP := hP.s2 (upd f2 t (f2 t + f2 l))
    refine J_aload_n dX2_join_99 rfl ?_
    refine J_get (k := 2) dX2_join_100 gc_2 fl_RX2_22 (by decide) hP.o hP.b rfl ?_
    refine J_aload_n dX2_join_103 rfl ?_
    refine J_get (k := 3) dX2_join_104 gc_2 fl_RX2_25 (by decide) hP.o hP.b rfl ?_
    refine J_iload dX2_join_107 rfl ?_
    refine J_iast dX2_join_109 hP.c3 hP.b3 (vp_in_nI hlen (by omega)) ?_
    rw [nI_clamp (n := js.length) (by omega)]
    replace hP := hP.s3 (upd f3 js.length (nI l))
    refine J_aload_n dX2_join_110 rfl ?_
    refine J_dup dX2_join_111 rfl ?_
    refine J_get (k := 3) dX2_join_112 gc_2 fl_RX2_25 (by decide) hP.o hP.b rfl ?_
    refine J_iconst (x := 1) dX2_join_115 (by decide) ?_
    refine J_iadd dX2_join_116 ?_
    rw [nI_1]
    refine J_put (k := 3) dX2_join_117 gc_2 fl_RX2_25 (by decide) rfl hP.o hP.b (Nat.le_of_ble_eq_true rfl) (fun _ => ⟨rfl, rfl⟩) rfl ?_
    replace hP := hP.sn (nI (js.length + 1))
    exact J_vret dX2_join_120 rfl ⟨rfl, Nat.le_refl _⟩ (hQ _ ((l, t) :: js) ((((Fr.rf.up (by omega) (by omega)).up (by omega) (by omega)).up (by omega) (by omega)).up (by omega) (by omega)) ⟨_, _, _, hP, hv, JN.w hW hx hy hJ, hlen, hN⟩ hJ)
  refine MJ_of_J (L := [some (.ref a), some (.int (nI x)), some (.int (nI y)), none, none, none]) (by decide +kernel) rfl (Nat.le_of_ble_eq_true rfl) rfl ?_
  refine J_aload_n dX2_join_0 rfl ?_
  refine J_iload_n dX2_join_1 rfl ?_
  refine J_callV (As := [_]) (rest := []) (M' := m_X2_topOf) dX2_join_2 ml_RX2_33 gm_X2_topOf gv_X2_topOf hP.o hP.b rfl rfl rfl (Nat.le_of_ble_eq_true rfl) (by decide) ⟨rfl, rfl, by decide, by decide⟩ (s_X2_topOf hA0 hx (fun r hr => ?_))
  subst hr
  refine J_istore_n dX2_join_5 (by decide) rfl ?_
  refine J_aload_n dX2_join_6 rfl ?_
  refine J_iload_n dX2_join_7 rfl ?_
  refine J_callV (As := [_]) (rest := []) (M' := m_X2_topOf) dX2_join_8 ml_RX2_33 gm_X2_topOf gv_X2_topOf hP.o hP.b rfl rfl rfl (Nat.le_of_ble_eq_true rfl) (by decide) ⟨rfl, rfl, by decide, by decide⟩ (s_X2_topOf hA0 hy (fun r hr => ?_))
  subst hr
  refine J_istore dX2_join_11 (by decide) rfl ?_
  refine J_aload_n dX2_join_13 rfl ?_
  refine J_iload_n dX2_join_14 rfl ?_
  refine J_callV (As := [_]) (rest := []) (M' := m_X2_has) dX2_join_15 ml_RX2_29 gm_X2_has gv_X2_has hP.o hP.b rfl rfl rfl (Nat.le_of_ble_eq_true rfl) (by decide) ⟨rfl, rfl, by decide, by decide⟩ (s_X2_has hP hN (fun r hr => ?_))
  refine J_if_eq (tgt := 48) dX2_join_18 (by decide) (fun c18 => absurd ⟨_, r1, rfl⟩ ((bI_0 hr).mp c18)) (fun c18 => ?_)
  refine J_aload_n dX2_join_21 rfl ?_
  refine J_iload dX2_join_22 rfl ?_
  refine J_callV (As := [_]) (rest := []) (M' := m_X2_has) dX2_join_24 ml_RX2_29 gm_X2_has gv_X2_has hP.o hP.b rfl rfl rfl (Nat.le_of_ble_eq_true rfl) (by decide) ⟨rfl, rfl, by decide, by decide⟩ (s_X2_has hP hN (fun r0 hr0 => ?_))
  refine J_if_eq (tgt := 48) dX2_join_27 (by decide) (fun c27 => absurd ⟨_, r2, rfl⟩ ((bI_0 hr0).mp c27)) (fun c27 => ?_)
  refine J_iload_n dX2_join_30 rfl ?_
  refine J_iload dX2_join_31 rfl ?_
  refine J_icmp_eq (tgt := 48) dX2_join_33 (by decide) (fun c33 => ?_) (fun c33 => ?_)
  · exact J_vret dX2_join_48 rfl ⟨rfl, Nat.le_refl _⟩ (hQ h js Fr.rf hA0 (Or.inl ⟨(nI_eq (by omega) (by omega)).mp c33, rfl⟩))
  · have c33 : rt js x ≠ rt js y := fun q => c33 (by rw [q])
    have hlen : js.length < N := by have := two_roots hW r1 r2 c33 (rt_ab hW x) (rt_ab hW y); omega
    refine J_aload_n dX2_join_36 rfl ?_
    refine J_get (k := 3) dX2_join_37 gc_2 fl_RX2_25 (by decide) hP.o hP.b rfl ?_
    refine J_aload_n dX2_join_40 rfl ?_
    refine J_get (k := 2) dX2_join_41 gc_2 fl_RX2_22 (by decide) hP.o hP.b rfl ?_
    refine J_alen dX2_join_44 hP.c3 (by decide) hP.b3 rfl ?_
    refine J_icmp_lt (tgt := 49) dX2_join_45 (by decide) (fun c45 => ?_) (fun c45 => absurd ((nI_ltI (by omega) (by omega)).mpr hlen) c45)
    refine J_aload_n dX2_join_49 rfl ?_
    refine J_get (k := 1) dX2_join_50 gc_2 fl_RX2_19 (by decide) hP.o hP.b rfl ?_
    refine J_iload_n dX2_join_53 rfl ?_
    refine J_iald dX2_join_54 hP.c2 hP.b2 (vp_in_nI r1 (by omega)) ?_
    refine J_aload_n dX2_join_55 rfl ?_
    refine J_get (k := 1) dX2_join_56 gc_2 fl_RX2_19 (by decide) hP.o hP.b rfl ?_
    refine J_iload dX2_join_59 rfl ?_
    refine J_iald dX2_join_61 hP.c2 hP.b2 (vp_in_nI r2 (by omega)) ?_
    refine J_icmp_ge (tgt := 75) dX2_join_62 (by decide) (fun c62 => ?_) (fun c62 => ?_)
    · exact fin (rt js y) (rt js x) (Or.inr ⟨rfl, rfl⟩) c33 hlen
    · refine J_iload_n dX2_join_65 rfl ?_
      refine J_istore dX2_join_66 (by decide) rfl ?_
      refine J_iload dX2_join_68 rfl ?_
      refine J_istore_n dX2_join_70 (by decide) rfl ?_
      refine J_iload dX2_join_71 rfl ?_
      refine J_istore dX2_join_73 (by decide) rfl ?_
      refine J_drop [5] rfl ?_
      exact fin (rt js x) (rt js y) (Or.inl ⟨rfl, rfl⟩) c33 hlen
theorem s_X2_takeOff {s : Int32} {l t : Nat} {f1 f2 f3 : Nat → Int32} (hP : JR h a N s f1 f2 f3) (hN : N ≤ 32) (hlN : l < N) (htN : t < N) (h1 : f1 l = nI t) (hQ : ∀ h', Fr a (a + 4) h h' → JR h' a N s (upd f1 l (nI l)) (upd f2 t (f2 t - f2 l)) f3 → Q none h') : MJ m_X2_takeOff 1 0 0 [.ref a, .int (nI l)] h Q := by
  refine MJ_of_J (L := [some (.ref a), some (.int (nI l)), none]) (by decide +kernel) rfl (Nat.le_of_ble_eq_true rfl) rfl ?_
  refine J_aload_n dX2_takeOff_0 rfl ?_
  refine J_iload_n dX2_takeOff_1 rfl ?_
  refine J_callV (As := [_]) (rest := []) (M' := m_X2_has) dX2_takeOff_2 ml_RX2_29 gm_X2_has gv_X2_has hP.o hP.b rfl rfl rfl (Nat.le_of_ble_eq_true rfl) (by decide) ⟨rfl, rfl, by decide, by decide⟩ (s_X2_has hP hN (fun r hr => ?_))
  refine J_if_ne (tgt := 9) dX2_takeOff_5 (by decide) (fun c5 => ?_) (fun c5 => absurd ⟨_, hlN, rfl⟩ ((bI_0 hr).mp c5))
  refine J_aload_n dX2_takeOff_9 rfl ?_
  refine J_get (k := 0) dX2_takeOff_10 gc_2 fl_RX2_13 (by decide) hP.o hP.b rfl ?_
  refine J_iload_n dX2_takeOff_13 rfl ?_
  refine J_iald dX2_takeOff_14 hP.c1 hP.b1 (vp_in_nI hlN (by omega)) ?_
  rw [nI_clamp (n := l) (by omega), h1]
  refine J_istore_n dX2_takeOff_15 (by decide) rfl ?_
  refine J_aload_n dX2_takeOff_16 rfl ?_
  refine J_iload_n dX2_takeOff_17 rfl ?_
  refine J_callV (As := [_]) (rest := []) (M' := m_X2_has) dX2_takeOff_18 ml_RX2_29 gm_X2_has gv_X2_has hP.o hP.b rfl rfl rfl (Nat.le_of_ble_eq_true rfl) (by decide) ⟨rfl, rfl, by decide, by decide⟩ (s_X2_has hP hN (fun r0 hr0 => ?_))
  refine J_if_eq (tgt := 46) dX2_takeOff_21 (by decide) (fun c21 => absurd ⟨_, htN, rfl⟩ ((bI_0 hr0).mp c21)) (fun c21 => ?_)
  refine J_aload_n dX2_takeOff_24 rfl ?_
  refine J_get (k := 1) dX2_takeOff_25 gc_2 fl_RX2_19 (by decide) hP.o hP.b rfl ?_
  refine J_iload_n dX2_takeOff_28 rfl ?_
  refine J_dup2 dX2_takeOff_29 rfl rfl ?_
  refine J_iald dX2_takeOff_30 hP.c2 hP.b2 (vp_in_nI htN (by omega)) ?_
  refine J_aload_n dX2_takeOff_31 rfl ?_
  refine J_get (k := 1) dX2_takeOff_32 gc_2 fl_RX2_19 (by decide) hP.o hP.b rfl ?_
  refine J_iload_n dX2_takeOff_35 rfl ?_
  refine J_iald dX2_takeOff_36 hP.c2 hP.b2 (vp_in_nI hlN (by omega)) ?_
  refine J_isub dX2_takeOff_37 ?_
  refine J_iast dX2_takeOff_38 hP.c2 hP.b2 (vp_in_nI htN (by omega)) ?_
  rw [nI_clamp (n := l) (by omega), nI_clamp (n := t) (by omega)]
  replace hP := hP.s2 (upd f2 t (f2 t - f2 l))
  refine J_aload_n dX2_takeOff_39 rfl ?_
  refine J_get (k := 0) dX2_takeOff_40 gc_2 fl_RX2_13 (by decide) hP.o hP.b rfl ?_
  refine J_iload_n dX2_takeOff_43 rfl ?_
  refine J_iload_n dX2_takeOff_44 rfl ?_
  refine J_iast dX2_takeOff_45 hP.c1 hP.b1 (vp_in_nI hlN (by omega)) ?_
  rw [nI_clamp (n := l) (by omega)]
  replace hP := hP.s1 (upd f1 l (nI l))
  exact J_vret dX2_takeOff_46 rfl ⟨rfl, Nat.le_refl _⟩ (hQ _ ((Fr.rf.up (by omega) (by omega)).up (by omega) (by omega)) hP)
theorem JV.pop {f1 f2 f3 : Nat → Int32} {p : Nat × Nat} (w : WJ N (p :: js)) (v : JV N (p :: js) f1 f2 f3) : JV N js (upd f1 p.1 (nI p.1)) (upd f2 p.2 (f2 p.2 - f2 p.1)) f3 := by
  obtain ⟨w0, w1, w2, w3, w4, w5⟩ := w
  obtain ⟨v1, v2, v3⟩ := v
  refine ⟨fun x hx => ?_, fun x hx => ?_, fun i q hi => v3 i q ?_⟩
  · unfold upd
    by_cases e : x = p.1
    · rw [if_pos e, e, w4]
    · rw [if_neg e, v1 x hx]
      show nI (if x = p.1 then p.2 else ab js x) = _
      rw [if_neg e]
  · unfold upd
    by_cases e : x = p.2
    · rw [if_pos e, v2 _ w2, v2 _ w1]
      show nI (if p.2 = p.2 then be js p.2 + be js p.1 else be js p.2) - nI (if p.1 = p.2 then be js p.2 + be js p.1 else be js p.1) = _
      rw [if_pos rfl, if_neg w3, e, pk_sub (by omega), Nat.add_sub_cancel]
    · rw [if_neg e, v2 x hx]
      show nI (if x = p.2 then be js p.2 + be js p.1 else be js x) = _
      rw [if_neg e]
  · rw [List.reverse_cons, List.getElem?_append_left (get_lt hi)]
    exact hi
theorem l_X2_takeBackTo {n : Nat} (hQ : ∀ h', Fr a (a + 4) h h' → JA h' a N (js.drop (js.length - n)) → Q none h') : ∀ (k : Nat) (h1 : g_H), k + n ≤ js.length → Fr a (a + 4) h h1 → JA h1 a N (js.drop (js.length - n - k)) → J m_X2_takeBackTo 2 0 0 0 0 6 [some (.ref a), some (.int (nI n)), some (.int (nI n))] [] h1 Q := by
  intro k
  induction k with
  | zero =>
    intro h1 hk hF hA
    have hlen : (js.drop (js.length - n - 0)).length = n := by rw [List.length_drop]; omega
    have hl := hA.len
    rw [hlen] at hl
    refine J_aload_n dX2_takeBackTo_6 rfl ?_
    refine J_get (k := 3) dX2_takeBackTo_7 gc_2 fl_RX2_25 (by decide) hA.o hA.b rfl ?_
    refine J_iload_n dX2_takeBackTo_10 rfl ?_
    refine J_icmp_le (tgt := 52) dX2_takeBackTo_11 (by decide) (fun c11 => ?_) (fun c11 => absurd (by rw [hlen, nI_leI (by omega) (by omega)]; exact Nat.le_refl n) c11)
    exact J_vret dX2_takeBackTo_52 rfl ⟨rfl, Nat.le_refl _⟩ (hQ h1 hF hA)
  | succ k ih =>
    intro h1 hk hF hA
    obtain ⟨p, hp⟩ := get_of (l := js) (j := js.length - n - (k + 1)) (by omega)
    have hdr : js.drop (js.length - n - (k + 1)) = p :: js.drop (js.length - n - k) := by
      rw [List.drop_eq_getElem_cons (by omega)]
      congr 1
      · exact (List.getElem?_eq_some_iff.mp hp).2
      · rw [show js.length - n - (k + 1) + 1 = js.length - n - k by omega]
    rw [hdr] at hA
    have hlen : (js.drop (js.length - n - k)).length = n + k := by rw [List.length_drop]; omega
    obtain ⟨f1, f2, f3, hP, hv, hW, hl, hN⟩ := hA
    have hv0 := JV.pop hW hv
    obtain ⟨v1, v2, v3⟩ := hv
    have hl2 : (p :: js.drop (js.length - n - k)).length = n + k + 1 := by rw [List.length_cons, hlen]
    rw [hl2] at hl hP
    have e3 : f3 (n + k) = nI p.1 := v3 _ p (by
      rw [List.reverse_cons, List.getElem?_append_right (by rw [List.length_reverse, hlen]; exact Nat.le_refl _), List.length_reverse, hlen, Nat.sub_self]; rfl)
    have e1 : f1 p.1 = nI p.2 := by
      rw [v1 _ hW.2.1]
      show nI (if p.1 = p.1 then p.2 else _) = _
      rw [if_pos rfl]
    refine J_aload_n dX2_takeBackTo_6 rfl ?_
    refine J_get (k := 3) dX2_takeBackTo_7 gc_2 fl_RX2_25 (by decide) hP.o hP.b rfl ?_
    refine J_iload_n dX2_takeBackTo_10 rfl ?_
    refine J_icmp_le (tgt := 52) dX2_takeBackTo_11 (by decide) (fun c11 => absurd c11 (by rw [nI_leI (by omega) (by omega)]; omega)) (fun c11 => ?_)
    refine J_aload_n dX2_takeBackTo_14 rfl ?_
    refine J_get (k := 3) dX2_takeBackTo_15 gc_2 fl_RX2_25 (by decide) hP.o hP.b rfl ?_
    refine J_aload_n dX2_takeBackTo_18 rfl ?_
    refine J_get (k := 2) dX2_takeBackTo_19 gc_2 fl_RX2_22 (by decide) hP.o hP.b rfl ?_
    refine J_alen dX2_takeBackTo_22 hP.c3 (by decide) hP.b3 rfl ?_
    refine J_icmp_gt (tgt := 52) dX2_takeBackTo_23 (by decide) (fun c23 => absurd c23 (by show ¬ nI N < _; rw [nI_ltI (by omega) (by omega)]; omega)) (fun c23 => ?_)
    refine J_aload_n dX2_takeBackTo_26 rfl ?_
    refine J_dup dX2_takeBackTo_27 rfl ?_
    refine J_get (k := 3) dX2_takeBackTo_28 gc_2 fl_RX2_25 (by decide) hP.o hP.b rfl ?_
    refine J_iconst (x := 1) dX2_takeBackTo_31 (by decide) ?_
    refine J_isub dX2_takeBackTo_32 ?_
    rw [nI_pred]
    refine J_put (k := 3) dX2_takeBackTo_33 gc_2 fl_RX2_25 (by decide) rfl hP.o hP.b (Nat.le_of_ble_eq_true rfl) (fun _ => ⟨rfl, rfl⟩) rfl ?_
    replace hP := hP.sn (nI (n + k))
    have hF1 := hF.up (c := .inr (2, [.ref (a + 1), .ref (a + 2), .ref (a + 3), .int (nI (n + k))])) (Nat.le_refl a) (show a < a + 4 by omega)
    refine J_aload_n dX2_takeBackTo_36 rfl ?_
    refine J_aload_n dX2_takeBackTo_37 rfl ?_
    refine J_get (k := 2) dX2_takeBackTo_38 gc_2 fl_RX2_22 (by decide) hP.o hP.b rfl ?_
    refine J_aload_n dX2_takeBackTo_41 rfl ?_
    refine J_get (k := 3) dX2_takeBackTo_42 gc_2 fl_RX2_25 (by decide) hP.o hP.b rfl ?_
    refine J_iald dX2_takeBackTo_45 hP.c3 hP.b3 (vp_in_nI (show n + k < N by omega) (by omega)) ?_
    rw [nI_clamp (n := n + k) (by omega), e3]
    refine J_callV (As := [_]) (rest := []) (M' := m_X2_takeOff) dX2_takeBackTo_46 ml_RX2_37 gm_X2_takeOff gv_X2_takeOff hP.o hP.b rfl rfl rfl (Nat.le_of_ble_eq_true rfl) (by decide) ⟨rfl, rfl, by decide, by decide⟩ (s_X2_takeOff hP hN hW.2.1 hW.2.2.1 e1 (fun h2 hF2 hP2 => ?_))
    refine J_goto (tgt := 6) dX2_takeBackTo_49 (by decide) ?_
    exact ih h2 (by omega) (hF1.tr hF2) ⟨_, _, _, by rw [hlen]; exact hP2, hv0, hW.1, by rw [hlen]; omega, hN⟩
theorem s_X2_takeBackTo {n : Nat} (hA : JA h a N js) (hn : n ≤ js.length) (hQ : ∀ h', Fr a (a + 4) h h' → JA h' a N (js.drop (js.length - n)) → Q none h') : MJ m_X2_takeBackTo 2 0 0 [.ref a, .int (nI n)] h Q := by
  have hl := hA.len
  refine MJ_of_J (L := [some (.ref a), some (.int (nI n)), none]) (by decide +kernel) rfl (Nat.le_of_ble_eq_true rfl) rfl ?_
  refine J_iload_n dX2_takeBackTo_0 rfl ?_
  refine J_iconst (x := 0) dX2_takeBackTo_1 (by decide) ?_
  refine J_mmax dX2_takeBackTo_2 ml_RX2_7 gw_max (by decide) (Nat.le_of_ble_eq_true rfl) ⟨Nat.le_refl _, Nat.le_refl _⟩ ?_
  rw [if_neg (show ¬ nI n < 0 from nI_pos (by omega))]
  refine J_istore_n dX2_takeBackTo_5 (by decide) rfl ?_
  exact l_X2_takeBackTo hQ (js.length - n) h (by omega) Fr.rf (by rw [Nat.sub_self]; exact hA)
end SJoins
end
section
/-! the pairs of the links that a condition picks; what is told of single moments -/
def EK (ls : List Lk) (p : Nat → Lk → Bool) : Nat → List (Nat × Nat)
  | 0 => []
  | k + 1 => EK ls p k ++ (match ls[k]? with
    | some y => if p k y = true then [(y.1, y.2.1)] else []
    | none => [])
theorem EK_s {ls : List Lk} {p : Nat → Lk → Bool} {k : Nat} {y : Lk} (h : ls[k]? = some y) : EK ls p (k + 1) = EK ls p k ++ (if p k y = true then [(y.1, y.2.1)] else []) := by
  show EK ls p k ++ (match ls[k]? with | some y => if p k y = true then [(y.1, y.2.1)] else [] | none => []) = _
  rw [h]
theorem EK_mem {ls : List Lk} {p : Nat → Lk → Bool} {e : Nat × Nat} : ∀ {n : Nat}, e ∈ EK ls p n ↔ ∃ (k : Nat) (y : Lk), k < n ∧ ls[k]? = some y ∧ p k y = true ∧ e = (y.1, y.2.1)
  | 0 => ⟨fun h => by simp [EK] at h, fun ⟨k, y, h, _⟩ => absurd h (Nat.not_lt_zero _)⟩
  | n + 1 => by
    cases hy : ls[n]? with
    | none =>
      have e0 : EK ls p (n + 1) = EK ls p n := by
        show EK ls p n ++ (match ls[n]? with | some y => if p n y = true then [(y.1, y.2.1)] else [] | none => []) = _
        rw [hy]; simp
      rw [e0, EK_mem]
      constructor
      · rintro ⟨k, y, h1, h2⟩; exact ⟨k, y, by omega, h2⟩
      · rintro ⟨k, y, h1, h2, h3⟩
        by_cases q : k = n
        · subst q; rw [hy] at h2; cases h2
        · exact ⟨k, y, by omega, h2, h3⟩
    | some z =>
      rw [EK_s hy, List.mem_append, EK_mem]
      constructor
      · rintro (⟨k, y, h1, h2⟩ | h)
        · exact ⟨k, y, by omega, h2⟩
        · by_cases q : p n z = true
          · rw [if_pos q] at h
            exact ⟨n, z, by omega, hy, q, List.mem_singleton.mp h⟩
          · rw [if_neg q] at h; simp at h
      · rintro ⟨k, y, h1, h2, h3, h4⟩
        by_cases q : k = n
        · subst q
          rw [hy] at h2; cases h2
          right
          rw [if_pos h3]; exact List.mem_singleton.mpr h4
        · exact Or.inl ⟨k, y, by omega, h2, h3, h4⟩
theorem EK_lt {ls : List Lk} {p : Nat → Lk → Bool} (hO : ∀ x ∈ ls, okK x) {n : Nat} : ∀ e ∈ EK ls p n, e.1 < 16 ∧ e.2 < 16 := by
  intro e he
  obtain ⟨k, y, h1, h2, h3, rfl⟩ := EK_mem.mp he
  have := hO y (List.mem_of_getElem? h2)
  exact ⟨this.1, this.2.1⟩
/-- the pairs between the two sides of each point -/
def DK (ls : List Lk) (p : Nat → Lk → Bool) : Nat → List (Nat × Nat)
  | 0 => []
  | k + 1 => DK ls p k ++ (match ls[k]? with
    | some y => if p k y = true then [(y.1, 16 + y.2.1), (16 + y.1, y.2.1)] else []
    | none => [])
theorem DK_s {ls : List Lk} {p : Nat → Lk → Bool} {k : Nat} {y : Lk} (h : ls[k]? = some y) : DK ls p (k + 1) = DK ls p k ++ (if p k y = true then [(y.1, 16 + y.2.1), (16 + y.1, y.2.1)] else []) := by
  show DK ls p k ++ (match ls[k]? with | some y => if p k y = true then [(y.1, 16 + y.2.1), (16 + y.1, y.2.1)] else [] | none => []) = _
  rw [h]
theorem DK_mem {ls : List Lk} {p : Nat → Lk → Bool} {e : Nat × Nat} : ∀ {n : Nat}, e ∈ DK ls p n ↔ ∃ (k : Nat) (y : Lk), k < n ∧ ls[k]? = some y ∧ p k y = true ∧ (e = (y.1, 16 + y.2.1) ∨ e = (16 + y.1, y.2.1))
  | 0 => ⟨fun h => by simp [DK] at h, fun ⟨k, y, h, _⟩ => absurd h (Nat.not_lt_zero _)⟩
  | n + 1 => by
    cases hy : ls[n]? with
    | none =>
      have e0 : DK ls p (n + 1) = DK ls p n := by
        show DK ls p n ++ (match ls[n]? with | some y => if p n y = true then [(y.1, 16 + y.2.1), (16 + y.1, y.2.1)] else [] | none => []) = _
        rw [hy]; simp
      rw [e0, DK_mem]
      constructor
      · rintro ⟨k, y, h1, h2⟩; exact ⟨k, y, by omega, h2⟩
      · rintro ⟨k, y, h1, h2, h3⟩
        by_cases q : k = n
        · subst q; rw [hy] at h2; cases h2
        · exact ⟨k, y, by omega, h2, h3⟩
    | some z =>
      rw [DK_s hy, List.mem_append, DK_mem]
      constructor
      · rintro (⟨k, y, h1, h2⟩ | h)
        · exact ⟨k, y, by omega, h2⟩
        · by_cases q : p n z = true
          · rw [if_pos q] at h
            exact ⟨n, z, by omega, hy, q, by simpa using h⟩
          · rw [if_neg q] at h; simp at h
      · rintro ⟨k, y, h1, h2, h3, h4⟩
        by_cases q : k = n
        · subst q
          rw [hy] at h2; cases h2
          right
          rw [if_pos h3]; simpa using h4
        · exact Or.inl ⟨k, y, by omega, h2, h3, h4⟩
theorem DK_lt {ls : List Lk} {p : Nat → Lk → Bool} (hO : ∀ x ∈ ls, okK x) {n : Nat} : ∀ e ∈ DK ls p n, e.1 < 32 ∧ e.2 < 32 := by
  intro e he
  obtain ⟨k, y, h1, h2, h3, h4⟩ := DK_mem.mp he
  have := hO y (List.mem_of_getElem? h2)
  have a := this.1
  have b := this.2.1
  rcases h4 with rfl | rfl
  · exact ⟨by show y.1 < 32; omega, by show 16 + y.2.1 < 32; omega⟩
  · exact ⟨by show 16 + y.1 < 32; omega, by show y.2.1 < 32; omega⟩
/-- the links that live at a moment, but one -/
noncomputable def lvX (x : Int32) (m : Nat) (k : Nat) (y : Lk) : Bool := @decide (¬ nI k = x) (Classical.propDecidable _) && lvB (m : Int) y
def lvA (m : Nat) (_ : Nat) (y : Lk) : Bool := lvB (m : Int) y
theorem lvX_iff {x : Int32} {m k : Nat} {y : Lk} : lvX x m k y = true ↔ (¬ nI k = x ∧ lvB (m : Int) y = true) := by simp [lvX]
theorem lvX_n {m k : Nat} {y : Lk} (hk : k < 2 ^ 31) : lvX (-1) m k y = lvA m k y := by
  unfold lvX lvA
  have : ¬ nI k = -1 := fun e => by
    have h1 := congrArg Int32.toInt e
    rw [nI_toInt hk] at h1
    have h2 : (-1 : Int32).toInt = -1 := by decide
    omega
  simp [this]
/-- joined at a moment -/
def CM (ls : List Lk) (m : Nat) (x y : Nat) : Prop := Cn (EK ls (lvA m) ls.length) x y
/-- joined at a moment without a link -/
def CX (ls : List Lk) (j m : Nat) (x y : Nat) : Prop := Cn (EK ls (lvX (nI j) m) ls.length) x y
theorem CX_n {ls : List Lk} {m : Nat} (hl : ls.length ≤ 40) (x y : Nat) : Cn (EK ls (lvX (-1) m) ls.length) x y ↔ CM ls m x y := by
  refine Cn.set (fun e => ?_) x y
  rw [EK_mem, EK_mem]
  constructor
  · rintro ⟨k, y, h1, h2, h3, h4⟩
    exact ⟨k, y, h1, h2, by rwa [lvX_n (by omega)] at h3, h4⟩
  · rintro ⟨k, y, h1, h2, h3, h4⟩
    exact ⟨k, y, h1, h2, by rwa [lvX_n (by omega)], h4⟩
/-- odd at a moment -/
def OM (ls : List Lk) (m : Nat) : Prop := ∃ x : Nat, x < 16 ∧ Cn (DK ls (lvA m) ls.length) x (16 + x)
/-- needed at a moment -/
def NM (ls : List Lk) (j m : Nat) (y : Lk) : Prop := lvB (m : Int) y = true ∧ ¬ CX ls j m y.1 y.2.1
def maxN (f : Nat → Nat) : Nat → Nat
  | 0 => 0
  | n + 1 => if maxN f n < f n then f n else maxN f n
def minN (f : Nat → Nat) : Nat → Nat
  | 0 => 16
  | n + 1 => if f n < minN f n then f n else minN f n
theorem maxN_c {f g : Nat → Nat} : ∀ {n : Nat}, (∀ k, k < n → f k = g k) → maxN f n = maxN g n
  | 0, _ => rfl
  | n + 1, h => by
    show (if maxN f n < f n then f n else maxN f n) = (if maxN g n < g n then g n else maxN g n)
    rw [maxN_c (fun k hk => h k (Nat.lt_succ_of_lt hk)), h n (Nat.lt_succ_self n)]
theorem maxN_le {f : Nat → Nat} {b : Nat} (hf : ∀ k, f k ≤ b) : ∀ n, maxN f n ≤ b
  | 0 => Nat.zero_le _
  | n + 1 => by
    show (if maxN f n < f n then f n else maxN f n) ≤ b
    split
    · exact hf n
    · exact maxN_le hf n
theorem minN_le (f : Nat → Nat) : ∀ n, minN f n ≤ 16
  | 0 => Nat.le_refl _
  | n + 1 => by
    have := minN_le f n
    show (if f n < minN f n then f n else minN f n) ≤ 16
    split <;> omega
/-- how many points the part of a point has -/
noncomputable def pSz (ls : List Lk) (m p : Nat) : Nat := sumN (fun y => oneI (CM ls m y p)) 16
theorem pSz_le (ls : List Lk) (m p : Nat) : pSz ls m p ≤ 16 := by
  have := sumN_le (f := fun y => oneI (CM ls m y p)) (b := 1) (fun _ => oneI_le _) 16
  unfold pSz; omega
noncomputable def pts (ls : List Lk) (m : Nat) : Nat := nfst (CM ls m) 16
theorem nfst_le (C : Nat → Nat → Prop) (n : Nat) : nfst C n ≤ n := by
  have := sumN_le (f := fun x => oneI (∀ y, y < x → ¬ C y x)) (b := 1) (fun _ => oneI_le _) n
  unfold nfst; omega
/-- an int's bits -/
def BS (r : Int32) (P : Nat → Prop) : Prop := ∀ i : Nat, r.toBitVec.getLsbD i = true ↔ (i < 16 ∧ P i)
theorem BS.uniq {r s : Int32} {P : Nat → Prop} (a : BS r P) (b : BS s P) : r = s := by
  apply Int32.toBitVec_inj.mp
  apply BitVec.eq_of_getLsbD_eq
  intro i hi
  rw [Bool.eq_iff_iff, a i, b i]
theorem BS.one {r : Int32} {P Q : Nat → Prop} {k : Nat} (hk : k < 16) (a : BS r P) (hq : ∀ i, i < 16 → (Q i ↔ (P i ∨ i = k))) : BS (r ||| (1 : Int32) <<< (nI k &&& 31)) Q := by
  have e : ∀ k, k < 16 → ((1 : Int32) <<< (nI k &&& 31)).toBitVec = BitVec.twoPow 32 k := by decide +kernel
  intro i
  rw [Int32.toBitVec_or, BitVec.getLsbD_or, e k hk, BitVec.getLsbD_twoPow, Bool.or_eq_true, a i]
  constructor
  · rintro (⟨h1, h2⟩ | h)
    · exact ⟨h1, (hq i h1).mpr (Or.inl h2)⟩
    · simp at h
      have : i = k := h.2.symm
      exact ⟨by omega, (hq i (by omega)).mpr (Or.inr this)⟩
  · rintro ⟨h1, h2⟩
    rcases (hq i h1).mp h2 with h | h
    · exact Or.inl ⟨h1, h⟩
    · right
      subst h
      simp
      omega
/-! the picture of a Moments object -/
def MA (h : g_H) (a : Nat) : Prop := (1 ≤ a ∧ a + 8 ≤ h.2) ∧ h.1 a = .inr (5, [.ref (a + 1), .ref (a + 5)]) ∧ (∃ js, JA h (a + 1) 16 js) ∧ ∃ js, JA h (a + 5) 32 js
section SMom
variable {h h' : g_H} {a b : Nat} {ls : List Lk} {Q : Option Value → g_H → Prop}
theorem MA.o (p : MA h a) : h.1 a = .inr (5, [.ref (a + 1), .ref (a + 5)]) := p.2.1
theorem MA.bo (p : MA h a) : 1 ≤ a ∧ a ≤ h.2 := ⟨p.1.1, by have := p.1.2; omega⟩
theorem MA.fr {lo hi : Nat} (p : MA h a) (F : Fr lo hi h h') (q : a + 9 ≤ lo ∨ hi ≤ a) : MA h' a := by
  obtain ⟨⟨p1, p2⟩, p3, ⟨j1, p4⟩, j2, p5⟩ := p
  exact ⟨⟨p1, by rw [F.1]; exact p2⟩, (F.2 a (by omega)).trans p3, ⟨j1, p4.fr F (by omega)⟩, j2, p5.fr F (by omega)⟩
theorem MA.s1 {js : List (Nat × Nat)} (p : MA h a) (F : Fr (a + 1) (a + 1 + 4) h h') (J : JA h' (a + 1) 16 js) : MA h' a := by
  obtain ⟨⟨p1, p2⟩, p3, -, j2, p5⟩ := p
  exact ⟨⟨p1, by rw [F.1]; exact p2⟩, (F.2 a (by omega)).trans p3, ⟨js, J⟩, j2, p5.fr F (by omega)⟩
theorem MA.s2 {js : List (Nat × Nat)} (p : MA h a) (F : Fr (a + 5) (a + 5 + 4) h h') (J : JA h' (a + 5) 32 js) : MA h' a := by
  obtain ⟨⟨p1, p2⟩, p3, ⟨j1, p4⟩, -⟩ := p
  exact ⟨⟨p1, by rw [F.1]; exact p2⟩, (F.2 a (by omega)).trans p3, ⟨j1, p4.fr F (by omega)⟩, js, J⟩
theorem l_X5_joinWithout {x : Int32} {m : Nat} (hm : m < 64) (hA0 : LA h b ls) (hd : b + 5 ≤ a ∨ a + 9 ≤ b) (hQ : ∀ h' js, Fr a (a + 9) h h' → MA h' a → JA h' (a + 1) 16 js → RP 16 js (EK ls (lvX x m) ls.length) → Q none h') : ∀ (t k : Nat) (h1 : g_H) (js : List (Nat × Nat)), ls.length - k < t → k ≤ ls.length → Fr a (a + 9) h h1 → MA h1 a → JA h1 (a + 1) 16 js → RP 16 js (EK ls (lvX x m) k) → J m_X5_joinWithout 3 0 0 0 0 11 [some (.ref a), some (.ref b), some (.int x), some (.int (nI m)), some (.int (nI k))] [] h1 Q := by
  intro t
  induction t with
  | zero => intro k h1 js ht; omega
  | succ t ih =>
    intro k h1 js ht hk hF hM hJ hR
    have hA := hA0.fr hF (by omega)
    have hn := hA.len
    have hO := hA.ok
    refine J_iload dX5_joinWithout_11 rfl ?_
    refine J_aload_n dX5_joinWithout_13 rfl ?_
    refine J_callV (As := []) (rest := [_]) (M' := m_X4_size) dX5_joinWithout_14 ml_RX5_26 gm_X4_size gv_X4_size hA.o hA.b rfl rfl rfl (Nat.le_of_ble_eq_true rfl) (by decide) ⟨rfl, rfl, by decide, by decide⟩ (s_X4_size hA (fun r hr => ?_))
    subst hr
    refine J_icmp_ge (tgt := 61) dX5_joinWithout_17 (by decide) (fun c17 => ?_) (fun c17 => ?_)
    · exact J_vret dX5_joinWithout_61 rfl ⟨rfl, Nat.le_refl _⟩ (hQ h1 js hF hM hJ (by have c17 := (nI_leI (by omega) (by omega)).mp c17; rwa [show k = ls.length by omega] at hR))
    · have c17 : k < ls.length := Nat.not_le.mp (fun q => c17 ((nI_leI (by omega) (by omega)).mpr q))
      obtain ⟨y, hy⟩ := get_of c17
      obtain ⟨o1, o2, o3, o4, o5⟩ := hO y (List.mem_of_getElem? hy)
      refine J_iload dX5_joinWithout_20 rfl ?_
      refine J_iload_n dX5_joinWithout_22 rfl ?_
      refine J_icmp_eq (tgt := 55) dX5_joinWithout_23 (by decide) (fun c23 => ?_) (fun c23 => ?_)
      · refine J_iinc dX5_joinWithout_55 rfl (nI_i1 k) (by decide) rfl ?_
        refine J_goto (tgt := 11) dX5_joinWithout_58 (by decide) ?_
        exact ih (k + 1) h1 js (by omega) (by omega) hF hM hJ (by rw [EK_s hy, if_neg (fun q => (lvX_iff.mp q).1 c23), List.append_nil]; exact hR)
      · refine J_aload_n dX5_joinWithout_26 rfl ?_
        refine J_iload dX5_joinWithout_27 rfl ?_
        refine J_iload_n dX5_joinWithout_29 rfl ?_
        refine J_callV (As := [_, _]) (rest := []) (M' := m_X4_livesAt) dX5_joinWithout_30 ml_RX5_32 gm_X4_livesAt gv_X4_livesAt hA.o hA.b rfl rfl rfl (Nat.le_of_ble_eq_true rfl) (by decide) ⟨rfl, rfl, by decide, by decide⟩ (s_X4_livesAt hA hy (fun r hr => ?_))
        rw [nI_toInt (show m < 2 ^ 31 by omega)] at hr
        refine J_if_eq (tgt := 55) dX5_joinWithout_33 (by decide) (fun c33 => ?_) (fun c33 => ?_)
        · refine J_iinc dX5_joinWithout_55 rfl (nI_i1 k) (by decide) rfl ?_
          refine J_goto (tgt := 11) dX5_joinWithout_58 (by decide) ?_
          exact ih (k + 1) h1 js (by omega) (by omega) hF hM hJ (by rw [EK_s hy, if_neg (fun q => (bI_0 hr).mp c33 (lvX_iff.mp q).2), List.append_nil]; exact hR)
        · refine J_aload_n dX5_joinWithout_36 rfl ?_
          refine J_get (k := 0) dX5_joinWithout_37 gc_5 fl_RX5_14 (by decide) hM.o hM.bo rfl ?_
          refine J_aload_n dX5_joinWithout_40 rfl ?_
          refine J_iload dX5_joinWithout_41 rfl ?_
          refine J_callV (As := [_]) (rest := [_]) (M' := m_X4_oneOf) dX5_joinWithout_43 ml_RX5_36 gm_X4_oneOf gv_X4_oneOf hA.o hA.b rfl rfl rfl (Nat.le_of_ble_eq_true rfl) (by decide) ⟨rfl, rfl, by decide, by decide⟩ (s_X4_oneOf hA hy (fun r1 hr1 => ?_))
          subst hr1
          refine J_aload_n dX5_joinWithout_46 rfl ?_
          refine J_iload dX5_joinWithout_47 rfl ?_
          refine J_callV (As := [_]) (rest := [_, _]) (M' := m_X4_otherOf) dX5_joinWithout_49 ml_RX5_40 gm_X4_otherOf gv_X4_otherOf hA.o hA.b rfl rfl rfl (Nat.le_of_ble_eq_true rfl) (by decide) ⟨rfl, rfl, by decide, by decide⟩ (s_X4_otherOf hA hy (fun r1 hr1 => ?_))
          subst hr1
          refine J_callV (As := [_, _]) (rest := []) (M' := m_X2_join) dX5_joinWithout_52 ml_RX5_43 gm_X2_join gv_X2_join hJ.o hJ.b rfl rfl rfl (Nat.le_of_ble_eq_true rfl) (by decide) ⟨rfl, rfl, by decide, by decide⟩ (s_X2_join hJ o1 o2 (fun h2 js2 hF2 hJ2 hN2 => ?_))
          refine J_iinc dX5_joinWithout_55 rfl (nI_i1 k) (by decide) rfl ?_
          refine J_goto (tgt := 11) dX5_joinWithout_58 (by decide) ?_
          exact ih (k + 1) h2 js2 (by omega) (by omega) (hF.tr (hF2.mono (by omega) (by omega))) (hM.s1 hF2 hJ2) hJ2 (by rw [EK_s hy, if_pos (lvX_iff.mpr ⟨c23, nn_of hr c33⟩)]; exact RP.join hJ.w hR o1 o2 (EK_lt hO) hN2)
theorem s_X5_joinWithout {x : Int32} {m : Nat} (hm : m < 64) (hM : MA h a) (hA : LA h b ls) (hd : b + 5 ≤ a ∨ a + 9 ≤ b) (hQ : ∀ h' js, Fr a (a + 9) h h' → MA h' a → JA h' (a + 1) 16 js → RP 16 js (EK ls (lvX x m) ls.length) → Q none h') : MJ m_X5_joinWithout 3 0 0 [.ref a, .ref b, .int x, .int (nI m)] h Q := by
  obtain ⟨js0, hJ⟩ := hM.2.2.1
  refine MJ_of_J (L := [some (.ref a), some (.ref b), some (.int x), some (.int (nI m)), none]) (by decide +kernel) rfl (Nat.le_of_ble_eq_true rfl) rfl ?_
  refine J_aload_n dX5_joinWithout_0 rfl ?_
  refine J_get (k := 0) dX5_joinWithout_1 gc_5 fl_RX5_14 (by decide) hM.o hM.bo rfl ?_
  refine J_iconst (x := 0) dX5_joinWithout_4 (by decide) ?_
  refine J_callV (As := [_]) (rest := []) (M' := m_X2_takeBackTo) dX5_joinWithout_5 ml_RX5_23 gm_X2_takeBackTo gv_X2_takeBackTo hJ.o hJ.b rfl rfl rfl (Nat.le_of_ble_eq_true rfl) (by decide) ⟨rfl, rfl, by decide, by decide⟩ (s_X2_takeBackTo (n := 0) hJ (Nat.zero_le _) (fun h1 hF1 hJ1 => ?_))
  refine J_iconst (x := 0) dX5_joinWithout_8 (by decide) ?_
  refine J_istore dX5_joinWithout_9 (by decide) rfl ?_
  rw [Nat.sub_zero, List.drop_length] at hJ1
  exact l_X5_joinWithout hm hA hd hQ (ls.length + 1) 0 h1 [] (by omega) (by omega) (hF1.mono (by omega) (by omega)) (hM.s1 hF1 hJ1) hJ1 (RP.nil 16)
theorem s_X5_areJoinedAt {m x y : Nat} (hm : m < 64) (hM : MA h a) (hA : LA h b ls) (hd : b + 5 ≤ a ∨ a + 9 ≤ b) (hx : x < 16) (hy : y < 16) (hQ : ∀ r h', r = bI (CM ls m x y) → Fr a (a + 9) h h' → MA h' a → Q (some (.int r)) h') : MJ m_X5_areJoinedAt 4 0 0 [.ref a, .ref b, .int (nI m), .int (nI x), .int (nI y)] h Q := by
  refine MJ_of_J (L := [some (.ref a), some (.ref b), some (.int (nI m)), some (.int (nI x)), some (.int (nI y))]) (by decide +kernel) rfl (Nat.le_of_ble_eq_true rfl) rfl ?_
  refine J_aload_n dX5_areJoinedAt_0 rfl ?_
  refine J_aload_n dX5_areJoinedAt_1 rfl ?_
  refine J_iconst (x := -1) dX5_areJoinedAt_2 (by decide) ?_
  refine J_iload_n dX5_areJoinedAt_3 rfl ?_
  refine J_callV (As := [_, _, _]) (rest := []) (M' := m_X5_joinWithout) dX5_areJoinedAt_4 ml_RX5_47 gm_X5_joinWithout gv_X5_joinWithout hM.o hM.bo rfl rfl rfl (Nat.le_of_ble_eq_true rfl) (by decide) ⟨rfl, rfl, by decide, by decide⟩ (s_X5_joinWithout hm hM hA hd (fun h1 js hF1 hM1 hJ1 hR1 => ?_))
  replace hM := hM1
  have hR : ∀ u v : Nat, u < 16 → v < 16 → (rt js u = rt js v ↔ CM ls m u v) := fun u v hu hv => (hR1 u v hu hv).trans (CX_n hA.len u v)
  refine J_aload_n dX5_areJoinedAt_7 rfl ?_
  refine J_get (k := 0) dX5_areJoinedAt_8 gc_5 fl_RX5_14 (by decide) hM.o hM.bo rfl ?_
  refine J_iload_n dX5_areJoinedAt_11 rfl ?_
  refine J_iload dX5_areJoinedAt_12 rfl ?_
  refine J_callV (As := [_, _]) (rest := []) (M' := m_X2_areJoined) dX5_areJoinedAt_14 ml_RX5_51 gm_X2_areJoined gv_X2_areJoined hJ1.o hJ1.b rfl rfl rfl (Nat.le_of_ble_eq_true rfl) (by decide) ⟨rfl, rfl, by decide, by decide⟩ (s_X2_areJoined hJ1 hx hy (fun r hr => ?_))
  rw [bI_c (hR x y hx hy)] at hr
  exact J_zret dX5_areJoinedAt_17 rfl (by rw [hr]; exact bI_01 _) ⟨rfl, Nat.le_refl _⟩ (hQ _ _ hr hF1 hM1)
theorem pts_js {js : List (Nat × Nat)} {m : Nat} (w : WJ 16 js) (hR : ∀ u v : Nat, u < 16 → v < 16 → (rt js u = rt js v ↔ CM ls m u v)) : pts ls m + js.length = 16 := by
  have h1 := nfst_rt w
  have h2 : nfst (fun x y => rt js x = rt js y) 16 = pts ls m := nfst_c hR
  omega
theorem s_X5_partsAt {m : Nat} (hm : m < 64) (hM : MA h a) (hA : LA h b ls) (hd : b + 5 ≤ a ∨ a + 9 ≤ b) (hQ : ∀ r h', r = nI (pts ls m) → Fr a (a + 9) h h' → MA h' a → Q (some (.int r)) h') : MJ m_X5_partsAt 4 0 0 [.ref a, .ref b, .int (nI m)] h Q := by
  refine MJ_of_J (L := [some (.ref a), some (.ref b), some (.int (nI m))]) (by decide +kernel) rfl (Nat.le_of_ble_eq_true rfl) rfl ?_
  refine J_aload_n dX5_partsAt_0 rfl ?_
  refine J_aload_n dX5_partsAt_1 rfl ?_
  refine J_iconst (x := -1) dX5_partsAt_2 (by decide) ?_
  refine J_iload_n dX5_partsAt_3 rfl ?_
  refine J_callV (As := [_, _, _]) (rest := []) (M' := m_X5_joinWithout) dX5_partsAt_4 ml_RX5_47 gm_X5_joinWithout gv_X5_joinWithout hM.o hM.bo rfl rfl rfl (Nat.le_of_ble_eq_true rfl) (by decide) ⟨rfl, rfl, by decide, by decide⟩ (s_X5_joinWithout hm hM hA hd (fun h1 js hF1 hM1 hJ1 hR1 => ?_))
  replace hM := hM1
  have hR : ∀ u v : Nat, u < 16 → v < 16 → (rt js u = rt js v ↔ CM ls m u v) := fun u v hu hv => (hR1 u v hu hv).trans (CX_n hA.len u v)
  refine J_bipush (x := 16) dX5_partsAt_7 (by decide) ?_
  refine J_aload_n dX5_partsAt_9 rfl ?_
  refine J_get (k := 0) dX5_partsAt_10 gc_5 fl_RX5_14 (by decide) hM.o hM.bo rfl ?_
  refine J_callV (As := []) (rest := [_]) (M' := m_X2_standing) dX5_partsAt_13 ml_RX5_54 gm_X2_standing gv_X2_standing hJ1.o hJ1.b rfl rfl rfl (Nat.le_of_ble_eq_true rfl) (by decide) ⟨rfl, rfl, by decide, by decide⟩ (s_X2_standing hJ1 (fun r hr => ?_))
  subst hr
  have hp := pts_js hJ1.w hR
  refine J_isub dX5_partsAt_16 ?_
  exact J_iret dX5_partsAt_17 rfl ⟨rfl, Nat.le_refl _⟩ (hQ _ _ (by show nI 16 - _ = _; rw [pk_sub (by omega)]; congr 1; omega) hF1 hM1)
theorem l_X5_lowestOfPartAt {m p : Nat} {js : List (Nat × Nat)} {h1 : g_H} (hp : p < 16) (hM1 : MA h1 a) (hJ1 : JA h1 (a + 1) 16 js) (hR : ∀ u v : Nat, u < 16 → v < 16 → (rt js u = rt js v ↔ CM ls m u v)) (hQ : ∀ r l, r = nI l → l < 16 → CM ls m p l → (∀ y, y < l → ¬ CM ls m p y) → Q (some (.int r)) h1) : ∀ (t k : Nat), p - k < t → k ≤ p → (∀ y, y < k → ¬ CM ls m p y) → J m_X5_lowestOfPartAt 4 0 0 0 0 10 [some (.ref a), some (.ref b), some (.int (nI m)), some (.int (nI p)), some (.int (nI k))] [] h1 Q := by
  intro t
  induction t with
  | zero => intro k ht; omega
  | succ t ih =>
    intro k ht hk hn
    refine J_iload dX5_lowestOfPartAt_10 rfl ?_
    refine J_iload_n dX5_lowestOfPartAt_12 rfl ?_
    refine J_icmp_ge (tgt := 38) dX5_lowestOfPartAt_13 (by decide) (fun c13 => ?_) (fun c13 => ?_)
    · refine J_iload_n dX5_lowestOfPartAt_38 rfl ?_
      exact J_iret dX5_lowestOfPartAt_39 rfl ⟨rfl, Nat.le_refl _⟩ (hQ _ p rfl hp (Cn.rf _) (by have c13 := (nI_leI (by omega) (by omega)).mp c13; rwa [show k = p by omega] at hn))
    · have c13 : k < p := Nat.not_le.mp (fun q => c13 ((nI_leI (by omega) (by omega)).mpr q))
      refine J_aload_n dX5_lowestOfPartAt_16 rfl ?_
      refine J_get (k := 0) dX5_lowestOfPartAt_17 gc_5 fl_RX5_14 (by decide) hM1.o hM1.bo rfl ?_
      refine J_iload_n dX5_lowestOfPartAt_20 rfl ?_
      refine J_iload dX5_lowestOfPartAt_21 rfl ?_
      refine J_callV (As := [_, _]) (rest := []) (M' := m_X2_areJoined) dX5_lowestOfPartAt_23 ml_RX5_51 gm_X2_areJoined gv_X2_areJoined hJ1.o hJ1.b rfl rfl rfl (Nat.le_of_ble_eq_true rfl) (by decide) ⟨rfl, rfl, by decide, by decide⟩ (s_X2_areJoined hJ1 hp (show k < 16 by omega) (fun r hr => ?_))
      rw [bI_c (hR p k hp (by omega))] at hr
      refine J_if_eq (tgt := 32) dX5_lowestOfPartAt_26 (by decide) (fun c26 => ?_) (fun c26 => ?_)
      · refine J_iinc dX5_lowestOfPartAt_32 rfl (nI_i1 k) (by decide) rfl ?_
        refine J_goto (tgt := 10) dX5_lowestOfPartAt_35 (by decide) ?_
        exact ih (k + 1) (by omega) (by omega) (fun y hy q => by rcases Nat.lt_succ_iff_lt_or_eq.mp hy with z | z; exact hn y z q; subst z; exact (bI_0 hr).mp c26 q)
      · refine J_iload dX5_lowestOfPartAt_29 rfl ?_
        exact J_iret dX5_lowestOfPartAt_31 rfl ⟨rfl, Nat.le_refl _⟩ (hQ _ k rfl (by omega) (nn_of hr c26) hn)
theorem s_X5_lowestOfPartAt {m p : Nat} (hm : m < 64) (hM : MA h a) (hA : LA h b ls) (hd : b + 5 ≤ a ∨ a + 9 ≤ b) (hp : p < 16) (hQ : ∀ r l h', r = nI l → l < 16 → CM ls m p l → (∀ y, y < l → ¬ CM ls m p y) → Fr a (a + 9) h h' → MA h' a → Q (some (.int r)) h') : MJ m_X5_lowestOfPartAt 4 0 0 [.ref a, .ref b, .int (nI m), .int (nI p)] h Q := by
  refine MJ_of_J (L := [some (.ref a), some (.ref b), some (.int (nI m)), some (.int (nI p)), none]) (by decide +kernel) rfl (Nat.le_of_ble_eq_true rfl) rfl ?_
  refine J_aload_n dX5_lowestOfPartAt_0 rfl ?_
  refine J_aload_n dX5_lowestOfPartAt_1 rfl ?_
  refine J_iconst (x := -1) dX5_lowestOfPartAt_2 (by decide) ?_
  refine J_iload_n dX5_lowestOfPartAt_3 rfl ?_
  refine J_callV (As := [_, _, _]) (rest := []) (M' := m_X5_joinWithout) dX5_lowestOfPartAt_4 ml_RX5_47 gm_X5_joinWithout gv_X5_joinWithout hM.o hM.bo rfl rfl rfl (Nat.le_of_ble_eq_true rfl) (by decide) ⟨rfl, rfl, by decide, by decide⟩ (s_X5_joinWithout hm hM hA hd (fun h1 js hF1 hM1 hJ1 hR1 => ?_))
  replace hM := hM1
  have hR : ∀ u v : Nat, u < 16 → v < 16 → (rt js u = rt js v ↔ CM ls m u v) := fun u v hu hv => (hR1 u v hu hv).trans (CX_n hA.len u v)
  refine J_iconst (x := 0) dX5_lowestOfPartAt_7 (by decide) ?_
  refine J_istore dX5_lowestOfPartAt_8 (by decide) rfl ?_
  exact l_X5_lowestOfPartAt hp hM1 hJ1 hR (fun r l h1 h2 h3 h4 => hQ r l _ h1 h2 h3 h4 hF1 hM1) (p + 1) 0 (by omega) (by omega) (fun y hy => by omega)
theorem s_X5_partSizeAt {m p : Nat} (hm : m < 64) (hM : MA h a) (hA : LA h b ls) (hd : b + 5 ≤ a ∨ a + 9 ≤ b) (hp : p < 16) (hQ : ∀ r h', r = nI (pSz ls m p) → Fr a (a + 9) h h' → MA h' a → Q (some (.int r)) h') : MJ m_X5_partSizeAt 4 0 0 [.ref a, .ref b, .int (nI m), .int (nI p)] h Q := by
  refine MJ_of_J (L := [some (.ref a), some (.ref b), some (.int (nI m)), some (.int (nI p))]) (by decide +kernel) rfl (Nat.le_of_ble_eq_true rfl) rfl ?_
  refine J_aload_n dX5_partSizeAt_0 rfl ?_
  refine J_aload_n dX5_partSizeAt_1 rfl ?_
  refine J_iconst (x := -1) dX5_partSizeAt_2 (by decide) ?_
  refine J_iload_n dX5_partSizeAt_3 rfl ?_
  refine J_callV (As := [_, _, _]) (rest := []) (M' := m_X5_joinWithout) dX5_partSizeAt_4 ml_RX5_47 gm_X5_joinWithout gv_X5_joinWithout hM.o hM.bo rfl rfl rfl (Nat.le_of_ble_eq_true rfl) (by decide) ⟨rfl, rfl, by decide, by decide⟩ (s_X5_joinWithout hm hM hA hd (fun h1 js hF1 hM1 hJ1 hR1 => ?_))
  replace hM := hM1
  have hR : ∀ u v : Nat, u < 16 → v < 16 → (rt js u = rt js v ↔ CM ls m u v) := fun u v hu hv => (hR1 u v hu hv).trans (CX_n hA.len u v)
  have hps : ∀ p, p < 16 → sumN (fun y => oneI (rt js y = rt js p)) 16 = pSz ls m p := fun p hp => sumN_c (fun y hy => oneI_c (hR y p hy hp))
  refine J_aload_n dX5_partSizeAt_7 rfl ?_
  refine J_get (k := 0) dX5_partSizeAt_8 gc_5 fl_RX5_14 (by decide) hM.o hM.bo rfl ?_
  refine J_iload_n dX5_partSizeAt_11 rfl ?_
  refine J_callV (As := [_]) (rest := []) (M' := m_X2_partSize) dX5_partSizeAt_12 ml_RX5_57 gm_X2_partSize gv_X2_partSize hJ1.o hJ1.b rfl rfl rfl (Nat.le_of_ble_eq_true rfl) (by decide) ⟨rfl, rfl, by decide, by decide⟩ (s_X2_partSize hJ1 hp (fun r hr => ?_))
  rw [hps p hp] at hr
  exact J_iret dX5_partSizeAt_15 rfl ⟨rfl, Nat.le_refl _⟩ (hQ _ _ hr hF1 hM1)
theorem l_X5_partBitsAt {m p : Nat} {js : List (Nat × Nat)} {h1 : g_H} (hp : p < 16) (hM1 : MA h1 a) (hJ1 : JA h1 (a + 1) 16 js) (hR : ∀ u v : Nat, u < 16 → v < 16 → (rt js u = rt js v ↔ CM ls m u v)) (hQ : ∀ r, BS r (fun i => CM ls m p i) → Q (some (.int r)) h1) : ∀ (t k : Nat) (s : Int32), 16 - k < t → k ≤ 16 → BS s (fun i => i < k ∧ CM ls m p i) → J m_X5_partBitsAt 4 0 0 0 0 13 [some (.ref a), some (.ref b), some (.int (nI m)), some (.int (nI p)), some (.int s), some (.int (nI k))] [] h1 Q := by
  intro t
  induction t with
  | zero => intro k s ht; omega
  | succ t ih =>
    intro k s ht hk hs
    refine J_iload dX5_partBitsAt_13 rfl ?_
    refine J_bipush (x := 16) dX5_partBitsAt_15 (by decide) ?_
    refine J_icmp_ge (tgt := 48) dX5_partBitsAt_17 (by decide) (fun c17 => ?_) (fun c17 => ?_)
    · refine J_iload dX5_partBitsAt_48 rfl ?_
      exact J_iret dX5_partBitsAt_50 rfl ⟨rfl, Nat.le_refl _⟩ (hQ _ (by have c17 := (nI_leI (a := 16) (b := k) (by omega) (by omega)).mp c17; intro i; rw [hs i]; exact ⟨fun ⟨q1, q2, q3⟩ => ⟨q1, q3⟩, fun ⟨q1, q3⟩ => ⟨q1, by omega, q3⟩⟩))
    · have c17 : k < 16 := Nat.not_le.mp (fun q => c17 ((nI_leI (a := 16) (b := k) (by omega) (by omega)).mpr q))
      refine J_aload_n dX5_partBitsAt_20 rfl ?_
      refine J_get (k := 0) dX5_partBitsAt_21 gc_5 fl_RX5_14 (by decide) hM1.o hM1.bo rfl ?_
      refine J_iload_n dX5_partBitsAt_24 rfl ?_
      refine J_iload dX5_partBitsAt_25 rfl ?_
      refine J_callV (As := [_, _]) (rest := []) (M' := m_X2_areJoined) dX5_partBitsAt_27 ml_RX5_51 gm_X2_areJoined gv_X2_areJoined hJ1.o hJ1.b rfl rfl rfl (Nat.le_of_ble_eq_true rfl) (by decide) ⟨rfl, rfl, by decide, by decide⟩ (s_X2_areJoined hJ1 hp c17 (fun r hr => ?_))
      rw [bI_c (hR p k hp (by omega))] at hr
      refine J_if_eq (tgt := 42) dX5_partBitsAt_30 (by decide) (fun c30 => ?_) (fun c30 => ?_)
      · refine J_iinc dX5_partBitsAt_42 rfl (nI_i1 k) (by decide) rfl ?_
        refine J_goto (tgt := 13) dX5_partBitsAt_45 (by decide) ?_
        exact ih (k + 1) s (by omega) (by omega) (fun i => (hs i).trans ⟨fun ⟨q1, q2, q3⟩ => ⟨q1, by omega, q3⟩, fun ⟨q1, q2, q3⟩ => ⟨q1, by rcases Nat.lt_succ_iff_lt_or_eq.mp q2 with z | z; exact z; subst z; exact absurd q3 ((bI_0 hr).mp c30), q3⟩⟩)
      · refine J_iload dX5_partBitsAt_33 rfl ?_
        refine J_iconst (x := 1) dX5_partBitsAt_35 (by decide) ?_
        refine J_iload dX5_partBitsAt_36 rfl ?_
        refine J_ishl dX5_partBitsAt_38 ?_
        refine J_ior dX5_partBitsAt_39 ?_
        refine J_istore dX5_partBitsAt_40 (by decide) rfl ?_
        refine J_iinc dX5_partBitsAt_42 rfl (nI_i1 k) (by decide) rfl ?_
        refine J_goto (tgt := 13) dX5_partBitsAt_45 (by decide) ?_
        exact ih (k + 1) _ (by omega) (by omega) (hs.one c17 (fun i hi => ⟨fun ⟨q2, q3⟩ => by rcases Nat.lt_succ_iff_lt_or_eq.mp q2 with z | z; exact Or.inl ⟨z, q3⟩; exact Or.inr z, fun q => by rcases q with ⟨q2, q3⟩ | rfl; exact ⟨by omega, q3⟩; exact ⟨by omega, nn_of hr c30⟩⟩))
theorem s_X5_partBitsAt {m p : Nat} (hm : m < 64) (hM : MA h a) (hA : LA h b ls) (hd : b + 5 ≤ a ∨ a + 9 ≤ b) (hp : p < 16) (hQ : ∀ r h', BS r (fun i => CM ls m p i) → Fr a (a + 9) h h' → MA h' a → Q (some (.int r)) h') : MJ m_X5_partBitsAt 4 0 0 [.ref a, .ref b, .int (nI m), .int (nI p)] h Q := by
  refine MJ_of_J (L := [some (.ref a), some (.ref b), some (.int (nI m)), some (.int (nI p)), none, none]) (by decide +kernel) rfl (Nat.le_of_ble_eq_true rfl) rfl ?_
  refine J_aload_n dX5_partBitsAt_0 rfl ?_
  refine J_aload_n dX5_partBitsAt_1 rfl ?_
  refine J_iconst (x := -1) dX5_partBitsAt_2 (by decide) ?_
  refine J_iload_n dX5_partBitsAt_3 rfl ?_
  refine J_callV (As := [_, _, _]) (rest := []) (M' := m_X5_joinWithout) dX5_partBitsAt_4 ml_RX5_47 gm_X5_joinWithout gv_X5_joinWithout hM.o hM.bo rfl rfl rfl (Nat.le_of_ble_eq_true rfl) (by decide) ⟨rfl, rfl, by decide, by decide⟩ (s_X5_joinWithout hm hM hA hd (fun h1 js hF1 hM1 hJ1 hR1 => ?_))
  replace hM := hM1
  have hR : ∀ u v : Nat, u < 16 → v < 16 → (rt js u = rt js v ↔ CM ls m u v) := fun u v hu hv => (hR1 u v hu hv).trans (CX_n hA.len u v)
  refine J_iconst (x := 0) dX5_partBitsAt_7 (by decide) ?_
  refine J_istore dX5_partBitsAt_8 (by decide) rfl ?_
  refine J_iconst (x := 0) dX5_partBitsAt_10 (by decide) ?_
  refine J_istore dX5_partBitsAt_11 (by decide) rfl ?_
  exact l_X5_partBitsAt hp hM1 hJ1 hR (fun r h1 => hQ r _ h1 hF1 hM1) 17 0 0 (by omega) (by omega) (fun i => by simp)
theorem nI_max {a b : Nat} (ha : a < 2 ^ 31) (hb : b < 2 ^ 31) : (if nI a < nI b then nI b else nI a) = nI (if a < b then b else a) := by
  by_cases q : a < b
  · rw [if_pos q, if_pos ((nI_ltI ha hb).mpr q)]
  · rw [if_neg q, if_neg (fun z => q ((nI_ltI ha hb).mp z))]
theorem nI_min {a b : Nat} (ha : a < 2 ^ 31) (hb : b < 2 ^ 31) : (if nI b < nI a then nI b else nI a) = nI (if b < a then b else a) := by
  by_cases q : b < a
  · rw [if_pos q, if_pos ((nI_ltI hb ha).mpr q)]
  · rw [if_neg q, if_neg (fun z => q ((nI_ltI hb ha).mp z))]
theorem l_X5_greatestPartAt {m : Nat} {js : List (Nat × Nat)} {h1 : g_H} (hM1 : MA h1 a) (hJ1 : JA h1 (a + 1) 16 js) (hps : ∀ p, p < 16 → sumN (fun y => oneI (rt js y = rt js p)) 16 = pSz ls m p) (hQ : ∀ r, r = nI (maxN (pSz ls m) 16) → Q (some (.int r)) h1) : ∀ (t k c : Nat), 16 - k < t → k ≤ 16 → c = maxN (pSz ls m) k → J m_X5_greatestPartAt 4 0 0 0 0 12 [some (.ref a), some (.ref b), some (.int (nI m)), some (.int (nI c)), some (.int (nI k))] [] h1 Q := by
  intro t
  induction t with
  | zero => intro k c ht; omega
  | succ t ih =>
    intro k c ht hk hc
    have hc16 : c ≤ 16 := by rw [hc]; exact maxN_le (pSz_le ls m) k
    have hp16 := pSz_le ls m k
    refine J_iload dX5_greatestPartAt_12 rfl ?_
    refine J_bipush (x := 16) dX5_greatestPartAt_14 (by decide) ?_
    refine J_icmp_ge (tgt := 39) dX5_greatestPartAt_16 (by decide) (fun c16 => ?_) (fun c16 => ?_)
    · refine J_iload_n dX5_greatestPartAt_39 rfl ?_
      exact J_iret dX5_greatestPartAt_40 rfl ⟨rfl, Nat.le_refl _⟩ (hQ _ (by have c16 := (nI_leI (a := 16) (b := k) (by omega) (by omega)).mp c16; rw [hc, show k = 16 by omega]))
    · have c16 : k < 16 := Nat.not_le.mp (fun q => c16 ((nI_leI (a := 16) (b := k) (by omega) (by omega)).mpr q))
      refine J_iload_n dX5_greatestPartAt_19 rfl ?_
      refine J_aload_n dX5_greatestPartAt_20 rfl ?_
      refine J_get (k := 0) dX5_greatestPartAt_21 gc_5 fl_RX5_14 (by decide) hM1.o hM1.bo rfl ?_
      refine J_iload dX5_greatestPartAt_24 rfl ?_
      refine J_callV (As := [_]) (rest := [_]) (M' := m_X2_partSize) dX5_greatestPartAt_26 ml_RX5_57 gm_X2_partSize gv_X2_partSize hJ1.o hJ1.b rfl rfl rfl (Nat.le_of_ble_eq_true rfl) (by decide) ⟨rfl, rfl, by decide, by decide⟩ (s_X2_partSize hJ1 c16 (fun r hr => ?_))
      rw [hps k c16] at hr
      subst hr
      refine J_mmax dX5_greatestPartAt_29 ml_RX5_60 gw_max (by decide) (Nat.le_of_ble_eq_true rfl) ⟨Nat.le_refl _, Nat.le_refl _⟩ ?_
      rw [nI_max (by omega) (by omega)]
      refine J_istore_n dX5_greatestPartAt_32 (by decide) rfl ?_
      refine J_iinc dX5_greatestPartAt_33 rfl (nI_i1 k) (by decide) rfl ?_
      refine J_goto (tgt := 12) dX5_greatestPartAt_36 (by decide) ?_
      exact ih (k + 1) _ (by omega) (by omega) (by rw [hc]; rfl)
theorem s_X5_greatestPartAt {m : Nat} (hm : m < 64) (hM : MA h a) (hA : LA h b ls) (hd : b + 5 ≤ a ∨ a + 9 ≤ b) (hQ : ∀ r h', r = nI (maxN (pSz ls m) 16) → Fr a (a + 9) h h' → MA h' a → Q (some (.int r)) h') : MJ m_X5_greatestPartAt 4 0 0 [.ref a, .ref b, .int (nI m)] h Q := by
  refine MJ_of_J (L := [some (.ref a), some (.ref b), some (.int (nI m)), none, none]) (by decide +kernel) rfl (Nat.le_of_ble_eq_true rfl) rfl ?_
  refine J_aload_n dX5_greatestPartAt_0 rfl ?_
  refine J_aload_n dX5_greatestPartAt_1 rfl ?_
  refine J_iconst (x := -1) dX5_greatestPartAt_2 (by decide) ?_
  refine J_iload_n dX5_greatestPartAt_3 rfl ?_
  refine J_callV (As := [_, _, _]) (rest := []) (M' := m_X5_joinWithout) dX5_greatestPartAt_4 ml_RX5_47 gm_X5_joinWithout gv_X5_joinWithout hM.o hM.bo rfl rfl rfl (Nat.le_of_ble_eq_true rfl) (by decide) ⟨rfl, rfl, by decide, by decide⟩ (s_X5_joinWithout hm hM hA hd (fun h1 js hF1 hM1 hJ1 hR1 => ?_))
  replace hM := hM1
  have hR : ∀ u v : Nat, u < 16 → v < 16 → (rt js u = rt js v ↔ CM ls m u v) := fun u v hu hv => (hR1 u v hu hv).trans (CX_n hA.len u v)
  have hps : ∀ p, p < 16 → sumN (fun y => oneI (rt js y = rt js p)) 16 = pSz ls m p := fun p hp => sumN_c (fun y hy => oneI_c (hR y p hy hp))
  refine J_iconst (x := 0) dX5_greatestPartAt_7 (by decide) ?_
  refine J_istore_n dX5_greatestPartAt_8 (by decide) rfl ?_
  refine J_iconst (x := 0) dX5_greatestPartAt_9 (by decide) ?_
  refine J_istore dX5_greatestPartAt_10 (by decide) rfl ?_
  exact l_X5_greatestPartAt hM1 hJ1 hps (fun r h1 => hQ r _ h1 hF1 hM1) 17 0 0 (by omega) (by omega) rfl
noncomputable def alN (ls : List Lk) (m : Nat) (k : Nat) : Nat := oneI (pSz ls m k = 1)
theorem l_X5_linklessPointsAt {m : Nat} {js : List (Nat × Nat)} {h1 : g_H} (hM1 : MA h1 a) (hJ1 : JA h1 (a + 1) 16 js) (hps : ∀ p, p < 16 → sumN (fun y => oneI (rt js y = rt js p)) 16 = pSz ls m p) (hQ : ∀ r, r = nI (sumN (alN ls m) 16) → Q (some (.int r)) h1) : ∀ (t k c : Nat), 16 - k < t → k ≤ 16 → c = sumN (alN ls m) k → J m_X5_linklessPointsAt 4 0 0 0 0 12 [some (.ref a), some (.ref b), some (.int (nI m)), some (.int (nI c)), some (.int (nI k))] [] h1 Q := by
  intro t
  induction t with
  | zero => intro k c ht; omega
  | succ t ih =>
    intro k c ht hk hc
    have hp16 := pSz_le ls m k
    refine J_iload dX5_linklessPointsAt_12 rfl ?_
    refine J_bipush (x := 16) dX5_linklessPointsAt_14 (by decide) ?_
    refine J_icmp_ge (tgt := 41) dX5_linklessPointsAt_16 (by decide) (fun c16 => ?_) (fun c16 => ?_)
    · refine J_iload_n dX5_linklessPointsAt_41 rfl ?_
      exact J_iret dX5_linklessPointsAt_42 rfl ⟨rfl, Nat.le_refl _⟩ (hQ _ (by have c16 := (nI_leI (a := 16) (b := k) (by omega) (by omega)).mp c16; rw [hc, show k = 16 by omega]))
    · have c16 : k < 16 := Nat.not_le.mp (fun q => c16 ((nI_leI (a := 16) (b := k) (by omega) (by omega)).mpr q))
      refine J_aload_n dX5_linklessPointsAt_19 rfl ?_
      refine J_get (k := 0) dX5_linklessPointsAt_20 gc_5 fl_RX5_14 (by decide) hM1.o hM1.bo rfl ?_
      refine J_iload dX5_linklessPointsAt_23 rfl ?_
      refine J_callV (As := [_]) (rest := []) (M' := m_X2_partSize) dX5_linklessPointsAt_25 ml_RX5_57 gm_X2_partSize gv_X2_partSize hJ1.o hJ1.b rfl rfl rfl (Nat.le_of_ble_eq_true rfl) (by decide) ⟨rfl, rfl, by decide, by decide⟩ (s_X2_partSize hJ1 c16 (fun r hr => ?_))
      rw [hps k c16] at hr
      subst hr
      refine J_iconst (x := 1) dX5_linklessPointsAt_28 (by decide) ?_
      refine J_icmp_ne (tgt := 35) dX5_linklessPointsAt_29 (by decide) (fun c29 => ?_) (fun c29 => ?_)
      · refine J_iinc dX5_linklessPointsAt_35 rfl (nI_i1 k) (by decide) rfl ?_
        refine J_goto (tgt := 12) dX5_linklessPointsAt_38 (by decide) ?_
        exact ih (k + 1) _ (by omega) (by omega) (by rw [hc]; show _ = sumN (alN ls m) k + oneI (pSz ls m k = 1); rw [oneI_f (fun q => c29 (by rw [q]; rfl))]; omega)
      · refine J_iinc dX5_linklessPointsAt_32 rfl (nI_i1 c) (by decide) rfl ?_
        refine J_iinc dX5_linklessPointsAt_35 rfl (nI_i1 k) (by decide) rfl ?_
        refine J_goto (tgt := 12) dX5_linklessPointsAt_38 (by decide) ?_
        exact ih (k + 1) _ (by omega) (by omega) (by rw [hc]; show _ = sumN (alN ls m) k + oneI (pSz ls m k = 1); rw [oneI_t ((nI_eq (b := 1) (by omega) (by omega)).mp c29)])
theorem s_X5_linklessPointsAt {m : Nat} (hm : m < 64) (hM : MA h a) (hA : LA h b ls) (hd : b + 5 ≤ a ∨ a + 9 ≤ b) (hQ : ∀ r h', r = nI (sumN (alN ls m) 16) → Fr a (a + 9) h h' → MA h' a → Q (some (.int r)) h') : MJ m_X5_linklessPointsAt 4 0 0 [.ref a, .ref b, .int (nI m)] h Q := by
  refine MJ_of_J (L := [some (.ref a), some (.ref b), some (.int (nI m)), none, none]) (by decide +kernel) rfl (Nat.le_of_ble_eq_true rfl) rfl ?_
  refine J_aload_n dX5_linklessPointsAt_0 rfl ?_
  refine J_aload_n dX5_linklessPointsAt_1 rfl ?_
  refine J_iconst (x := -1) dX5_linklessPointsAt_2 (by decide) ?_
  refine J_iload_n dX5_linklessPointsAt_3 rfl ?_
  refine J_callV (As := [_, _, _]) (rest := []) (M' := m_X5_joinWithout) dX5_linklessPointsAt_4 ml_RX5_47 gm_X5_joinWithout gv_X5_joinWithout hM.o hM.bo rfl rfl rfl (Nat.le_of_ble_eq_true rfl) (by decide) ⟨rfl, rfl, by decide, by decide⟩ (s_X5_joinWithout hm hM hA hd (fun h1 js hF1 hM1 hJ1 hR1 => ?_))
  replace hM := hM1
  have hR : ∀ u v : Nat, u < 16 → v < 16 → (rt js u = rt js v ↔ CM ls m u v) := fun u v hu hv => (hR1 u v hu hv).trans (CX_n hA.len u v)
  have hps : ∀ p, p < 16 → sumN (fun y => oneI (rt js y = rt js p)) 16 = pSz ls m p := fun p hp => sumN_c (fun y hy => oneI_c (hR y p hy hp))
  refine J_iconst (x := 0) dX5_linklessPointsAt_7 (by decide) ?_
  refine J_istore_n dX5_linklessPointsAt_8 (by decide) rfl ?_
  refine J_iconst (x := 0) dX5_linklessPointsAt_9 (by decide) ?_
  refine J_istore dX5_linklessPointsAt_10 (by decide) rfl ?_
  exact l_X5_linklessPointsAt hM1 hJ1 hps (fun r h1 => hQ r _ h1 hF1 hM1) 17 0 0 (by omega) (by omega) rfl
end SMom
end
section
section SMom2
variable {h h' : g_H} {a b : Nat} {ls : List Lk} {Q : Option Value → g_H → Prop}
theorem s_X5_isNeededAt {m j : Nat} {y : Lk} (hm : m < 64) (hM : MA h a) (hA : LA h b ls) (hd : b + 5 ≤ a ∨ a + 9 ≤ b) (hj : ls[j]? = some y) (hQ : ∀ r h', r = bI (NM ls j m y) → Fr a (a + 9) h h' → MA h' a → Q (some (.int r)) h') : MJ m_X5_isNeededAt 4 0 0 [.ref a, .ref b, .int (nI j), .int (nI m)] h Q := by
  obtain ⟨o1, o2, o3, o4, o5⟩ := hA.ok y (List.mem_of_getElem? hj)
  refine MJ_of_J (L := [some (.ref a), some (.ref b), some (.int (nI j)), some (.int (nI m))]) (by decide +kernel) rfl (Nat.le_of_ble_eq_true rfl) rfl ?_
  refine J_aload_n dX5_isNeededAt_0 rfl ?_
  refine J_iload_n dX5_isNeededAt_1 rfl ?_
  refine J_iload_n dX5_isNeededAt_2 rfl ?_
  refine J_callV (As := [_, _]) (rest := []) (M' := m_X4_livesAt) dX5_isNeededAt_3 ml_RX5_32 gm_X4_livesAt gv_X4_livesAt hA.o hA.b rfl rfl rfl (Nat.le_of_ble_eq_true rfl) (by decide) ⟨rfl, rfl, by decide, by decide⟩ (s_X4_livesAt hA hj (fun r hr => ?_))
  rw [nI_toInt (show m < 2 ^ 31 by omega)] at hr
  refine J_if_ne (tgt := 11) dX5_isNeededAt_6 (by decide) (fun c6 => ?_) (fun c6 => ?_)
  · refine J_aload_n dX5_isNeededAt_11 rfl ?_
    refine J_aload_n dX5_isNeededAt_12 rfl ?_
    refine J_iload_n dX5_isNeededAt_13 rfl ?_
    refine J_iload_n dX5_isNeededAt_14 rfl ?_
    refine J_callV (As := [_, _, _]) (rest := []) (M' := m_X5_joinWithout) dX5_isNeededAt_15 ml_RX5_47 gm_X5_joinWithout gv_X5_joinWithout hM.o hM.bo rfl rfl rfl (Nat.le_of_ble_eq_true rfl) (by decide) ⟨rfl, rfl, by decide, by decide⟩ (s_X5_joinWithout hm hM hA hd (fun h1 js hF1 hM1 hJ1 hR1 => ?_))
    replace hM := hM1
    replace hA := hA.fr hF1 (by omega)
    refine J_aload_n dX5_isNeededAt_18 rfl ?_
    refine J_get (k := 0) dX5_isNeededAt_19 gc_5 fl_RX5_14 (by decide) hM.o hM.bo rfl ?_
    refine J_aload_n dX5_isNeededAt_22 rfl ?_
    refine J_iload_n dX5_isNeededAt_23 rfl ?_
    refine J_callV (As := [_]) (rest := [_]) (M' := m_X4_oneOf) dX5_isNeededAt_24 ml_RX5_36 gm_X4_oneOf gv_X4_oneOf hA.o hA.b rfl rfl rfl (Nat.le_of_ble_eq_true rfl) (by decide) ⟨rfl, rfl, by decide, by decide⟩ (s_X4_oneOf hA hj (fun r1 hr1 => ?_))
    subst hr1
    refine J_aload_n dX5_isNeededAt_27 rfl ?_
    refine J_iload_n dX5_isNeededAt_28 rfl ?_
    refine J_callV (As := [_]) (rest := [_, _]) (M' := m_X4_otherOf) dX5_isNeededAt_29 ml_RX5_40 gm_X4_otherOf gv_X4_otherOf hA.o hA.b rfl rfl rfl (Nat.le_of_ble_eq_true rfl) (by decide) ⟨rfl, rfl, by decide, by decide⟩ (s_X4_otherOf hA hj (fun r1 hr1 => ?_))
    subst hr1
    refine J_callV (As := [_, _]) (rest := []) (M' := m_X2_areJoined) dX5_isNeededAt_32 ml_RX5_51 gm_X2_areJoined gv_X2_areJoined hJ1.o hJ1.b rfl rfl rfl (Nat.le_of_ble_eq_true rfl) (by decide) ⟨rfl, rfl, by decide, by decide⟩ (s_X2_areJoined hJ1 o1 o2 (fun r2 hr2 => ?_))
    rw [bI_c (hR1 _ _ o1 o2)] at hr2
    refine J_if_ne (tgt := 42) dX5_isNeededAt_35 (by decide) (fun c35 => ?_) (fun c35 => ?_)
    · refine J_iconst (x := 0) dX5_isNeededAt_42 (by decide) ?_
      exact J_zret dX5_isNeededAt_43 rfl (by first | exact Or.inl rfl | exact Or.inr rfl) ⟨rfl, Nat.le_refl _⟩ (hQ _ _ (bI_f (fun q => q.2 (nn_of hr2 c35))).symm hF1 hM1)
    · refine J_iconst (x := 1) dX5_isNeededAt_38 (by decide) ?_
      refine J_goto (tgt := 43) dX5_isNeededAt_39 (by decide) ?_
      exact J_zret dX5_isNeededAt_43 rfl (by first | exact Or.inl rfl | exact Or.inr rfl) ⟨rfl, Nat.le_refl _⟩ (hQ _ _ (bI_t ⟨nn_of hr c6, (bI_0 hr2).mp c35⟩).symm hF1 hM1)
  · refine J_iconst (x := 0) dX5_isNeededAt_9 (by decide) ?_
    exact J_zret dX5_isNeededAt_10 rfl (by first | exact Or.inl rfl | exact Or.inr rfl) ⟨rfl, Nat.le_refl _⟩ (hQ _ _ (bI_f (fun q => (bI_0 hr).mp c6 q.1)).symm Fr.rf hM)
noncomputable def nlN (ls : List Lk) (m : Nat) (k : Nat) : Nat := oneI (∃ y, ls[k]? = some y ∧ NM ls k m y)
theorem nlN_of {ls : List Lk} {m k : Nat} {y : Lk} (h : ls[k]? = some y) : nlN ls m k = oneI (NM ls k m y) := oneI_c ⟨fun ⟨z, h1, h2⟩ => by rw [h] at h1; cases h1; exact h2, fun q => ⟨y, h, q⟩⟩
theorem l_X5_neededLinksAt {m : Nat} (hm : m < 64) (hA0 : LA h b ls) (hd : b + 5 ≤ a ∨ a + 9 ≤ b) (hQ : ∀ r h', r = nI (sumN (nlN ls m) ls.length) → Fr a (a + 9) h h' → MA h' a → Q (some (.int r)) h') : ∀ (t k c : Nat) (h1 : g_H), ls.length - k < t → k ≤ ls.length → c = sumN (nlN ls m) k → Fr a (a + 9) h h1 → MA h1 a → J m_X5_neededLinksAt 5 0 0 0 0 5 [some (.ref a), some (.ref b), some (.int (nI m)), some (.int (nI c)), some (.int (nI k))] [] h1 Q := by
  intro t
  induction t with
  | zero => intro k c h1 ht; omega
  | succ t ih =>
    intro k c h1 ht hk hc hF hM
    have hA := hA0.fr hF (by omega)
    have hn := hA.len
    refine J_iload dX5_neededLinksAt_5 rfl ?_
    refine J_aload_n dX5_neededLinksAt_7 rfl ?_
    refine J_callV (As := []) (rest := [_]) (M' := m_X4_size) dX5_neededLinksAt_8 ml_RX5_26 gm_X4_size gv_X4_size hA.o hA.b rfl rfl rfl (Nat.le_of_ble_eq_true rfl) (by decide) ⟨rfl, rfl, by decide, by decide⟩ (s_X4_size hA (fun r hr => ?_))
    subst hr
    refine J_icmp_ge (tgt := 34) dX5_neededLinksAt_11 (by decide) (fun c11 => ?_) (fun c11 => ?_)
    · refine J_iload_n dX5_neededLinksAt_34 rfl ?_
      exact J_iret dX5_neededLinksAt_35 rfl ⟨rfl, Nat.le_refl _⟩ (hQ _ _ (by have c11 := (nI_leI (by omega) (by omega)).mp c11; rw [hc, show k = ls.length by omega]) hF hM)
    · have c11 : k < ls.length := Nat.not_le.mp (fun q => c11 ((nI_leI (by omega) (by omega)).mpr q))
      obtain ⟨y, hy⟩ := get_of c11
      refine J_aload_n dX5_neededLinksAt_14 rfl ?_
      refine J_aload_n dX5_neededLinksAt_15 rfl ?_
      refine J_iload dX5_neededLinksAt_16 rfl ?_
      refine J_iload_n dX5_neededLinksAt_18 rfl ?_
      refine J_callV (As := [_, _, _]) (rest := []) (M' := m_X5_isNeededAt) dX5_neededLinksAt_19 ml_RX5_66 gm_X5_isNeededAt gv_X5_isNeededAt hM.o hM.bo rfl rfl rfl (Nat.le_of_ble_eq_true rfl) (by decide) ⟨rfl, rfl, by decide, by decide⟩ (s_X5_isNeededAt hm hM hA hd hy (fun r h2 hr hF2 hM2 => ?_))
      refine J_if_eq (tgt := 28) dX5_neededLinksAt_22 (by decide) (fun c22 => ?_) (fun c22 => ?_)
      · refine J_iinc dX5_neededLinksAt_28 rfl (nI_i1 k) (by decide) rfl ?_
        refine J_goto (tgt := 5) dX5_neededLinksAt_31 (by decide) ?_
        exact ih (k + 1) _ h2 (by omega) (by omega) (by rw [hc]; show _ = sumN (nlN ls m) k + nlN ls m k; rw [nlN_of hy, oneI_f ((bI_0 hr).mp c22)]; omega) (hF.tr hF2) hM2
      · refine J_iinc dX5_neededLinksAt_25 rfl (nI_i1 c) (by decide) rfl ?_
        refine J_iinc dX5_neededLinksAt_28 rfl (nI_i1 k) (by decide) rfl ?_
        refine J_goto (tgt := 5) dX5_neededLinksAt_31 (by decide) ?_
        exact ih (k + 1) _ h2 (by omega) (by omega) (by rw [hc]; show _ = sumN (nlN ls m) k + nlN ls m k; rw [nlN_of hy, oneI_t (nn_of hr c22)]) (hF.tr hF2) hM2
theorem s_X5_neededLinksAt {m : Nat} (hm : m < 64) (hM : MA h a) (hA : LA h b ls) (hd : b + 5 ≤ a ∨ a + 9 ≤ b) (hQ : ∀ r h', r = nI (sumN (nlN ls m) ls.length) → Fr a (a + 9) h h' → MA h' a → Q (some (.int r)) h') : MJ m_X5_neededLinksAt 5 0 0 [.ref a, .ref b, .int (nI m)] h Q := by
  refine MJ_of_J (L := [some (.ref a), some (.ref b), some (.int (nI m)), none, none]) (by decide +kernel) rfl (Nat.le_of_ble_eq_true rfl) rfl ?_
  refine J_iconst (x := 0) dX5_neededLinksAt_0 (by decide) ?_
  refine J_istore_n dX5_neededLinksAt_1 (by decide) rfl ?_
  refine J_iconst (x := 0) dX5_neededLinksAt_2 (by decide) ?_
  refine J_istore dX5_neededLinksAt_3 (by decide) rfl ?_
  exact l_X5_neededLinksAt hm hA hd hQ (ls.length + 1) 0 0 h (by omega) (by omega) rfl Fr.rf hM
noncomputable def nmN (ls : List Lk) (j : Nat) (y : Lk) (m : Nat) : Nat := oneI (NM ls j m y)
theorem l_X5_neededMomentsOf {j : Nat} {y : Lk} (hj : ls[j]? = some y) (hA0 : LA h b ls) (hd : b + 5 ≤ a ∨ a + 9 ≤ b) (hQ : ∀ r h', r = nI (sumN (nmN ls j y) 64) → Fr a (a + 9) h h' → MA h' a → Q (some (.int r)) h') : ∀ (t k c : Nat) (h1 : g_H), 64 - k < t → k ≤ 64 → c = sumN (nmN ls j y) k → Fr a (a + 9) h h1 → MA h1 a → J m_X5_neededMomentsOf 5 0 0 0 0 5 [some (.ref a), some (.ref b), some (.int (nI j)), some (.int (nI c)), some (.int (nI k))] [] h1 Q := by
  intro t
  induction t with
  | zero => intro k c h1 ht; omega
  | succ t ih =>
    intro k c h1 ht hk hc hF hM
    have hA := hA0.fr hF (by omega)
    have hn := hA.len
    refine J_iload dX5_neededMomentsOf_5 rfl ?_
    refine J_bipush (x := 64) dX5_neededMomentsOf_7 (by decide) ?_
    refine J_icmp_ge (tgt := 32) dX5_neededMomentsOf_9 (by decide) (fun c9 => ?_) (fun c9 => ?_)
    · refine J_iload_n dX5_neededMomentsOf_32 rfl ?_
      exact J_iret dX5_neededMomentsOf_33 rfl ⟨rfl, Nat.le_refl _⟩ (hQ _ _ (by have c9 := (nI_leI (a := 64) (b := k) (by omega) (by omega)).mp c9; rw [hc, show k = 64 by omega]) hF hM)
    · have c9 : k < 64 := Nat.not_le.mp (fun q => c9 ((nI_leI (a := 64) (b := k) (by omega) (by omega)).mpr q))
      refine J_aload_n dX5_neededMomentsOf_12 rfl ?_
      refine J_aload_n dX5_neededMomentsOf_13 rfl ?_
      refine J_iload_n dX5_neededMomentsOf_14 rfl ?_
      refine J_iload dX5_neededMomentsOf_15 rfl ?_
      refine J_callV (As := [_, _, _]) (rest := []) (M' := m_X5_isNeededAt) dX5_neededMomentsOf_17 ml_RX5_66 gm_X5_isNeededAt gv_X5_isNeededAt hM.o hM.bo rfl rfl rfl (Nat.le_of_ble_eq_true rfl) (by decide) ⟨rfl, rfl, by decide, by decide⟩ (s_X5_isNeededAt c9 hM hA hd hj (fun r h2 hr hF2 hM2 => ?_))
      refine J_if_eq (tgt := 26) dX5_neededMomentsOf_20 (by decide) (fun c20 => ?_) (fun c20 => ?_)
      · refine J_iinc dX5_neededMomentsOf_26 rfl (nI_i1 k) (by decide) rfl ?_
        refine J_goto (tgt := 5) dX5_neededMomentsOf_29 (by decide) ?_
        exact ih (k + 1) _ h2 (by omega) (by omega) (by rw [hc]; show _ = sumN (nmN ls j y) k + oneI (NM ls j k y); rw [oneI_f ((bI_0 hr).mp c20)]; omega) (hF.tr hF2) hM2
      · refine J_iinc dX5_neededMomentsOf_23 rfl (nI_i1 c) (by decide) rfl ?_
        refine J_iinc dX5_neededMomentsOf_26 rfl (nI_i1 k) (by decide) rfl ?_
        refine J_goto (tgt := 5) dX5_neededMomentsOf_29 (by decide) ?_
        exact ih (k + 1) _ h2 (by omega) (by omega) (by rw [hc]; show _ = sumN (nmN ls j y) k + oneI (NM ls j k y); rw [oneI_t (nn_of hr c20)]) (hF.tr hF2) hM2
theorem s_X5_neededMomentsOf {j : Nat} {y : Lk} (hj : ls[j]? = some y) (hM : MA h a) (hA : LA h b ls) (hd : b + 5 ≤ a ∨ a + 9 ≤ b) (hQ : ∀ r h', r = nI (sumN (nmN ls j y) 64) → Fr a (a + 9) h h' → MA h' a → Q (some (.int r)) h') : MJ m_X5_neededMomentsOf 5 0 0 [.ref a, .ref b, .int (nI j)] h Q := by
  refine MJ_of_J (L := [some (.ref a), some (.ref b), some (.int (nI j)), none, none]) (by decide +kernel) rfl (Nat.le_of_ble_eq_true rfl) rfl ?_
  refine J_iconst (x := 0) dX5_neededMomentsOf_0 (by decide) ?_
  refine J_istore_n dX5_neededMomentsOf_1 (by decide) rfl ?_
  refine J_iconst (x := 0) dX5_neededMomentsOf_2 (by decide) ?_
  refine J_istore dX5_neededMomentsOf_3 (by decide) rfl ?_
  exact l_X5_neededMomentsOf hj hA hd hQ 65 0 0 h (by omega) (by omega) rfl Fr.rf hM
theorem l1_X5_isOddAt {m : Nat} (hm : m < 64) (hA0 : LA h b ls) (hd : b + 5 ≤ a ∨ a + 9 ≤ b) (K : ∀ h1 js x, Fr a (a + 9) h h1 → MA h1 a → JA h1 (a + 5) 32 js → RP 32 js (DK ls (lvA m) ls.length) → J m_X5_isOddAt 3 0 0 0 0 73 [some (.ref a), some (.ref b), some (.int (nI m)), some (.int x)] [] h1 Q) : ∀ (t k : Nat) (h1 : g_H) (js : List (Nat × Nat)), ls.length - k < t → k ≤ ls.length → Fr a (a + 9) h h1 → MA h1 a → JA h1 (a + 5) 32 js → RP 32 js (DK ls (lvA m) k) → J m_X5_isOddAt 3 0 0 0 0 10 [some (.ref a), some (.ref b), some (.int (nI m)), some (.int (nI k))] [] h1 Q := by
  intro t
  induction t with
  | zero => intro k h1 js ht; omega
  | succ t ih =>
    intro k h1 js ht hk hF hM hJ hR
    have hA := hA0.fr hF (by omega)
    have hn := hA.len
    have hO := hA.ok
    refine J_iload_n dX5_isOddAt_10 rfl ?_
    refine J_aload_n dX5_isOddAt_11 rfl ?_
    refine J_callV (As := []) (rest := [_]) (M' := m_X4_size) dX5_isOddAt_12 ml_RX5_26 gm_X4_size gv_X4_size hA.o hA.b rfl rfl rfl (Nat.le_of_ble_eq_true rfl) (by decide) ⟨rfl, rfl, by decide, by decide⟩ (s_X4_size hA (fun r hr => ?_))
    subst hr
    refine J_icmp_ge (tgt := 73) dX5_isOddAt_15 (by decide) (fun c15 => ?_) (fun c15 => ?_)
    · have c15 := (nI_leI (by omega) (by omega)).mp c15
      exact K h1 js _ hF hM hJ (by rwa [show k = ls.length by omega] at hR)
    · have c15 : k < ls.length := Nat.not_le.mp (fun q => c15 ((nI_leI (by omega) (by omega)).mpr q))
      obtain ⟨y, hy⟩ := get_of c15
      obtain ⟨o1, o2, o3, o4, o5⟩ := hO y (List.mem_of_getElem? hy)
      refine J_aload_n dX5_isOddAt_18 rfl ?_
      refine J_iload_n dX5_isOddAt_19 rfl ?_
      refine J_iload_n dX5_isOddAt_20 rfl ?_
      refine J_callV (As := [_, _]) (rest := []) (M' := m_X4_livesAt) dX5_isOddAt_21 ml_RX5_32 gm_X4_livesAt gv_X4_livesAt hA.o hA.b rfl rfl rfl (Nat.le_of_ble_eq_true rfl) (by decide) ⟨rfl, rfl, by decide, by decide⟩ (s_X4_livesAt hA hy (fun r hr => ?_))
      rw [nI_toInt (show m < 2 ^ 31 by omega)] at hr
      refine J_if_eq (tgt := 67) dX5_isOddAt_24 (by decide) (fun c24 => ?_) (fun c24 => ?_)
      · refine J_iinc dX5_isOddAt_67 rfl (nI_i1 k) (by decide) rfl ?_
        refine J_goto (tgt := 10) dX5_isOddAt_70 (by decide) ?_
        exact ih (k + 1) h1 js (by omega) (by omega) hF hM hJ (by rw [DK_s hy, if_neg (show ¬ lvA m k y = true from (bI_0 hr).mp c24), List.append_nil]; exact hR)
      · refine J_aload_n dX5_isOddAt_27 rfl ?_
        refine J_get (k := 1) dX5_isOddAt_28 gc_5 fl_RX5_20 (by decide) hM.o hM.bo rfl ?_
        refine J_aload_n dX5_isOddAt_31 rfl ?_
        refine J_iload_n dX5_isOddAt_32 rfl ?_
        refine J_callV (As := [_]) (rest := [_]) (M' := m_X4_oneOf) dX5_isOddAt_33 ml_RX5_36 gm_X4_oneOf gv_X4_oneOf hA.o hA.b rfl rfl rfl (Nat.le_of_ble_eq_true rfl) (by decide) ⟨rfl, rfl, by decide, by decide⟩ (s_X4_oneOf hA hy (fun r1 hr1 => ?_))
        subst hr1
        refine J_bipush (x := 16) dX5_isOddAt_36 (by decide) ?_
        refine J_aload_n dX5_isOddAt_38 rfl ?_
        refine J_iload_n dX5_isOddAt_39 rfl ?_
        refine J_callV (As := [_]) (rest := [_, _, _]) (M' := m_X4_otherOf) dX5_isOddAt_40 ml_RX5_40 gm_X4_otherOf gv_X4_otherOf hA.o hA.b rfl rfl rfl (Nat.le_of_ble_eq_true rfl) (by decide) ⟨rfl, rfl, by decide, by decide⟩ (s_X4_otherOf hA hy (fun r1 hr1 => ?_))
        subst hr1
        refine J_iadd dX5_isOddAt_43 ?_
        rw [show (16 : Int32) + nI y.2.1 = nI (16 + y.2.1) from nI_add 16 _]
        refine J_callV (As := [_, _]) (rest := []) (M' := m_X2_join) dX5_isOddAt_44 ml_RX5_43 gm_X2_join gv_X2_join hJ.o hJ.b rfl rfl rfl (Nat.le_of_ble_eq_true rfl) (by decide) ⟨rfl, rfl, by decide, by decide⟩ (s_X2_join hJ (show y.1 < 32 by omega) (show 16 + y.2.1 < 32 by omega) (fun h2 js2 hF2 hJ2 hN2 => ?_))
        have w2 := JN.w hJ.w (by omega) (by omega) hN2
        have hR2 := RP.join hJ.w hR (show y.1 < 32 by omega) (show 16 + y.2.1 < 32 by omega) (DK_lt hO) hN2
        replace hM := hM.s2 hF2 hJ2
        replace hJ := hJ2
        replace hA := hA.fr hF2 (by omega)
        replace hF := hF.tr (hF2.mono (by omega) (by omega))
        refine J_aload_n dX5_isOddAt_47 rfl ?_
        refine J_get (k := 1) dX5_isOddAt_48 gc_5 fl_RX5_20 (by decide) hM.o hM.bo rfl ?_
        refine J_bipush (x := 16) dX5_isOddAt_51 (by decide) ?_
        refine J_aload_n dX5_isOddAt_53 rfl ?_
        refine J_iload_n dX5_isOddAt_54 rfl ?_
        refine J_callV (As := [_]) (rest := [_, _]) (M' := m_X4_oneOf) dX5_isOddAt_55 ml_RX5_36 gm_X4_oneOf gv_X4_oneOf hA.o hA.b rfl rfl rfl (Nat.le_of_ble_eq_true rfl) (by decide) ⟨rfl, rfl, by decide, by decide⟩ (s_X4_oneOf hA hy (fun r1 hr1 => ?_))
        subst hr1
        refine J_iadd dX5_isOddAt_58 ?_
        rw [show (16 : Int32) + nI y.1 = nI (16 + y.1) from nI_add 16 _]
        refine J_aload_n dX5_isOddAt_59 rfl ?_
        refine J_iload_n dX5_isOddAt_60 rfl ?_
        refine J_callV (As := [_]) (rest := [_, _]) (M' := m_X4_otherOf) dX5_isOddAt_61 ml_RX5_40 gm_X4_otherOf gv_X4_otherOf hA.o hA.b rfl rfl rfl (Nat.le_of_ble_eq_true rfl) (by decide) ⟨rfl, rfl, by decide, by decide⟩ (s_X4_otherOf hA hy (fun r1 hr1 => ?_))
        subst hr1
        refine J_callV (As := [_, _]) (rest := []) (M' := m_X2_join) dX5_isOddAt_64 ml_RX5_43 gm_X2_join gv_X2_join hJ.o hJ.b rfl rfl rfl (Nat.le_of_ble_eq_true rfl) (by decide) ⟨rfl, rfl, by decide, by decide⟩ (s_X2_join hJ (show 16 + y.1 < 32 by omega) (show y.2.1 < 32 by omega) (fun h3 js3 hF3 hJ3 hN3 => ?_))
        refine J_iinc dX5_isOddAt_67 rfl (nI_i1 k) (by decide) rfl ?_
        refine J_goto (tgt := 10) dX5_isOddAt_70 (by decide) ?_
        have hR3 := RP.join w2 hR2 (show 16 + y.1 < 32 by omega) (show y.2.1 < 32 by omega) (fun e he => by rcases List.mem_append.mp he with he | he; exact DK_lt hO e he; rw [List.mem_singleton.mp he]; exact ⟨by show y.1 < 32; omega, by show 16 + y.2.1 < 32; omega⟩) hN3
        exact ih (k + 1) h3 js3 (by omega) (by omega) (hF.tr (hF3.mono (by omega) (by omega))) (hM.s2 hF3 hJ3) hJ3 (by rw [DK_s hy, if_pos (show lvA m k y = true from nn_of hr c24)]; rw [List.append_assoc] at hR3; exact hR3)
theorem l2_X5_isOddAt {m : Nat} {js : List (Nat × Nat)} {h1 : g_H} (hM : MA h1 a) (hJ : JA h1 (a + 5) 32 js) (hR : RP 32 js (DK ls (lvA m) ls.length)) (hQ : ∀ r, r = bI (OM ls m) → Q (some (.int r)) h1) : ∀ (t k : Nat), 16 - k < t → k ≤ 16 → (∀ x, x < k → ¬ Cn (DK ls (lvA m) ls.length) x (16 + x)) → J m_X5_isOddAt 3 0 0 0 0 75 [some (.ref a), some (.ref b), some (.int (nI m)), some (.int (nI k))] [] h1 Q := by
  intro t
  induction t with
  | zero => intro k ht; omega
  | succ t ih =>
    intro k ht hk hn
    refine J_iload_n dX5_isOddAt_75 rfl ?_
    refine J_bipush (x := 16) dX5_isOddAt_76 (by decide) ?_
    refine J_icmp_ge (tgt := 104) dX5_isOddAt_78 (by decide) (fun c78 => ?_) (fun c78 => ?_)
    · refine J_iconst (x := 0) dX5_isOddAt_104 (by decide) ?_
      exact J_zret dX5_isOddAt_105 rfl (by first | exact Or.inl rfl | exact Or.inr rfl) ⟨rfl, Nat.le_refl _⟩ (hQ _ (bI_f (fun ⟨x, hx, q⟩ => hn x (by have c78 := (nI_leI (a := 16) (b := k) (by omega) (by omega)).mp c78; omega) q)).symm)
    · have c78 : k < 16 := Nat.not_le.mp (fun q => c78 ((nI_leI (a := 16) (b := k) (by omega) (by omega)).mpr q))
      refine J_aload_n dX5_isOddAt_81 rfl ?_
      refine J_get (k := 1) dX5_isOddAt_82 gc_5 fl_RX5_20 (by decide) hM.o hM.bo rfl ?_
      refine J_iload_n dX5_isOddAt_85 rfl ?_
      refine J_bipush (x := 16) dX5_isOddAt_86 (by decide) ?_
      refine J_iload_n dX5_isOddAt_88 rfl ?_
      refine J_iadd dX5_isOddAt_89 ?_
      rw [show (16 : Int32) + nI k = nI (16 + k) from nI_add 16 _]
      refine J_callV (As := [_, _]) (rest := []) (M' := m_X2_areJoined) dX5_isOddAt_90 ml_RX5_51 gm_X2_areJoined gv_X2_areJoined hJ.o hJ.b rfl rfl rfl (Nat.le_of_ble_eq_true rfl) (by decide) ⟨rfl, rfl, by decide, by decide⟩ (s_X2_areJoined hJ (show k < 32 by omega) (show 16 + k < 32 by omega) (fun r hr => ?_))
      rw [bI_c (hR k (16 + k) (by omega) (by omega))] at hr
      refine J_if_eq (tgt := 98) dX5_isOddAt_93 (by decide) (fun c93 => ?_) (fun c93 => ?_)
      · refine J_iinc dX5_isOddAt_98 rfl (nI_i1 k) (by decide) rfl ?_
        refine J_goto (tgt := 75) dX5_isOddAt_101 (by decide) ?_
        exact ih (k + 1) (by omega) (by omega) (fun x hx q => by rcases Nat.lt_succ_iff_lt_or_eq.mp hx with z | z; exact hn x z q; subst z; exact (bI_0 hr).mp c93 q)
      · refine J_iconst (x := 1) dX5_isOddAt_96 (by decide) ?_
        exact J_zret dX5_isOddAt_97 rfl (by first | exact Or.inl rfl | exact Or.inr rfl) ⟨rfl, Nat.le_refl _⟩ (hQ _ (bI_t ⟨k, c78, nn_of hr c93⟩).symm)
theorem s_X5_isOddAt {m : Nat} (hm : m < 64) (hM : MA h a) (hA : LA h b ls) (hd : b + 5 ≤ a ∨ a + 9 ≤ b) (hQ : ∀ r h', r = bI (OM ls m) → Fr a (a + 9) h h' → MA h' a → Q (some (.int r)) h') : MJ m_X5_isOddAt 3 0 0 [.ref a, .ref b, .int (nI m)] h Q := by
  obtain ⟨js0, hJ⟩ := hM.2.2.2
  refine MJ_of_J (L := [some (.ref a), some (.ref b), some (.int (nI m)), none]) (by decide +kernel) rfl (Nat.le_of_ble_eq_true rfl) rfl ?_
  refine J_aload_n dX5_isOddAt_0 rfl ?_
  refine J_get (k := 1) dX5_isOddAt_1 gc_5 fl_RX5_20 (by decide) hM.o hM.bo rfl ?_
  refine J_iconst (x := 0) dX5_isOddAt_4 (by decide) ?_
  refine J_callV (As := [_]) (rest := []) (M' := m_X2_takeBackTo) dX5_isOddAt_5 ml_RX5_23 gm_X2_takeBackTo gv_X2_takeBackTo hJ.o hJ.b rfl rfl rfl (Nat.le_of_ble_eq_true rfl) (by decide) ⟨rfl, rfl, by decide, by decide⟩ (s_X2_takeBackTo (n := 0) hJ (Nat.zero_le _) (fun h1 hF1 hJ1 => ?_))
  refine J_iconst (x := 0) dX5_isOddAt_8 (by decide) ?_
  refine J_istore_n dX5_isOddAt_9 (by decide) rfl ?_
  rw [Nat.sub_zero, List.drop_length] at hJ1
  refine l1_X5_isOddAt hm hA hd (fun h2 js x hF2 hM2 hJ2 hR2 => ?_) (ls.length + 1) 0 h1 [] (by omega) (by omega) (hF1.mono (by omega) (by omega)) (hM.s2 hF1 hJ1) hJ1 (RP.nil 32)
  refine J_iconst (x := 0) dX5_isOddAt_73 (by decide) ?_
  refine J_istore_n dX5_isOddAt_74 (by decide) rfl ?_
  exact l2_X5_isOddAt hM2 hJ2 hR2 (fun r hr => hQ r _ hr hF2 hM2) 17 0 (by omega) (by omega) (fun x hx => by omega)
noncomputable def omN (ls : List Lk) (m : Nat) : Nat := oneI (OM ls m)
theorem l_X5_oddMoments (hA0 : LA h b ls) (hd : b + 5 ≤ a ∨ a + 9 ≤ b) (hQ : ∀ r h', r = nI (sumN (omN ls) 64) → Fr a (a + 9) h h' → MA h' a → Q (some (.int r)) h') : ∀ (t k c : Nat) (h1 : g_H), 64 - k < t → k ≤ 64 → c = sumN (omN ls) k → Fr a (a + 9) h h1 → MA h1 a → J m_X5_oddMoments 4 0 0 0 0 4 [some (.ref a), some (.ref b), some (.int (nI c)), some (.int (nI k))] [] h1 Q := by
  intro t
  induction t with
  | zero => intro k c h1 ht; omega
  | succ t ih =>
    intro k c h1 ht hk hc hF hM
    have hA := hA0.fr hF (by omega)
    have hn := hA.len
    refine J_iload_n dX5_oddMoments_4 rfl ?_
    refine J_bipush (x := 64) dX5_oddMoments_5 (by decide) ?_
    refine J_icmp_ge (tgt := 28) dX5_oddMoments_7 (by decide) (fun c7 => ?_) (fun c7 => ?_)
    · refine J_iload_n dX5_oddMoments_28 rfl ?_
      exact J_iret dX5_oddMoments_29 rfl ⟨rfl, Nat.le_refl _⟩ (hQ _ _ (by have c7 := (nI_leI (a := 64) (b := k) (by omega) (by omega)).mp c7; rw [hc, show k = 64 by omega]) hF hM)
    · have c7 : k < 64 := Nat.not_le.mp (fun q => c7 ((nI_leI (a := 64) (b := k) (by omega) (by omega)).mpr q))
      refine J_aload_n dX5_oddMoments_10 rfl ?_
      refine J_aload_n dX5_oddMoments_11 rfl ?_
      refine J_iload_n dX5_oddMoments_12 rfl ?_
      refine J_callV (As := [_, _]) (rest := []) (M' := m_X5_isOddAt) dX5_oddMoments_13 ml_RX5_70 gm_X5_isOddAt gv_X5_isOddAt hM.o hM.bo rfl rfl rfl (Nat.le_of_ble_eq_true rfl) (by decide) ⟨rfl, rfl, by decide, by decide⟩ (s_X5_isOddAt c7 hM hA hd (fun r h2 hr hF2 hM2 => ?_))
      refine J_if_eq (tgt := 22) dX5_oddMoments_16 (by decide) (fun c16 => ?_) (fun c16 => ?_)
      · refine J_iinc dX5_oddMoments_22 rfl (nI_i1 k) (by decide) rfl ?_
        refine J_goto (tgt := 4) dX5_oddMoments_25 (by decide) ?_
        exact ih (k + 1) _ h2 (by omega) (by omega) (by rw [hc]; show _ = sumN (omN ls) k + oneI (OM ls k); rw [oneI_f ((bI_0 hr).mp c16)]; omega) (hF.tr hF2) hM2
      · refine J_iinc dX5_oddMoments_19 rfl (nI_i1 c) (by decide) rfl ?_
        refine J_iinc dX5_oddMoments_22 rfl (nI_i1 k) (by decide) rfl ?_
        refine J_goto (tgt := 4) dX5_oddMoments_25 (by decide) ?_
        exact ih (k + 1) _ h2 (by omega) (by omega) (by rw [hc]; show _ = sumN (omN ls) k + oneI (OM ls k); rw [oneI_t (nn_of hr c16)]) (hF.tr hF2) hM2
theorem s_X5_oddMoments (hM : MA h a) (hA : LA h b ls) (hd : b + 5 ≤ a ∨ a + 9 ≤ b) (hQ : ∀ r h', r = nI (sumN (omN ls) 64) → Fr a (a + 9) h h' → MA h' a → Q (some (.int r)) h') : MJ m_X5_oddMoments 4 0 0 [.ref a, .ref b] h Q := by
  refine MJ_of_J (L := [some (.ref a), some (.ref b), none, none]) (by decide +kernel) rfl (Nat.le_of_ble_eq_true rfl) rfl ?_
  refine J_iconst (x := 0) dX5_oddMoments_0 (by decide) ?_
  refine J_istore_n dX5_oddMoments_1 (by decide) rfl ?_
  refine J_iconst (x := 0) dX5_oddMoments_2 (by decide) ?_
  refine J_istore_n dX5_oddMoments_3 (by decide) rfl ?_
  exact l_X5_oddMoments hA hd hQ 65 0 0 h (by omega) (by omega) rfl Fr.rf hM
theorem l_X5_mostParts (hA0 : LA h b ls) (hd : b + 5 ≤ a ∨ a + 9 ≤ b) (hQ : ∀ r h', r = nI (maxN (pts ls) 64) → Fr a (a + 9) h h' → MA h' a → Q (some (.int r)) h') : ∀ (t k c : Nat) (h1 : g_H), 64 - k < t → k ≤ 64 → c = maxN (pts ls) k → Fr a (a + 9) h h1 → MA h1 a → J m_X5_mostParts 5 0 0 0 0 4 [some (.ref a), some (.ref b), some (.int (nI c)), some (.int (nI k))] [] h1 Q := by
  intro t
  induction t with
  | zero => intro k c h1 ht; omega
  | succ t ih =>
    intro k c h1 ht hk hc hF hM
    have hA := hA0.fr hF (by omega)
    have hn := hA.len
    have hc16 : c ≤ 16 := by rw [hc]; exact maxN_le (fun m => nfst_le (CM ls m) 16) k
    refine J_iload_n dX5_mostParts_4 rfl ?_
    refine J_bipush (x := 64) dX5_mostParts_5 (by decide) ?_
    refine J_icmp_ge (tgt := 27) dX5_mostParts_7 (by decide) (fun c7 => ?_) (fun c7 => ?_)
    · refine J_iload_n dX5_mostParts_27 rfl ?_
      exact J_iret dX5_mostParts_28 rfl ⟨rfl, Nat.le_refl _⟩ (hQ _ _ (by have c7 := (nI_leI (a := 64) (b := k) (by omega) (by omega)).mp c7; rw [hc, show k = 64 by omega]) hF hM)
    · have c7 : k < 64 := Nat.not_le.mp (fun q => c7 ((nI_leI (a := 64) (b := k) (by omega) (by omega)).mpr q))
      refine J_iload_n dX5_mostParts_10 rfl ?_
      refine J_aload_n dX5_mostParts_11 rfl ?_
      refine J_aload_n dX5_mostParts_12 rfl ?_
      refine J_iload_n dX5_mostParts_13 rfl ?_
      refine J_callV (As := [_, _]) (rest := [_]) (M' := m_X5_partsAt) dX5_mostParts_14 ml_RX5_74 gm_X5_partsAt gv_X5_partsAt hM.o hM.bo rfl rfl rfl (Nat.le_of_ble_eq_true rfl) (by decide) ⟨rfl, rfl, by decide, by decide⟩ (s_X5_partsAt c7 hM hA hd (fun r h2 hr hF2 hM2 => ?_))
      subst hr
      have hp16 : pts ls k ≤ 16 := nfst_le _ 16
      refine J_mmax dX5_mostParts_17 ml_RX5_60 gw_max (by decide) (Nat.le_of_ble_eq_true rfl) ⟨Nat.le_refl _, Nat.le_refl _⟩ ?_
      rw [nI_max (by omega) (by omega)]
      refine J_istore_n dX5_mostParts_20 (by decide) rfl ?_
      refine J_iinc dX5_mostParts_21 rfl (nI_i1 k) (by decide) rfl ?_
      refine J_goto (tgt := 4) dX5_mostParts_24 (by decide) ?_
      exact ih (k + 1) _ h2 (by omega) (by omega) (by rw [hc]; rfl) (hF.tr hF2) hM2
theorem s_X5_mostParts (hM : MA h a) (hA : LA h b ls) (hd : b + 5 ≤ a ∨ a + 9 ≤ b) (hQ : ∀ r h', r = nI (maxN (pts ls) 64) → Fr a (a + 9) h h' → MA h' a → Q (some (.int r)) h') : MJ m_X5_mostParts 5 0 0 [.ref a, .ref b] h Q := by
  refine MJ_of_J (L := [some (.ref a), some (.ref b), none, none]) (by decide +kernel) rfl (Nat.le_of_ble_eq_true rfl) rfl ?_
  refine J_iconst (x := 0) dX5_mostParts_0 (by decide) ?_
  refine J_istore_n dX5_mostParts_1 (by decide) rfl ?_
  refine J_iconst (x := 0) dX5_mostParts_2 (by decide) ?_
  refine J_istore_n dX5_mostParts_3 (by decide) rfl ?_
  exact l_X5_mostParts hA hd hQ 65 0 0 h (by omega) (by omega) rfl Fr.rf hM
theorem l_X5_fewestParts (hA0 : LA h b ls) (hd : b + 5 ≤ a ∨ a + 9 ≤ b) (hQ : ∀ r h', r = nI (minN (pts ls) 64) → Fr a (a + 9) h h' → MA h' a → Q (some (.int r)) h') : ∀ (t k c : Nat) (h1 : g_H), 64 - k < t → k ≤ 64 → c = minN (pts ls) k → Fr a (a + 9) h h1 → MA h1 a → J m_X5_fewestParts 5 0 0 0 0 5 [some (.ref a), some (.ref b), some (.int (nI c)), some (.int (nI k))] [] h1 Q := by
  intro t
  induction t with
  | zero => intro k c h1 ht; omega
  | succ t ih =>
    intro k c h1 ht hk hc hF hM
    have hA := hA0.fr hF (by omega)
    have hn := hA.len
    have hc16 : c ≤ 16 := by rw [hc]; exact minN_le (pts ls) k
    refine J_iload_n dX5_fewestParts_5 rfl ?_
    refine J_bipush (x := 64) dX5_fewestParts_6 (by decide) ?_
    refine J_icmp_ge (tgt := 28) dX5_fewestParts_8 (by decide) (fun c8 => ?_) (fun c8 => ?_)
    · refine J_iload_n dX5_fewestParts_28 rfl ?_
      exact J_iret dX5_fewestParts_29 rfl ⟨rfl, Nat.le_refl _⟩ (hQ _ _ (by have c8 := (nI_leI (a := 64) (b := k) (by omega) (by omega)).mp c8; rw [hc, show k = 64 by omega]) hF hM)
    · have c8 : k < 64 := Nat.not_le.mp (fun q => c8 ((nI_leI (a := 64) (b := k) (by omega) (by omega)).mpr q))
      refine J_iload_n dX5_fewestParts_11 rfl ?_
      refine J_aload_n dX5_fewestParts_12 rfl ?_
      refine J_aload_n dX5_fewestParts_13 rfl ?_
      refine J_iload_n dX5_fewestParts_14 rfl ?_
      refine J_callV (As := [_, _]) (rest := [_]) (M' := m_X5_partsAt) dX5_fewestParts_15 ml_RX5_74 gm_X5_partsAt gv_X5_partsAt hM.o hM.bo rfl rfl rfl (Nat.le_of_ble_eq_true rfl) (by decide) ⟨rfl, rfl, by decide, by decide⟩ (s_X5_partsAt c8 hM hA hd (fun r h2 hr hF2 hM2 => ?_))
      subst hr
      have hp16 : pts ls k ≤ 16 := nfst_le _ 16
      refine J_mmin dX5_fewestParts_18 ml_RX5_78 gw_min (by decide) (Nat.le_of_ble_eq_true rfl) ⟨Nat.le_refl _, Nat.le_refl _⟩ ?_
      rw [nI_min (by omega) (by omega)]
      refine J_istore_n dX5_fewestParts_21 (by decide) rfl ?_
      refine J_iinc dX5_fewestParts_22 rfl (nI_i1 k) (by decide) rfl ?_
      refine J_goto (tgt := 5) dX5_fewestParts_25 (by decide) ?_
      exact ih (k + 1) _ h2 (by omega) (by omega) (by rw [hc]; rfl) (hF.tr hF2) hM2
theorem s_X5_fewestParts (hM : MA h a) (hA : LA h b ls) (hd : b + 5 ≤ a ∨ a + 9 ≤ b) (hQ : ∀ r h', r = nI (minN (pts ls) 64) → Fr a (a + 9) h h' → MA h' a → Q (some (.int r)) h') : MJ m_X5_fewestParts 5 0 0 [.ref a, .ref b] h Q := by
  refine MJ_of_J (L := [some (.ref a), some (.ref b), none, none]) (by decide +kernel) rfl (Nat.le_of_ble_eq_true rfl) rfl ?_
  refine J_bipush (x := 16) dX5_fewestParts_0 (by decide) ?_
  refine J_istore_n dX5_fewestParts_2 (by decide) rfl ?_
  refine J_iconst (x := 0) dX5_fewestParts_3 (by decide) ?_
  refine J_istore_n dX5_fewestParts_4 (by decide) rfl ?_
  exact l_X5_fewestParts hA hd hQ 65 0 16 h (by omega) (by omega) rfl Fr.rf hM
end SMom2
end
section
/-! the way by halves -/
theorem sb_f1 : ∀ m, m < 64 → ∀ d, d < 6 → sb (sb m (d + 1)) d = sb m d := by decide +kernel
theorem sb_f2 : ∀ m, m < 64 → ∀ d, d < 6 → sb m d ≤ sb m (d + 1) ∧ sb m (d + 1) + sl (d + 1) ≤ sb m d + sl d := by decide +kernel
theorem sb_f3 : ∀ m, m < 64 → ∀ d, d < 7 → sb m d = m → ∀ i, i < 7 → d ≤ i → sb m i = m := by decide +kernel
theorem sb_f4 : ∀ m, m < 63 → ∀ i, i < 7 → sb (m + 1) i ≠ m + 1 → sb (m + 1) i = sb m i := by decide +kernel
theorem sb_f6 : ∀ m, m < 64 → ∀ d, d < 7 → sb (sb m d) d = sb m d := by decide +kernel
theorem sb_0 : ∀ m, m < 64 → sb m 0 = 0 := by decide +kernel
def cvP (m d : Nat) (_ : Nat) (y : Lk) : Bool := cvB (sb m d) (sl d) y
def ldP (b d : Nat) (_ : Nat) (y : Lk) : Bool := ldB b d y
/-- the pairs of the links that live at all of a span -/
def CV (ls : List Lk) (m d : Nat) : List (Nat × Nat) := EK ls (cvP m d) ls.length
/-- the pairs of those that live at all of the span around it -/
def CU (ls : List Lk) (m : Nat) : Nat → List (Nat × Nat)
  | 0 => []
  | d + 1 => CV ls m d
noncomputable def pS (ls : List Lk) (m d : Nat) : Nat := nfst (Cn (CV ls m d)) 16
noncomputable def pU (ls : List Lk) (m d : Nat) : Nat := nfst (Cn (CU ls m d)) 16
theorem CV_ld {ls : List Lk} {m d : Nat} (hm : m < 64) (hd : d < 7) (e : Nat × Nat) : e ∈ CU ls m d ++ EK ls (ldP (sb m d) d) ls.length ↔ e ∈ CV ls m d := by
  rw [List.mem_append]
  unfold CV
  rw [EK_mem, EK_mem]
  cases d with
  | zero =>
    constructor
    · rintro (h | ⟨k, y, h1, h2, h3, h4⟩)
      · simp [CU] at h
      · refine ⟨k, y, h1, h2, ?_, h4⟩
        have h3 : (cvB (sb m 0) (sl 0) y && (decide (0 = 0) || !cvB (sb (sb m 0) (0 - 1)) (sl (0 - 1)) y)) = true := h3
        rw [Bool.and_eq_true] at h3
        exact h3.1
    · rintro ⟨k, y, h1, h2, h3, h4⟩
      refine Or.inr ⟨k, y, h1, h2, ?_, h4⟩
      show (cvB (sb m 0) (sl 0) y && (decide (0 = 0) || !cvB (sb (sb m 0) (0 - 1)) (sl (0 - 1)) y)) = true
      rw [show cvB (sb m 0) (sl 0) y = true from h3]; rfl
  | succ d =>
    have f1 := sb_f1 m hm d (by omega)
    have f2 := sb_f2 m hm d (by omega)
    have hmono : ∀ y : Lk, cvB (sb m d) (sl d) y = true → cvB (sb m (d + 1)) (sl (d + 1)) y = true := by
      intro y hy
      rw [cvB_iff] at hy ⊢
      omega
    have eL : ∀ y : Lk, ldB (sb m (d + 1)) (d + 1) y = (cvB (sb m (d + 1)) (sl (d + 1)) y && !cvB (sb m d) (sl d) y) := by
      intro y
      show (cvB (sb m (d + 1)) (sl (d + 1)) y && (decide (d + 1 = 0) || !cvB (sb (sb m (d + 1)) (d + 1 - 1)) (sl (d + 1 - 1)) y)) = _
      rw [Nat.add_sub_cancel, f1]
      simp
    show (e ∈ EK ls (cvP m d) ls.length ∨ _) ↔ _
    rw [EK_mem]
    constructor
    · rintro (⟨k, y, h1, h2, h3, h4⟩ | ⟨k, y, h1, h2, h3, h4⟩)
      · exact ⟨k, y, h1, h2, hmono y h3, h4⟩
      · have h3 : ldB (sb m (d + 1)) (d + 1) y = true := h3
        rw [eL, Bool.and_eq_true] at h3
        exact ⟨k, y, h1, h2, h3.1, h4⟩
    · rintro ⟨k, y, h1, h2, h3, h4⟩
      have h3 : cvB (sb m (d + 1)) (sl (d + 1)) y = true := h3
      rcases Classical.em (cvB (sb m d) (sl d) y = true) with q | q
      · exact Or.inl ⟨k, y, h1, h2, q, h4⟩
      · refine Or.inr ⟨k, y, h1, h2, ?_, h4⟩
        show ldB (sb m (d + 1)) (d + 1) y = true
        rw [eL, h3]
        simpa using q
theorem RP.set {N : Nat} {js E F : List (Nat × Nat)} (h : RP N js E) (hs : ∀ e, e ∈ E ↔ e ∈ F) : RP N js F := fun x y hx hy => (h x y hx hy).trans (Cn.set hs x y)
theorem RP.len {js E : List (Nat × Nat)} (w : WJ 16 js) (h : RP 16 js E) : nfst (Cn E) 16 + js.length = 16 := by
  have h1 := nfst_rt w
  have h2 : nfst (fun x y => rt js x = rt js y) 16 = nfst (Cn E) 16 := nfst_c h
  omega
theorem WJ.drop {N : Nat} : ∀ {js : List (Nat × Nat)} (n : Nat), WJ N js → WJ N (js.drop n)
  | [], n, _ => by simp [WJ]
  | p :: js, 0, w => w
  | p :: js, n + 1, w => WJ.drop (js := js) n w.1
def HR (h : g_H) (a : Nat) (x1 x2 x3 x4 x5 : Int32) (g : Nat → Int32) : Prop := (1 ≤ a ∧ a + 5 ≤ h.2) ∧ h.1 a = .inr (0, [.ref (a + 1), .ref (a + 5), .int x1, .int x2, .int x3, .int x4, .int x5]) ∧ h.1 (a + 5) = .inl (0, 7, .inl g)
section SWay
variable {h h' : g_H} {a b : Nat} {ls : List Lk} {x1 x2 x3 x4 x5 : Int32} {g : Nat → Int32} {js : List (Nat × Nat)} {Q : Option Value → g_H → Prop}
theorem HR.o (p : HR h a x1 x2 x3 x4 x5 g) : h.1 a = .inr (0, [.ref (a + 1), .ref (a + 5), .int x1, .int x2, .int x3, .int x4, .int x5]) := p.2.1
theorem HR.bo (p : HR h a x1 x2 x3 x4 x5 g) : 1 ≤ a ∧ a ≤ h.2 := ⟨p.1.1, by have := p.1.2; omega⟩
theorem HR.c (p : HR h a x1 x2 x3 x4 x5 g) : h.1 (a + 5) = .inl (0, 7, .inl g) := p.2.2
theorem HR.bc (p : HR h a x1 x2 x3 x4 x5 g) : 1 ≤ a + 5 ∧ a + 5 ≤ h.2 := ⟨by omega, p.1.2⟩
theorem HR.fr {lo hi : Nat} (p : HR h a x1 x2 x3 x4 x5 g) (F : Fr lo hi h h') (q : a + 6 ≤ lo ∨ hi ≤ a ∨ (a + 1 ≤ lo ∧ hi ≤ a + 5)) : HR h' a x1 x2 x3 x4 x5 g :=
  ⟨⟨p.1.1, by rw [F.1]; exact p.1.2⟩, (F.2 a (by omega)).trans p.o, (F.2 (a + 5) (by omega)).trans p.c⟩
theorem HR.so (p : HR h a x1 x2 x3 x4 x5 g) (y1 y2 y3 y4 y5 : Int32) : HR (g_up h a (.inr (0, [.ref (a + 1), .ref (a + 5), .int y1, .int y2, .int y3, .int y4, .int y5]))) a y1 y2 y3 y4 y5 g :=
  ⟨p.1, g_up_s h _ _, (g_up_n h _ (by omega)).trans p.c⟩
theorem HR.sc (p : HR h a x1 x2 x3 x4 x5 g) (f : Nat → Int32) : HR (g_up h (a + 5) (.inl (0, 7, .inl f))) a x1 x2 x3 x4 x5 f :=
  ⟨p.1, (g_up_n h _ (by omega)).trans p.o, g_up_s h _ _⟩
theorem up_fr (h : g_H) (k : Nat) (c : g_C) : Fr k (k + 1) h (g_up h k c) := Fr.rf.up (Nat.le_refl _) (Nat.lt_succ_self _)
theorem s_X0_laidHere (hP : HR h a x1 x2 x3 x4 x5 g) (hQ : Q (some (.int x1)) h) : MJ m_X0_laidHere 0 0 0 [.ref a] h Q := by
  refine MJ_of_J (L := [some (.ref a)]) (by decide +kernel) rfl (Nat.le_of_ble_eq_true rfl) rfl ?_
  refine J_aload_n dX0_laidHere_0 rfl ?_
  refine J_get (k := 2) dX0_laidHere_1 gc_0 fl_RX0_24 (by decide) hP.o hP.bo rfl ?_
  exact J_iret dX0_laidHere_4 rfl ⟨rfl, Nat.le_refl _⟩ (hQ)
theorem s_X0_madeHere (hP : HR h a x1 x2 x3 x4 x5 g) (hQ : Q (some (.int x2)) h) : MJ m_X0_madeHere 0 0 0 [.ref a] h Q := by
  refine MJ_of_J (L := [some (.ref a)]) (by decide +kernel) rfl (Nat.le_of_ble_eq_true rfl) rfl ?_
  refine J_aload_n dX0_madeHere_0 rfl ?_
  refine J_get (k := 3) dX0_madeHere_1 gc_0 fl_RX0_28 (by decide) hP.o hP.bo rfl ?_
  exact J_iret dX0_madeHere_4 rfl ⟨rfl, Nat.le_refl _⟩ (hQ)
theorem s_X0_madeInAll (hP : HR h a x1 x2 x3 x4 x5 g) (hQ : Q (some (.int x4)) h) : MJ m_X0_madeInAll 0 0 0 [.ref a] h Q := by
  refine MJ_of_J (L := [some (.ref a)]) (by decide +kernel) rfl (Nat.le_of_ble_eq_true rfl) rfl ?_
  refine J_aload_n dX0_madeInAll_0 rfl ?_
  refine J_get (k := 5) dX0_madeInAll_1 gc_0 fl_RX0_31 (by decide) hP.o hP.bo rfl ?_
  exact J_iret dX0_madeInAll_4 rfl ⟨rfl, Nat.le_refl _⟩ (hQ)
theorem s_X0_mostStanding (hP : HR h a x1 x2 x3 x4 x5 g) (hQ : Q (some (.int x5)) h) : MJ m_X0_mostStanding 0 0 0 [.ref a] h Q := by
  refine MJ_of_J (L := [some (.ref a)]) (by decide +kernel) rfl (Nat.le_of_ble_eq_true rfl) rfl ?_
  refine J_aload_n dX0_mostStanding_0 rfl ?_
  refine J_get (k := 6) dX0_mostStanding_1 gc_0 fl_RX0_37 (by decide) hP.o hP.bo rfl ?_
  exact J_iret dX0_mostStanding_4 rfl ⟨rfl, Nat.le_refl _⟩ (hQ)
theorem s_X0_idleInAll (hP : HR h a x1 x2 x3 x4 x5 g) (hQ : Q (some (.int (x3 - x4))) h) : MJ m_X0_idleInAll 0 0 0 [.ref a] h Q := by
  refine MJ_of_J (L := [some (.ref a)]) (by decide +kernel) rfl (Nat.le_of_ble_eq_true rfl) rfl ?_
  refine J_aload_n dX0_idleInAll_0 rfl ?_
  refine J_get (k := 4) dX0_idleInAll_1 gc_0 fl_RX0_34 (by decide) hP.o hP.bo rfl ?_
  refine J_aload_n dX0_idleInAll_4 rfl ?_
  refine J_get (k := 5) dX0_idleInAll_5 gc_0 fl_RX0_31 (by decide) hP.o hP.bo rfl ?_
  refine J_isub dX0_idleInAll_8 ?_
  exact J_iret dX0_idleInAll_9 rfl ⟨rfl, Nat.le_refl _⟩ (hQ)
theorem l_X0_joinLaid {s d ar : Nat} {js0 E0 : List (Nat × Nat)} (hs : s < 64) (hdd : d < 7) (hE0 : ∀ e ∈ E0, e.1 < 16 ∧ e.2 < 16) (hA0 : LA h b ls) (hd : b + 5 ≤ a ∨ a + 6 ≤ b)
    (K : ∀ h1 js k, Fr a (a + 6) h h1 → HR h1 a (nI (ls.countP (ldB s d))) x2 x3 x4 x5 g → JA h1 (a + 1) 16 js → RP 16 js (E0 ++ EK ls (ldP s d) ls.length) → ar ≤ js.length → js.drop (js.length - ar) = js0 → J m_X0_joinLaid 3 0 0 0 0 101 [some (.ref a), some (.ref b), some (.int (nI s)), some (.int (nI d)), some (.int (nI ar)), some (.int k)] [] h1 Q) :
    ∀ (t k : Nat) (h1 : g_H) (js : List (Nat × Nat)), ls.length - k < t → k ≤ ls.length → Fr a (a + 6) h h1 → HR h1 a (nI ((ls.take k).countP (ldB s d))) x2 x3 x4 x5 g → JA h1 (a + 1) 16 js → RP 16 js (E0 ++ EK ls (ldP s d) k) → ar ≤ js.length → js.drop (js.length - ar) = js0 → J m_X0_joinLaid 3 0 0 0 0 46 [some (.ref a), some (.ref b), some (.int (nI s)), some (.int (nI d)), some (.int (nI ar)), some (.int (nI k))] [] h1 Q := by
  intro t
  induction t with
  | zero => intro k h1 js ht; omega
  | succ t ih =>
    intro k h1 js ht hk hF hP hJ hR har hdr
    have hA := hA0.fr hF (by omega)
    have hn := hA.len
    have hO := hA.ok
    refine J_iload dX0_joinLaid_46 rfl ?_
    refine J_aload_n dX0_joinLaid_48 rfl ?_
    refine J_callV (As := []) (rest := [_]) (M' := m_X4_size) dX0_joinLaid_49 ml_RX0_60 gm_X4_size gv_X4_size hA.o hA.b rfl rfl rfl (Nat.le_of_ble_eq_true rfl) (by decide) ⟨rfl, rfl, by decide, by decide⟩ (s_X4_size hA (fun r hr => ?_))
    subst hr
    refine J_icmp_ge (tgt := 101) dX0_joinLaid_52 (by decide) (fun c52 => ?_) (fun c52 => ?_)
    · have c52 := (nI_leI (by omega) (by omega)).mp c52
      obtain rfl : k = ls.length := by omega
      rw [List.take_length] at hP
      exact K h1 js _ hF hP hJ hR har hdr
    · have c52 : k < ls.length := Nat.not_le.mp (fun q => c52 ((nI_leI (by omega) (by omega)).mpr q))
      obtain ⟨y, hy⟩ := get_of c52
      obtain ⟨o1, o2, o3, o4, o5⟩ := hO y (List.mem_of_getElem? hy)
      have hcnt := take_succ_cnt (ldB s d) hy
      refine J_aload_n dX0_joinLaid_55 rfl ?_
      refine J_iload dX0_joinLaid_56 rfl ?_
      refine J_iload_n dX0_joinLaid_58 rfl ?_
      refine J_iload_n dX0_joinLaid_59 rfl ?_
      refine J_callV (As := [_, _, _]) (rest := []) (M' := m_X4_isLaidAt) dX0_joinLaid_60 ml_RX0_65 gm_X4_isLaidAt gv_X4_isLaidAt hA.o hA.b rfl rfl rfl (Nat.le_of_ble_eq_true rfl) (by decide) ⟨rfl, rfl, by decide, by decide⟩ (s_X4_isLaidAt hA hy hs hdd (fun r hr => ?_))
      refine J_if_eq (tgt := 95) dX0_joinLaid_63 (by decide) (fun c63 => ?_) (fun c63 => ?_)
      · refine J_iinc dX0_joinLaid_95 rfl (nI_i1 k) (by decide) rfl ?_
        refine J_goto (tgt := 46) dX0_joinLaid_98 (by decide) ?_
        have hf := (bI_0 hr).mp c63
        exact ih (k + 1) h1 js (by omega) (by omega) hF (by rw [hcnt, if_neg hf]; exact hP) hJ (by rw [EK_s hy, if_neg (show ¬ ldP s d k y = true from hf), List.append_nil]; exact hR) har hdr
      · refine J_aload_n dX0_joinLaid_66 rfl ?_
        refine J_dup dX0_joinLaid_67 rfl ?_
        refine J_get (k := 2) dX0_joinLaid_68 gc_0 fl_RX0_24 (by decide) hP.o hP.bo rfl ?_
        refine J_iconst (x := 1) dX0_joinLaid_71 (by decide) ?_
        refine J_iadd dX0_joinLaid_72 ?_
        rw [nI_1]
        refine J_put (k := 2) dX0_joinLaid_73 gc_0 fl_RX0_24 (by decide) rfl hP.o hP.bo (Nat.le_of_ble_eq_true rfl) (fun _ => ⟨rfl, rfl⟩) rfl ?_
        replace hP := hP.so (nI ((ls.take k).countP (ldB s d) + 1)) x2 x3 x4 x5
        have hF1 := up_fr h1 a (.inr (0, [.ref (a + 1), .ref (a + 5), .int (nI ((ls.take k).countP (ldB s d) + 1)), .int x2, .int x3, .int x4, .int x5]))
        replace hJ := hJ.fr hF1 (by omega)
        replace hA := hA.fr hF1 (by omega)
        replace hF := hF.tr (hF1.mono (by omega) (by omega))
        refine J_aload_n dX0_joinLaid_76 rfl ?_
        refine J_get (k := 0) dX0_joinLaid_77 gc_0 fl_RX0_14 (by decide) hP.o hP.bo rfl ?_
        refine J_aload_n dX0_joinLaid_80 rfl ?_
        refine J_iload dX0_joinLaid_81 rfl ?_
        refine J_callV (As := [_]) (rest := [_]) (M' := m_X4_oneOf) dX0_joinLaid_83 ml_RX0_69 gm_X4_oneOf gv_X4_oneOf hA.o hA.b rfl rfl rfl (Nat.le_of_ble_eq_true rfl) (by decide) ⟨rfl, rfl, by decide, by decide⟩ (s_X4_oneOf hA hy (fun r1 hr1 => ?_))
        subst hr1
        refine J_aload_n dX0_joinLaid_86 rfl ?_
        refine J_iload dX0_joinLaid_87 rfl ?_
        refine J_callV (As := [_]) (rest := [_, _]) (M' := m_X4_otherOf) dX0_joinLaid_89 ml_RX0_73 gm_X4_otherOf gv_X4_otherOf hA.o hA.b rfl rfl rfl (Nat.le_of_ble_eq_true rfl) (by decide) ⟨rfl, rfl, by decide, by decide⟩ (s_X4_otherOf hA hy (fun r1 hr1 => ?_))
        subst hr1
        refine J_callV (As := [_, _]) (rest := []) (M' := m_X2_join) dX0_joinLaid_92 ml_RX0_76 gm_X2_join gv_X2_join hJ.o hJ.b rfl rfl rfl (Nat.le_of_ble_eq_true rfl) (by decide) ⟨rfl, rfl, by decide, by decide⟩ (s_X2_join hJ o1 o2 (fun h2 js2 hF2 hJ2 hN2 => ?_))
        refine J_iinc dX0_joinLaid_95 rfl (nI_i1 k) (by decide) rfl ?_
        refine J_goto (tgt := 46) dX0_joinLaid_98 (by decide) ?_
        have hf := nn_of hr c63
        have hR2 := RP.join hJ.w hR o1 o2 (fun e he => by rcases List.mem_append.mp he with he | he; exact hE0 e he; exact EK_lt hO e he) hN2
        have hlen2 : js2 = js ∨ ∃ p, js2 = p :: js := by rcases hN2 with ⟨-, q⟩ | ⟨-, l, t, -, q⟩; exact Or.inl q; exact Or.inr ⟨_, q⟩
        have hd2 : ar ≤ js2.length ∧ js2.drop (js2.length - ar) = js0 := by
          rcases hlen2 with rfl | ⟨p, rfl⟩
          · exact ⟨har, hdr⟩
          · refine ⟨by rw [List.length_cons]; omega, ?_⟩
            rw [List.length_cons, show js.length + 1 - ar = (js.length - ar) + 1 by omega, List.drop_succ_cons]
            exact hdr
        exact ih (k + 1) h2 js2 (by omega) (by omega) (hF.tr (hF2.mono (by omega) (by omega))) (by rw [hcnt, if_pos hf]; exact hP.fr hF2 (by omega)) hJ2 (by rw [EK_s hy, if_pos (show ldP s d k y = true from hf), ← List.append_assoc]; exact hR2) hd2.1 hd2.2
theorem s_X0_joinLaid {s d ar : Nat} {E0 : List (Nat × Nat)} (hs : s < 64) (hdd : d < 7) (hE0 : ∀ e ∈ E0, e.1 < 16 ∧ e.2 < 16) (hA : LA h b ls) (hd : b + 5 ≤ a ∨ a + 6 ≤ b) (hP : HR h a x1 x2 x3 x4 x5 g) (hJ : JA h (a + 1) 16 js) (har : ar ≤ js.length) (har0 : d = 0 → ar = 0) (har1 : 0 < d → g (d - 1) = nI ar) (hR : RP 16 (js.drop (js.length - ar)) E0)
    (hQ : ∀ h' js', Fr a (a + 6) h h' → HR h' a (nI (ls.countP (ldB s d))) (nI (js'.length - ar)) x3 x4 x5 (upd g d (nI js'.length)) → JA h' (a + 1) 16 js' → RP 16 js' (E0 ++ EK ls (ldP s d) ls.length) → ar ≤ js'.length → js'.drop (js'.length - ar) = js.drop (js.length - ar) → Q none h') : MJ m_X0_joinLaid 3 0 0 [.ref a, .ref b, .int (nI s), .int (nI d)] h Q := by
  have hl := hJ.len
  have K27 : J m_X0_joinLaid 3 0 0 0 0 27 [some (.ref a), some (.ref b), some (.int (nI s)), some (.int (nI d)), none, none] [.int (nI ar)] h Q := by
    refine J_istore dX0_joinLaid_27 (by decide) rfl ?_
    refine J_aload_n dX0_joinLaid_29 rfl ?_
    refine J_get (k := 0) dX0_joinLaid_30 gc_0 fl_RX0_14 (by decide) hP.o hP.bo rfl ?_
    refine J_iload dX0_joinLaid_33 rfl ?_
    refine J_callV (As := [_]) (rest := []) (M' := m_X2_takeBackTo) dX0_joinLaid_35 ml_RX0_57 gm_X2_takeBackTo gv_X2_takeBackTo hJ.o hJ.b rfl rfl rfl (Nat.le_of_ble_eq_true rfl) (by decide) ⟨rfl, rfl, by decide, by decide⟩ (s_X2_takeBackTo hJ har (fun h1 hF1 hJ1 => ?_))
    replace hP := hP.fr hF1 (by omega)
    replace hJ := hJ1
    replace hA := hA.fr hF1 (by omega)
    refine J_aload_n dX0_joinLaid_38 rfl ?_
    refine J_iconst (x := 0) dX0_joinLaid_39 (by decide) ?_
    refine J_put (k := 2) dX0_joinLaid_40 gc_0 fl_RX0_24 (by decide) rfl hP.o hP.bo (Nat.le_of_ble_eq_true rfl) (fun _ => ⟨rfl, rfl⟩) rfl ?_
    replace hP := hP.so (nI 0) x2 x3 x4 x5
    have hF2 := up_fr h1 a (.inr (0, [.ref (a + 1), .ref (a + 5), .int (nI 0), .int x2, .int x3, .int x4, .int x5]))
    replace hJ := hJ.fr hF2 (by omega)
    replace hA := hA.fr hF2 (by omega)
    refine J_iconst (x := 0) dX0_joinLaid_43 (by decide) ?_
    refine J_istore dX0_joinLaid_44 (by decide) rfl ?_
    refine l_X0_joinLaid (js0 := js.drop (js.length - ar)) (E0 := E0) (x2 := x2) (x3 := x3) (x4 := x4) (x5 := x5) (g := g) hs hdd hE0 hA hd (fun h2 js2 k hF4 hP4 hJ4 hR4 har4 hdr4 => ?_) (ls.length + 1) 0 _ _ (by omega) (by omega) Fr.rf (by rw [List.take_zero]; exact hP) hJ (by simpa [EK] using hR) (by rw [List.length_drop]; omega) (by rw [List.length_drop, show js.length - (js.length - ar) - ar = 0 by omega]; rfl)
    have hl4 := hJ4.len
    replace hP := hP4
    replace hJ := hJ4
    refine J_aload_n dX0_joinLaid_101 rfl ?_
    refine J_get (k := 1) dX0_joinLaid_102 gc_0 fl_RX0_20 (by decide) hP.o hP.bo rfl ?_
    refine J_iload_n dX0_joinLaid_105 rfl ?_
    refine J_aload_n dX0_joinLaid_106 rfl ?_
    refine J_get (k := 0) dX0_joinLaid_107 gc_0 fl_RX0_14 (by decide) hP.o hP.bo rfl ?_
    refine J_callV (As := []) (rest := [_, _]) (M' := m_X2_standing) dX0_joinLaid_110 ml_RX0_48 gm_X2_standing gv_X2_standing hJ.o hJ.b rfl rfl rfl (Nat.le_of_ble_eq_true rfl) (by decide) ⟨rfl, rfl, by decide, by decide⟩ (s_X2_standing hJ (fun r hr => ?_))
    subst hr
    refine J_iast dX0_joinLaid_113 hP.c hP.bc (vp_in_nI hdd (by omega)) ?_
    rw [nI_clamp (n := d) (by omega)]
    replace hP := hP.sc (upd g d (nI js2.length))
    replace hJ := hJ.fr (up_fr h2 (a + 5) (.inl (0, 7, .inl (upd g d (nI js2.length))))) (by omega)
    refine J_aload_n dX0_joinLaid_114 rfl ?_
    refine J_aload_n dX0_joinLaid_115 rfl ?_
    refine J_get (k := 0) dX0_joinLaid_116 gc_0 fl_RX0_14 (by decide) hP.o hP.bo rfl ?_
    refine J_callV (As := []) (rest := [_]) (M' := m_X2_standing) dX0_joinLaid_119 ml_RX0_48 gm_X2_standing gv_X2_standing hJ.o hJ.b rfl rfl rfl (Nat.le_of_ble_eq_true rfl) (by decide) ⟨rfl, rfl, by decide, by decide⟩ (s_X2_standing hJ (fun r hr => ?_))
    subst hr
    refine J_iload dX0_joinLaid_122 rfl ?_
    refine J_isub dX0_joinLaid_124 ?_
    rw [pk_sub har4]
    refine J_put (k := 3) dX0_joinLaid_125 gc_0 fl_RX0_28 (by decide) rfl hP.o hP.bo (Nat.le_of_ble_eq_true rfl) (fun _ => ⟨rfl, rfl⟩) rfl ?_
    replace hP := hP.so (nI (ls.countP (ldB s d))) (nI (js2.length - ar)) x3 x4 x5
    replace hJ := hJ.fr (up_fr _ a (.inr (0, [.ref (a + 1), .ref (a + 5), .int (nI (ls.countP (ldB s d))), .int (nI (js2.length - ar)), .int x3, .int x4, .int x5]))) (by omega)
    exact J_vret dX0_joinLaid_128 rfl ⟨rfl, Nat.le_refl _⟩ (hQ _ js2 (((((hF1.mono (by omega) (by omega)).up (by omega) (by omega)).tr hF4).up (by omega) (by omega)).up (by omega) (by omega)) hP hJ hR4 har4 hdr4)
  refine MJ_of_J (L := [some (.ref a), some (.ref b), some (.int (nI s)), some (.int (nI d)), none, none]) (by decide +kernel) rfl (Nat.le_of_ble_eq_true rfl) rfl ?_
  refine J_iload_n dX0_joinLaid_0 rfl ?_
  refine J_if_lt (tgt := 10) dX0_joinLaid_1 (by decide) (fun c1 => absurd c1 (nI_pos (by omega))) (fun c1 => ?_)
  refine J_iload_n dX0_joinLaid_4 rfl ?_
  refine J_bipush (x := 6) dX0_joinLaid_5 (by decide) ?_
  refine J_icmp_le (tgt := 11) dX0_joinLaid_7 (by decide) (fun c7 => ?_) (fun c7 => absurd (show nI d ≤ nI 6 by rw [nI_leI (by omega) (by omega)]; omega) c7)
  refine J_iload_n dX0_joinLaid_11 rfl ?_
  refine J_if_ne (tgt := 19) dX0_joinLaid_12 (by decide) (fun c12 => ?_) (fun c12 => ?_)
  · obtain ⟨e1, hd0⟩ := nI_p1 d c12 (by omega)
    refine J_aload_n dX0_joinLaid_19 rfl ?_
    refine J_get (k := 1) dX0_joinLaid_20 gc_0 fl_RX0_20 (by decide) hP.o hP.bo rfl ?_
    refine J_iload_n dX0_joinLaid_23 rfl ?_
    refine J_iconst (x := 1) dX0_joinLaid_24 (by decide) ?_
    refine J_isub dX0_joinLaid_25 ?_
    rw [e1]
    refine J_iald dX0_joinLaid_26 hP.c hP.bc (vp_in_nI (show d - 1 < 7 by omega) (by omega)) ?_
    rw [nI_clamp (n := d - 1) (by omega), har1 hd0]
    exact K27
  · refine J_iconst (x := 0) dX0_joinLaid_15 (by decide) ?_
    refine J_goto (tgt := 27) dX0_joinLaid_16 (by decide) ?_
    have hd0 : d = 0 := (nI_eq (b := 0) (by omega) (by omega)).mp c12
    obtain rfl := har0 hd0
    exact K27
end SWay
end
section
section SWay2
variable {h h' : g_H} {a b : Nat} {ls : List Lk} {x1 x2 x3 x4 x5 : Int32} {g : Nat → Int32} {js : List (Nat × Nat)} {Q : Option Value → g_H → Prop}
/-- what is told of a span: the links that are laid there, the joinings that are made -/
def lcN (ls : List Lk) (m d : Nat) : Nat := ls.countP (ldB (sb m d) d)
noncomputable def mdN (ls : List Lk) (m d : Nat) : Nat := pU ls m d - pS ls m d
theorem CU_lt {ls : List Lk} (hO : ∀ x ∈ ls, okK x) {m d : Nat} : ∀ e ∈ CU ls m d, e.1 < 16 ∧ e.2 < 16 := by
  cases d with
  | zero => intro e he; simp [CU] at he
  | succ d => exact EK_lt hO
theorem l_X0_goTo {m D : Nat} (hm : m < 64) (hD : D < 7) (hA0 : LA h b ls) (hd : b + 5 ≤ a ∨ a + 6 ≤ b)
    (hQ : ∀ h' js y1 y2 y3 y4 y5 g', Fr a (a + 6) h h' → HR h' a y1 y2 y3 y4 y5 g' → JA h' (a + 1) 16 js → y1 = nI (lcN ls m D) → y2 = nI (mdN ls m D) → Q none h') :
    ∀ (t k : Nat) (h1 : g_H) (js : List (Nat × Nat)) (y1 y2 y3 y4 y5 : Int32) (g' : Nat → Int32), D + 1 - k < t → k ≤ D + 1 → Fr a (a + 6) h h1 → HR h1 a y1 y2 y3 y4 y5 g' → JA h1 (a + 1) 16 js → (0 < k → g' (k - 1) = nI js.length ∧ RP 16 js (CV ls m (k - 1)) ∧ y1 = nI (lcN ls m (k - 1)) ∧ y2 = nI (mdN ls m (k - 1))) → J m_X0_goTo 4 0 0 0 0 3 [some (.ref a), some (.ref b), some (.int (nI m)), some (.int (nI D)), some (.int (nI k))] [] h1 Q := by
  intro t
  induction t with
  | zero => intro k h1 js y1 y2 y3 y4 y5 g' ht; omega
  | succ t ih =>
    intro k h1 js y1 y2 y3 y4 y5 g' ht hk hF hP hJ hI
    have hA := hA0.fr hF (by omega)
    have hn := hA.len
    have hO := hA.ok
    have hsb := sb_le m k
    refine J_iload dX0_goTo_3 rfl ?_
    refine J_iload_n dX0_goTo_5 rfl ?_
    refine J_icmp_gt (tgt := 28) dX0_goTo_6 (by decide) (fun c6 => ?_) (fun c6 => ?_)
    · refine J_vret dX0_goTo_28 rfl ⟨rfl, Nat.le_refl _⟩ (by
      have c6 := (nI_ltI (by omega) (by omega)).mp c6
      obtain rfl : k = D + 1 := by omega
      obtain ⟨-, -, z3, z4⟩ := hI (by omega)
      exact hQ h1 js _ _ _ _ _ _ hF hP hJ z3 z4)
    · have c6 : k ≤ D := Nat.not_lt.mp (fun q => c6 ((nI_ltI (by omega) (by omega)).mpr q))
      have key : (if k = 0 then 0 else js.length) ≤ js.length ∧ (k = 0 → (if k = 0 then 0 else js.length) = 0) ∧ (0 < k → g' (k - 1) = nI (if k = 0 then 0 else js.length)) ∧ RP 16 (js.drop (js.length - (if k = 0 then 0 else js.length))) (CU ls m k) := by
        by_cases q : k = 0
        · subst q
          refine ⟨by simp, by simp, fun z => absurd z (Nat.lt_irrefl 0), ?_⟩
          rw [if_pos rfl, Nat.sub_zero, List.drop_length]
          exact RP.nil 16
        · obtain ⟨z1, z2, -, -⟩ := hI (by omega)
          rw [if_neg q]
          refine ⟨Nat.le_refl _, fun z => absurd z q, fun _ => z1, ?_⟩
          rw [Nat.sub_self]
          obtain ⟨i, rfl⟩ : ∃ i, k = i + 1 := ⟨k - 1, by omega⟩
          exact z2
      generalize (if k = 0 then 0 else js.length) = ar at key
      obtain ⟨k1, k2, k3, k4⟩ := key
      have hlen := RP.len (WJ.drop (js.length - ar) hJ.w) k4
      rw [List.length_drop] at hlen
      refine J_aload_n dX0_goTo_9 rfl ?_
      refine J_aload_n dX0_goTo_10 rfl ?_
      refine J_iload_n dX0_goTo_11 rfl ?_
      refine J_iload dX0_goTo_12 rfl ?_
      refine J_callSN (As := [_, _]) (rest := [_, _]) (M' := m_X6_spanBegin) dX0_goTo_14 ml_RX0_40 gm_X6_spanBegin sm_yX6_spanBegin rfl rfl (Nat.le_of_ble_eq_true rfl) (by decide) ⟨rfl, rfl, by decide, by decide⟩ (s_X6_spanBegin hm (show k < 7 by omega) (fun r hr => ?_))
      subst hr
      refine J_iload dX0_goTo_17 rfl ?_
      refine J_callV (As := [_, _, _]) (rest := []) (M' := m_X0_joinLaid) dX0_goTo_19 ml_RX0_44 gm_X0_joinLaid gv_X0_joinLaid hP.o hP.bo rfl rfl rfl (Nat.le_of_ble_eq_true rfl) (by decide) ⟨rfl, rfl, by decide, by decide⟩ (s_X0_joinLaid (s := sb m k) (d := k) (ar := ar) (E0 := CU ls m k) (by omega) (by omega) (CU_lt hO) hA hd hP hJ k1 k2 k3 k4 (fun h2 js2 hF2 hP2 hJ2 hR2 har2 hdr2 => ?_))
      refine J_iinc dX0_goTo_22 rfl (nI_i1 k) (by decide) rfl ?_
      refine J_goto (tgt := 3) dX0_goTo_25 (by decide) ?_
      have hR3 := hR2.set (CV_ld hm (show k < 7 by omega))
      have hlen2 := RP.len hJ2.w hR3
      refine ih (k + 1) h2 js2 _ _ _ _ _ _ (by omega) (by omega) (hF.tr hF2) hP2 hJ2 (fun _ => ⟨?_, hR3, rfl, ?_⟩)
      · rw [Nat.add_sub_cancel]; simp [upd]
      · rw [Nat.add_sub_cancel]
        unfold mdN pU pS
        congr 1
        omega
theorem s_X0_goTo {m D : Nat} (hm : m < 64) (hD : D < 7) (hA : LA h b ls) (hd : b + 5 ≤ a ∨ a + 6 ≤ b) (hP : HR h a x1 x2 x3 x4 x5 g) (hJ : JA h (a + 1) 16 js)
    (hQ : ∀ h' js y1 y2 y3 y4 y5 g', Fr a (a + 6) h h' → HR h' a y1 y2 y3 y4 y5 g' → JA h' (a + 1) 16 js → y1 = nI (lcN ls m D) → y2 = nI (mdN ls m D) → Q none h') : MJ m_X0_goTo 4 0 0 [.ref a, .ref b, .int (nI m), .int (nI D)] h Q := by
  refine MJ_of_J (L := [some (.ref a), some (.ref b), some (.int (nI m)), some (.int (nI D)), none]) (by decide +kernel) rfl (Nat.le_of_ble_eq_true rfl) rfl ?_
  refine J_iconst (x := 0) dX0_goTo_0 (by decide) ?_
  refine J_istore dX0_goTo_1 (by decide) rfl ?_
  exact l_X0_goTo hm hD hA hd hQ (D + 2) 0 h js _ _ _ _ _ _ (by omega) (by omega) Fr.rf hP hJ (fun z => absurd z (Nat.lt_irrefl 0))
/-- sums and greatest values over the spans, by the moments with which they begin -/
def atB (f : Nat → Nat → Nat) (m d : Nat) : Nat := if sb m d = m then f m d else 0
def sp1 (f : Nat → Nat → Nat) (m : Nat) : Nat := sumN (atB f m) 7
def sp2 (f : Nat → Nat → Nat) : Nat := sumN (sp1 f) 64
def mxA (c : Nat) (f : Nat → Nat) : Nat → Nat
  | 0 => c
  | n + 1 => if mxA c f n < f n then f n else mxA c f n
def mx2 (f : Nat → Nat → Nat) : Nat → Nat
  | 0 => 0
  | n + 1 => mxA (mx2 f n) (atB f n) 7
noncomputable def stN (ls : List Lk) (m d : Nat) : Nat := 16 - pS ls m d
theorem mxA_le {c b : Nat} {f : Nat → Nat} (hc : c ≤ b) (hf : ∀ k, f k ≤ b) : ∀ n, mxA c f n ≤ b
  | 0 => hc
  | n + 1 => by
    have := mxA_le hc hf n
    have := hf n
    show (if mxA c f n < f n then f n else mxA c f n) ≤ b
    split <;> assumption
theorem atB_le {f : Nat → Nat → Nat} {b : Nat} (hf : ∀ m d, f m d ≤ b) (m d : Nat) : atB f m d ≤ b := by
  unfold atB
  split
  · exact hf m d
  · exact Nat.zero_le _
theorem mx2_le {f : Nat → Nat → Nat} {b : Nat} (hf : ∀ m d, f m d ≤ b) : ∀ n, mx2 f n ≤ b
  | 0 => Nat.zero_le _
  | n + 1 => mxA_le (mx2_le hf n) (fun k => atB_le hf n k) 7
/-- the standing numbers of the spans around (up to d, and those that began earlier) -/
def WI (ls : List Lk) (m d : Nat) (g : Nat → Int32) (js : List (Nat × Nat)) : Prop := ∃ s : Nat → Nat, (∀ i j, i ≤ j → j < 7 → (j < d ∨ sb m j ≠ m) → s i ≤ s j) ∧ ∀ i, i < 7 → (i < d ∨ sb m i ≠ m) → g i = nI (s i) ∧ s i ≤ js.length ∧ RP 16 (js.drop (js.length - s i)) (CV ls m i)
theorem WI.skip {ls : List Lk} {m d : Nat} {g : Nat → Int32} {js : List (Nat × Nat)} (h : WI ls m d g js) (hs : sb m d ≠ m) : WI ls m (d + 1) g js := by
  obtain ⟨s, h1, h2⟩ := h
  have hc : ∀ i, (i < d + 1 ∨ sb m i ≠ m) → (i < d ∨ sb m i ≠ m) := by
    intro i q
    rcases q with q | q
    · rcases Nat.lt_succ_iff_lt_or_eq.mp q with z | z
      · exact Or.inl z
      · subst z; exact Or.inr hs
    · exact Or.inr q
  exact ⟨s, fun i j hij hj q => h1 i j hij hj (hc j q), fun i hi q => h2 i hi (hc i q)⟩
theorem WI.next {ls : List Lk} {m : Nat} {g : Nat → Int32} {js : List (Nat × Nat)} (h : WI ls m 7 g js) (hm : m < 63) : WI ls (m + 1) 0 g js := by
  obtain ⟨s, h1, h2⟩ := h
  refine ⟨s, fun i j hij hj _ => h1 i j hij hj (Or.inl hj), fun i hi q => ?_⟩
  have q2 : sb (m + 1) i ≠ m + 1 := q.resolve_left (Nat.not_lt_zero _)
  have e := sb_f4 m hm i hi q2
  obtain ⟨z1, z2, z3⟩ := h2 i hi (Or.inl hi)
  refine ⟨z1, z2, ?_⟩
  have e2 : CV ls (m + 1) i = CV ls m i := by
    unfold CV cvP
    rw [e]
  rw [e2]; exact z3
theorem WI.first (ls : List Lk) (g : Nat → Int32) (js : List (Nat × Nat)) : WI ls 0 0 g js := by
  refine ⟨fun _ => 0, fun _ _ _ _ _ => Nat.le_refl _, fun i _ q => ?_⟩
  exfalso
  rcases q with q | q
  · omega
  · exact q (Nat.le_zero.mp (sb_le 0 i))
/-- before a span that begins here: the number that stands around it -/
theorem WI.ar {ls : List Lk} {m d : Nat} {g : Nat → Int32} {js : List (Nat × Nat)} (h : WI ls m d g js) (hd : d < 7) : ∃ ar : Nat, ar ≤ js.length ∧ (d = 0 → ar = 0) ∧ (0 < d → g (d - 1) = nI ar) ∧ RP 16 (js.drop (js.length - ar)) (CU ls m d) ∧ ∀ (js' : List (Nat × Nat)) , (∀ i, i < 7 → d ≤ i → sb m i = m) → RP 16 js' (CV ls m d) → ar ≤ js'.length → js'.drop (js'.length - ar) = js.drop (js.length - ar) → WI ls m (d + 1) (upd g d (nI js'.length)) js' := by
  obtain ⟨s, h1, h2⟩ := h
  have fin : ∀ ar : Nat, ar ≤ js.length → (∀ i, i < d → s i ≤ ar) → ∀ (js' : List (Nat × Nat)), (∀ i, i < 7 → d ≤ i → sb m i = m) → RP 16 js' (CV ls m d) → ar ≤ js'.length → js'.drop (js'.length - ar) = js.drop (js.length - ar) → WI ls m (d + 1) (upd g d (nI js'.length)) js' := by
    intro ar har hs js' hsb hR har' hdr
    have hlt : ∀ i, i < 7 → (i < d + 1 ∨ sb m i ≠ m) → i < d + 1 := by
      intro i hi q
      rcases q with q | q
      · exact q
      · rcases Nat.lt_or_ge i d with z | z
        · omega
        · exact absurd (hsb i hi z) q
    refine ⟨fun i => if i = d then js'.length else s i, fun i j hij hj q => ?_, fun i hi q => ?_⟩
    · have hj2 := hlt j hj q
      by_cases e1 : j = d
      · subst e1
        by_cases e2 : i = j
        · subst e2; exact Nat.le_refl _
        · show (if i = j then _ else s i) ≤ (if j = j then js'.length else s j)
          rw [if_neg e2, if_pos rfl]
          exact Nat.le_trans (hs i (by omega)) har'
      · have e2 : i ≠ d := by omega
        show (if i = d then _ else s i) ≤ (if j = d then _ else s j)
        rw [if_neg e2, if_neg e1]
        exact h1 i j hij hj (Or.inl (by omega))
    · have hi2 := hlt i hi q
      by_cases e1 : i = d
      · subst e1
        show upd g i (nI js'.length) i = nI (if i = i then js'.length else s i) ∧ (if i = i then js'.length else s i) ≤ js'.length ∧ RP 16 (js'.drop (js'.length - (if i = i then js'.length else s i))) _
        rw [if_pos rfl, Nat.sub_self]
        exact ⟨by simp [upd], Nat.le_refl _, hR⟩
      · show upd g d (nI js'.length) i = nI (if i = d then js'.length else s i) ∧ (if i = d then js'.length else s i) ≤ js'.length ∧ RP 16 (js'.drop (js'.length - (if i = d then js'.length else s i))) _
        rw [if_neg e1]
        obtain ⟨z1, z2, z3⟩ := h2 i hi (Or.inl (by omega))
        have hsi := hs i (by omega)
        refine ⟨by simp [upd, e1, z1], by omega, ?_⟩
        have e2 : js'.drop (js'.length - s i) = js.drop (js.length - s i) := by
          have a1 : js'.length - s i = (js'.length - ar) + (ar - s i) := by omega
          have a2 : js.length - s i = (js.length - ar) + (ar - s i) := by omega
          rw [a1, a2, ← List.drop_drop, ← List.drop_drop, hdr]
        rw [e2]; exact z3
  cases d with
  | zero =>
    refine ⟨0, Nat.zero_le _, fun _ => rfl, fun z => absurd z (Nat.lt_irrefl 0), ?_, fin 0 (Nat.zero_le _) (fun i hi => absurd hi (Nat.not_lt_zero _))⟩
    rw [Nat.sub_zero, List.drop_length]
    exact RP.nil 16
  | succ d =>
    obtain ⟨z1, z2, z3⟩ := h2 d (by omega) (Or.inl (Nat.lt_succ_self d))
    exact ⟨s d, z2, fun z => absurd z (Nat.succ_ne_zero d), fun _ => z1, z3, fin (s d) z2 (fun i hi => h1 i d (by omega) (by omega) (Or.inl (Nat.lt_succ_self d)))⟩
theorem l1_X0_goAll {m la ma c0 : Nat} (hm : m < 64) (hA0 : LA h b ls) (hd : b + 5 ≤ a ∨ a + 6 ≤ b) (hc0 : c0 ≤ 16)
    (K : ∀ h1 js y1 y2 g', Fr a (a + 6) h h1 → HR h1 a y1 y2 (nI (la + sp1 (lcN ls) m)) (nI (ma + sp1 (mdN ls) m)) (nI (mxA c0 (atB (stN ls) m) 7)) g' → JA h1 (a + 1) 16 js → WI ls m 7 g' js → J m_X0_goAll 4 0 0 0 0 97 [some (.ref a), some (.ref b), some (.int (nI m)), some (.int (nI 7))] [] h1 Q) :
    ∀ (t d : Nat) (h1 : g_H) (js : List (Nat × Nat)) (y1 y2 : Int32) (g' : Nat → Int32), 7 - d < t → d ≤ 7 → Fr a (a + 6) h h1 → HR h1 a y1 y2 (nI (la + sumN (atB (lcN ls) m) d)) (nI (ma + sumN (atB (mdN ls) m) d)) (nI (mxA c0 (atB (stN ls) m) d)) g' → JA h1 (a + 1) 16 js → WI ls m d g' js → J m_X0_goAll 4 0 0 0 0 25 [some (.ref a), some (.ref b), some (.int (nI m)), some (.int (nI d))] [] h1 Q := by
  intro t
  induction t with
  | zero => intro d h1 js y1 y2 g' ht; omega
  | succ t ih =>
    intro d h1 js y1 y2 g' ht hdd hF hP hJ hI
    have hA := hA0.fr hF (by omega)
    have hn := hA.len
    have hO := hA.ok
    have hsb := sb_le m d
    have hst : ∀ m d, stN ls m d ≤ 16 := fun m d => Nat.sub_le _ _
    have hmx := mxA_le hc0 (fun k => atB_le hst m k) d
    refine J_iload_n dX0_goAll_25 rfl ?_
    refine J_bipush (x := 6) dX0_goAll_26 (by decide) ?_
    refine J_icmp_gt (tgt := 97) dX0_goAll_28 (by decide) (fun c28 => ?_) (fun c28 => ?_)
    · have c28 : nI 6 < nI d := c28
      rw [nI_ltI (by omega) (by omega)] at c28
      obtain rfl : d = 7 := by omega
      exact K h1 js _ _ _ hF hP hJ hI
    · have c28 : d < 7 := by
        have c28 : ¬ nI 6 < nI d := c28
        rw [nI_ltI (by omega) (by omega)] at c28; omega
      refine J_iload_n dX0_goAll_31 rfl ?_
      refine J_iload_n dX0_goAll_32 rfl ?_
      refine J_callSN (As := [_, _]) (rest := []) (M' := m_X6_spanBegin) dX0_goAll_33 ml_RX0_40 gm_X6_spanBegin sm_yX6_spanBegin rfl rfl (Nat.le_of_ble_eq_true rfl) (by decide) ⟨rfl, rfl, by decide, by decide⟩ (s_X6_spanBegin hm c28 (fun r hr => ?_))
      subst hr
      refine J_iload_n dX0_goAll_36 rfl ?_
      refine J_icmp_ne (tgt := 91) dX0_goAll_37 (by decide) (fun c37 => ?_) (fun c37 => ?_)
      · refine J_iinc dX0_goAll_91 rfl (nI_i1 d) (by decide) rfl ?_
        refine J_goto (tgt := 25) dX0_goAll_94 (by decide) ?_
        have c37 : sb m d ≠ m := fun q => c37 (by rw [q])
        have z : ∀ f : Nat → Nat → Nat, atB f m d = 0 := fun f => if_neg c37
        exact ih (d + 1) h1 js _ _ _ (by omega) (by omega) hF (by
          show HR h1 a y1 y2 (nI (la + (sumN (atB (lcN ls) m) d + atB (lcN ls) m d))) (nI (ma + (sumN (atB (mdN ls) m) d + atB (mdN ls) m d))) (nI (if mxA c0 (atB (stN ls) m) d < atB (stN ls) m d then atB (stN ls) m d else mxA c0 (atB (stN ls) m) d)) g'
          rw [z, z, z, if_neg (Nat.not_lt_zero _)]; exact hP) hJ (hI.skip c37)
      · have c37 := (nI_eq (by omega) (by omega)).mp c37
        obtain ⟨ar, k1, k2, k3, k4, k5⟩ := hI.ar c28
        have hlen := RP.len (WJ.drop (js.length - ar) hJ.w) k4
        rw [List.length_drop] at hlen
        refine J_aload_n dX0_goAll_40 rfl ?_
        refine J_aload_n dX0_goAll_41 rfl ?_
        refine J_iload_n dX0_goAll_42 rfl ?_
        refine J_iload_n dX0_goAll_43 rfl ?_
        refine J_callV (As := [_, _, _]) (rest := []) (M' := m_X0_joinLaid) dX0_goAll_44 ml_RX0_44 gm_X0_joinLaid gv_X0_joinLaid hP.o hP.bo rfl rfl rfl (Nat.le_of_ble_eq_true rfl) (by decide) ⟨rfl, rfl, by decide, by decide⟩ (s_X0_joinLaid (s := m) (d := d) (ar := ar) (E0 := CU ls m d) hm c28 (CU_lt hO) hA hd hP hJ k1 k2 k3 k4 (fun h2 js2 hF2 hP2 hJ2 hR2 har2 hdr2 => ?_))
        have hR3 := hR2.set (fun e => (by rw [← CV_ld hm c28 e, c37] : _ ↔ e ∈ CV ls m d))
        have hlen2 := RP.len hJ2.w hR3
        have hI2 := k5 js2 (sb_f3 m hm d c28 c37) hR3 har2 hdr2
        have eL : lcN ls m d = ls.countP (ldB m d) := by unfold lcN; rw [c37]
        have eM : mdN ls m d = js2.length - ar := by unfold mdN pU pS; omega
        have eS : stN ls m d = js2.length := by unfold stN pS; omega
        rw [← eL, ← eM] at hP2
        replace hP := hP2
        replace hJ := hJ2
        refine J_aload_n dX0_goAll_47 rfl ?_
        refine J_dup dX0_goAll_48 rfl ?_
        refine J_get (k := 4) dX0_goAll_49 gc_0 fl_RX0_34 (by decide) hP.o hP.bo rfl ?_
        refine J_aload_n dX0_goAll_52 rfl ?_
        refine J_get (k := 2) dX0_goAll_53 gc_0 fl_RX0_24 (by decide) hP.o hP.bo rfl ?_
        refine J_iadd dX0_goAll_56 ?_
        rw [nI_add]
        refine J_put (k := 4) dX0_goAll_57 gc_0 fl_RX0_34 (by decide) rfl hP.o hP.bo (Nat.le_of_ble_eq_true rfl) (fun _ => ⟨rfl, rfl⟩) rfl ?_
        replace hP := hP.so (nI (lcN ls m d)) (nI (mdN ls m d)) (nI (la + sumN (atB (lcN ls) m) d + lcN ls m d)) (nI (ma + sumN (atB (mdN ls) m) d)) (nI (mxA c0 (atB (stN ls) m) d))
        replace hJ := hJ.fr (up_fr h2 a (.inr (0, [.ref (a + 1), .ref (a + 5), .int (nI (lcN ls m d)), .int (nI (mdN ls m d)), .int (nI (la + sumN (atB (lcN ls) m) d + lcN ls m d)), .int (nI (ma + sumN (atB (mdN ls) m) d)), .int (nI (mxA c0 (atB (stN ls) m) d))]))) (by omega)
        refine J_aload_n dX0_goAll_60 rfl ?_
        refine J_dup dX0_goAll_61 rfl ?_
        refine J_get (k := 5) dX0_goAll_62 gc_0 fl_RX0_31 (by decide) hP.o hP.bo rfl ?_
        refine J_aload_n dX0_goAll_65 rfl ?_
        refine J_get (k := 3) dX0_goAll_66 gc_0 fl_RX0_28 (by decide) hP.o hP.bo rfl ?_
        refine J_iadd dX0_goAll_69 ?_
        rw [nI_add]
        refine J_put (k := 5) dX0_goAll_70 gc_0 fl_RX0_31 (by decide) rfl hP.o hP.bo (Nat.le_of_ble_eq_true rfl) (fun _ => ⟨rfl, rfl⟩) rfl ?_
        replace hP := hP.so (nI (lcN ls m d)) (nI (mdN ls m d)) (nI (la + sumN (atB (lcN ls) m) d + lcN ls m d)) (nI (ma + sumN (atB (mdN ls) m) d + mdN ls m d)) (nI (mxA c0 (atB (stN ls) m) d))
        replace hJ := hJ.fr (up_fr _ a (.inr (0, [.ref (a + 1), .ref (a + 5), .int (nI (lcN ls m d)), .int (nI (mdN ls m d)), .int (nI (la + sumN (atB (lcN ls) m) d + lcN ls m d)), .int (nI (ma + sumN (atB (mdN ls) m) d + mdN ls m d)), .int (nI (mxA c0 (atB (stN ls) m) d))]))) (by omega)
        refine J_aload_n dX0_goAll_73 rfl ?_
        refine J_aload_n dX0_goAll_74 rfl ?_
        refine J_get (k := 6) dX0_goAll_75 gc_0 fl_RX0_37 (by decide) hP.o hP.bo rfl ?_
        refine J_aload_n dX0_goAll_78 rfl ?_
        refine J_get (k := 0) dX0_goAll_79 gc_0 fl_RX0_14 (by decide) hP.o hP.bo rfl ?_
        refine J_callV (As := []) (rest := [_, _]) (M' := m_X2_standing) dX0_goAll_82 ml_RX0_48 gm_X2_standing gv_X2_standing hJ.o hJ.b rfl rfl rfl (Nat.le_of_ble_eq_true rfl) (by decide) ⟨rfl, rfl, by decide, by decide⟩ (s_X2_standing hJ (fun r hr => ?_))
        subst hr
        have hl2 := hJ2.len
        rw [← eS]
        refine J_mmax dX0_goAll_85 ml_RX0_52 gw_max (by decide) (Nat.le_of_ble_eq_true rfl) ⟨Nat.le_refl _, Nat.le_refl _⟩ ?_
        rw [nI_max (by omega) (by have := hst m d; omega)]
        refine J_put (k := 6) dX0_goAll_88 gc_0 fl_RX0_37 (by decide) rfl hP.o hP.bo (Nat.le_of_ble_eq_true rfl) (fun _ => ⟨rfl, rfl⟩) rfl ?_
        replace hP := hP.so (nI (lcN ls m d)) (nI (mdN ls m d)) (nI (la + sumN (atB (lcN ls) m) d + lcN ls m d)) (nI (ma + sumN (atB (mdN ls) m) d + mdN ls m d)) (nI (if mxA c0 (atB (stN ls) m) d < stN ls m d then stN ls m d else mxA c0 (atB (stN ls) m) d))
        replace hJ := hJ.fr (up_fr _ a (.inr (0, [.ref (a + 1), .ref (a + 5), .int (nI (lcN ls m d)), .int (nI (mdN ls m d)), .int (nI (la + sumN (atB (lcN ls) m) d + lcN ls m d)), .int (nI (ma + sumN (atB (mdN ls) m) d + mdN ls m d)), .int (nI (if mxA c0 (atB (stN ls) m) d < stN ls m d then stN ls m d else mxA c0 (atB (stN ls) m) d))]))) (by omega)
        refine J_iinc dX0_goAll_91 rfl (nI_i1 d) (by decide) rfl ?_
        refine J_goto (tgt := 25) dX0_goAll_94 (by decide) ?_
        have z : ∀ f : Nat → Nat → Nat, atB f m d = f m d := fun f => if_pos c37
        exact ih (d + 1) _ js2 _ _ _ (by omega) (by omega) ((((hF.tr hF2).up (by omega) (by omega)).up (by omega) (by omega)).up (by omega) (by omega)) (by
          show HR _ a _ _ (nI (la + (sumN (atB (lcN ls) m) d + atB (lcN ls) m d))) (nI (ma + (sumN (atB (mdN ls) m) d + atB (mdN ls) m d))) (nI (if mxA c0 (atB (stN ls) m) d < atB (stN ls) m d then atB (stN ls) m d else mxA c0 (atB (stN ls) m) d)) _
          rw [z, z, z, ← Nat.add_assoc, ← Nat.add_assoc]; exact hP) hJ hI2
theorem l2_X0_goAll (hA0 : LA h b ls) (hd : b + 5 ≤ a ∨ a + 6 ≤ b)
    (hQ : ∀ h' js y1 y2 g', Fr a (a + 6) h h' → HR h' a y1 y2 (nI (sp2 (lcN ls))) (nI (sp2 (mdN ls))) (nI (mx2 (stN ls) 64)) g' → JA h' (a + 1) 16 js → Q none h') :
    ∀ (t m : Nat) (h1 : g_H) (js : List (Nat × Nat)) (y1 y2 : Int32) (g' : Nat → Int32), 64 - m < t → m ≤ 64 → Fr a (a + 6) h h1 → HR h1 a y1 y2 (nI (sumN (sp1 (lcN ls)) m)) (nI (sumN (sp1 (mdN ls)) m)) (nI (mx2 (stN ls) m)) g' → JA h1 (a + 1) 16 js → (m < 64 → WI ls m 0 g' js) → J m_X0_goAll 4 0 0 0 0 17 [some (.ref a), some (.ref b), some (.int (nI m)), none] [] h1 Q := by
  intro t
  induction t with
  | zero => intro m h1 js y1 y2 g' ht; omega
  | succ t ih =>
    intro m h1 js y1 y2 g' ht hm hF hP hJ hI
    refine J_iload_n dX0_goAll_17 rfl ?_
    refine J_bipush (x := 64) dX0_goAll_18 (by decide) ?_
    refine J_icmp_ge (tgt := 103) dX0_goAll_20 (by decide) (fun c20 => ?_) (fun c20 => ?_)
    · exact J_vret dX0_goAll_103 rfl ⟨rfl, Nat.le_refl _⟩ (by
      have c20 := (nI_leI (a := 64) (b := m) (by omega) (by omega)).mp c20
      have e : m = 64 := by omega
      subst e; exact hQ h1 js _ _ _ hF hP hJ)
    · have c20 : m < 64 := Nat.not_le.mp (fun q => c20 ((nI_leI (a := 64) (b := m) (by omega) (by omega)).mpr q))
      refine J_iconst (x := 0) dX0_goAll_23 (by decide) ?_
      refine J_istore_n dX0_goAll_24 (by decide) rfl ?_
      refine l1_X0_goAll (h := h1) c20 (hA0.fr hF (by omega)) hd (mx2_le (f := stN ls) (fun m d => Nat.sub_le _ _) m) (fun h2 js2 y3 y4 g2 hF2 hP2 hJ2 hI2 => ?_) 8 0 h1 js y1 y2 g' (by omega) (by omega) Fr.rf hP hJ (hI c20)
      refine J_iinc dX0_goAll_97 rfl (nI_i1 m) (by decide) rfl ?_
      refine J_goto (tgt := 17) dX0_goAll_100 (by decide) ?_
      refine J_drop [3] rfl ?_
      exact ih (m + 1) h2 js2 _ _ _ (by omega) (by omega) (hF.tr hF2) hP2 hJ2 (fun q => hI2.next (by omega))
theorem s_X0_goAll (hA : LA h b ls) (hd : b + 5 ≤ a ∨ a + 6 ≤ b) (hP : HR h a x1 x2 x3 x4 x5 g) (hJ : JA h (a + 1) 16 js)
    (hQ : ∀ h' js y1 y2 g', Fr a (a + 6) h h' → HR h' a y1 y2 (nI (sp2 (lcN ls))) (nI (sp2 (mdN ls))) (nI (mx2 (stN ls) 64)) g' → JA h' (a + 1) 16 js → Q none h') : MJ m_X0_goAll 4 0 0 [.ref a, .ref b] h Q := by
  refine MJ_of_J (L := [some (.ref a), some (.ref b), none, none]) (by decide +kernel) rfl (Nat.le_of_ble_eq_true rfl) rfl ?_
  refine J_aload_n dX0_goAll_0 rfl ?_
  refine J_iconst (x := 0) dX0_goAll_1 (by decide) ?_
  refine J_put (k := 4) dX0_goAll_2 gc_0 fl_RX0_34 (by decide) rfl hP.o hP.bo (Nat.le_of_ble_eq_true rfl) (fun _ => ⟨rfl, rfl⟩) rfl ?_
  replace hP := hP.so x1 x2 (nI 0) x4 x5
  replace hJ := hJ.fr (up_fr h a (.inr (0, [.ref (a + 1), .ref (a + 5), .int x1, .int x2, .int (nI 0), .int x4, .int x5]))) (by omega)
  refine J_aload_n dX0_goAll_5 rfl ?_
  refine J_iconst (x := 0) dX0_goAll_6 (by decide) ?_
  refine J_put (k := 5) dX0_goAll_7 gc_0 fl_RX0_31 (by decide) rfl hP.o hP.bo (Nat.le_of_ble_eq_true rfl) (fun _ => ⟨rfl, rfl⟩) rfl ?_
  replace hP := hP.so x1 x2 (nI 0) (nI 0) x5
  replace hJ := hJ.fr (up_fr _ a (.inr (0, [.ref (a + 1), .ref (a + 5), .int x1, .int x2, .int (nI 0), .int (nI 0), .int x5]))) (by omega)
  refine J_aload_n dX0_goAll_10 rfl ?_
  refine J_iconst (x := 0) dX0_goAll_11 (by decide) ?_
  refine J_put (k := 6) dX0_goAll_12 gc_0 fl_RX0_37 (by decide) rfl hP.o hP.bo (Nat.le_of_ble_eq_true rfl) (fun _ => ⟨rfl, rfl⟩) rfl ?_
  replace hP := hP.so x1 x2 (nI 0) (nI 0) (nI 0)
  replace hJ := hJ.fr (up_fr _ a (.inr (0, [.ref (a + 1), .ref (a + 5), .int x1, .int x2, .int (nI 0), .int (nI 0), .int (nI 0)]))) (by omega)
  refine J_iconst (x := 0) dX0_goAll_15 (by decide) ?_
  refine J_istore_n dX0_goAll_16 (by decide) rfl ?_
  exact l2_X0_goAll hA hd hQ 65 0 _ js _ _ _ (by omega) (by omega) (((Fr.rf.up (by omega) (by omega)).up (by omega) (by omega)).up (by omega) (by omega)) hP hJ (fun _ => WI.first ls g js)
end SWay2
end
section
/-! the history: four Links objects, whose places in the row are moved about -/
def XR (h : g_H) (a : Nat) (n : Int32) (f : Nat → Option Nat) : Prop := (1 ≤ a ∧ a + 21 ≤ h.2) ∧ h.1 a = .inr (1, [.ref (a + 1), .int n]) ∧ h.1 (a + 1) = .inl (2, 4, .inr (.inr (.inr (.inr f))))
def XV (h : g_H) (a : Nat) (hs : List (List Lk)) (f : Nat → Option Nat) : Prop := ∃ σ : Nat → Nat, (∀ i, i < 4 → σ i < 4 ∧ f i = some (a + 2 + 5 * σ i)) ∧ (∀ i, i < 4 → ∀ j, j < 4 → σ i = σ j → i = j) ∧ ∀ i, i < 4 → ∃ l, LA h (a + 2 + 5 * σ i) l ∧ ∀ q, hs[i]? = some q → l = q
def HA (h : g_H) (a : Nat) (hs : List (List Lk)) : Prop := hs.length ≤ 4 ∧ ∃ f, XR h a (nI hs.length) f ∧ XV h a hs f
section SHist
variable {h h' : g_H} {a b : Nat} {n : Int32} {f : Nat → Option Nat} {ls : List Lk} {hs : List (List Lk)} {Q : Option Value → g_H → Prop}
theorem XR.o (p : XR h a n f) : h.1 a = .inr (1, [.ref (a + 1), .int n]) := p.2.1
theorem XR.bo (p : XR h a n f) : 1 ≤ a ∧ a ≤ h.2 := ⟨p.1.1, by have := p.1.2; omega⟩
theorem XR.c (p : XR h a n f) : h.1 (a + 1) = .inl (2, 4, .inr (.inr (.inr (.inr f)))) := p.2.2
theorem XR.bc (p : XR h a n f) : 1 ≤ a + 1 ∧ a + 1 ≤ h.2 := ⟨by omega, by have := p.1.2; omega⟩
theorem XR.fr {lo hi : Nat} (p : XR h a n f) (F : Fr lo hi h h') (q : a + 2 ≤ lo ∨ hi ≤ a) : XR h' a n f := ⟨⟨p.1.1, by rw [F.1]; exact p.1.2⟩, (F.2 a (by omega)).trans p.o, (F.2 (a + 1) (by omega)).trans p.c⟩
theorem XR.so (p : XR h a n f) (m : Int32) : XR (g_up h a (.inr (1, [.ref (a + 1), .int m]))) a m f := ⟨p.1, g_up_s h _ _, (g_up_n h _ (by omega)).trans p.c⟩
theorem XR.sc (p : XR h a n f) (g : Nat → Option Nat) : XR (g_up h (a + 1) (.inl (2, 4, .inr (.inr (.inr (.inr g)))))) a n g := ⟨p.1, (g_up_n h _ (by omega)).trans p.o, g_up_s h _ _⟩
theorem XV.fr {lo hi : Nat} (p : XV h a hs f) (F : Fr lo hi h h') (q : a + 22 ≤ lo ∨ hi ≤ a + 2) : XV h' a hs f := by
  obtain ⟨σ, p1, p2, p3⟩ := p
  refine ⟨σ, p1, p2, fun i hi => ?_⟩
  obtain ⟨l, q1, q2⟩ := p3 i hi
  have := (p1 i hi).1
  exact ⟨l, q1.fr F (by omega), q2⟩
theorem HA.fr {lo hi : Nat} (p : HA h a hs) (F : Fr lo hi h h') (q : a + 22 ≤ lo ∨ hi ≤ a) : HA h' a hs := by
  obtain ⟨p0, f, p1, p2⟩ := p
  exact ⟨p0, f, p1.fr F (by omega), p2.fr F (by omega)⟩
theorem HA.o (p : HA h a hs) : h.1 a = .inr (1, [.ref (a + 1), .int (nI hs.length)]) := by
  obtain ⟨p0, f, p1, p2⟩ := p
  exact p1.o
theorem HA.bo (p : HA h a hs) : 1 ≤ a ∧ a ≤ h.2 := by
  obtain ⟨p0, f, p1, p2⟩ := p
  exact p1.bo
theorem XV.at (p : XV h a hs f) {i : Nat} (hi : i < 4) : ∃ b l, f i = some b ∧ (a + 2 ≤ b ∧ b + 5 ≤ a + 22) ∧ LA h b l ∧ ∀ q, hs[i]? = some q → l = q := by
  obtain ⟨σ, p1, p2, p3⟩ := p
  obtain ⟨l, q1, q2⟩ := p3 i hi
  have := p1 i hi
  exact ⟨_, l, this.2, by have := this.1; omega, q1, q2⟩
theorem s_X1_size (hH : HA h a hs) (hQ : ∀ r, r = nI hs.length → Q (some (.int r)) h) : MJ m_X1_size 0 0 0 [.ref a] h Q := by
  obtain ⟨hn, f, hP, hV⟩ := hH
  refine MJ_of_J (L := [some (.ref a)]) (by decide +kernel) rfl (Nat.le_of_ble_eq_true rfl) rfl ?_
  refine J_aload_n dX1_size_0 rfl ?_
  refine J_get (k := 1) dX1_size_1 gc_1 fl_RX1_18 (by decide) hP.o hP.bo rfl ?_
  exact J_iret dX1_size_4 rfl ⟨rfl, Nat.le_refl _⟩ (hQ _ rfl)
def shO (k : Nat) (f : Nat → Option Nat) : Nat → Option Nat := fun i => if i + 1 < k then f (i + 1) else f i
theorem shO_1 (f : Nat → Option Nat) : shO 1 f = f := by
  funext i
  unfold shO
  rw [if_neg (by omega)]
theorem shO_k (k : Nat) (f : Nat → Option Nat) : shO k f k = f k := by
  unfold shO
  rw [if_neg (by omega)]
theorem shO_s {k : Nat} (f : Nat → Option Nat) (h : 1 ≤ k) {b : Nat} (hb : f k = some b) : va_up (shO k f) (k - 1) (some b) = shO (k + 1) f := by
  funext i
  unfold va_up shO
  by_cases e : i = k - 1
  · subst e
    rw [if_pos rfl, if_pos (by omega), show k - 1 + 1 = k by omega, hb]
  · rw [if_neg e]
    by_cases q : i + 1 < k
    · rw [if_pos q, if_pos (by omega)]
    · rw [if_neg q, if_neg (by omega)]
theorem XV.drop {b : Nat} (p : XV h a hs f) (hb : f 0 = some b) (hl : hs.length ≤ 4) : XV h a (hs.drop 1) (va_up (shO 4 f) 3 (some b)) := by
  obtain ⟨σ, p1, p2, p3⟩ := p
  have hb0 := (p1 0 (by omega)).2
  rw [hb] at hb0
  have e : ∀ i, i < 4 → (va_up (shO 4 f) 3 (some b)) i = f (if i = 3 then 0 else i + 1) := by
    intro i hi
    unfold va_up shO
    by_cases q : i = 3
    · rw [if_pos q, if_pos q, hb]
    · rw [if_neg q, if_neg q, if_pos (by omega)]
  refine ⟨fun i => σ (if i = 3 then 0 else i + 1), fun i hi => ?_, fun i hi j hj q => ?_, fun i hi => ?_⟩
  · rw [e i hi]
    exact p1 _ (by split <;> omega)
  · have := p2 _ (show (if i = 3 then 0 else i + 1) < 4 by split <;> omega) _ (show (if j = 3 then 0 else j + 1) < 4 by split <;> omega) q
    split at this <;> split at this <;> omega
  · obtain ⟨l, q1, q2⟩ := p3 (if i = 3 then 0 else i + 1) (by split <;> omega)
    refine ⟨l, q1, fun q hq => ?_⟩
    rw [List.getElem?_drop] at hq
    have h4 : 1 + i < hs.length := get_lt hq
    refine q2 q ?_
    rw [if_neg (by omega), Nat.add_comm]
    exact hq
theorem l_X1_dropOldest {n : Int32} {b : Nat} (hV0 : XV h a hs f) (hb : f 0 = some b) (hl : hs.length ≤ 4) (hQ : ∀ h', Fr a (a + 2) h h' → XR h' a (nI 3) (va_up (shO 4 f) 3 (some b)) → Q none h') : ∀ (t k : Nat) (h1 : g_H), 4 - k < t → 1 ≤ k → k ≤ 4 → Fr a (a + 2) h h1 → XR h1 a n (shO k f) → J m_X1_dropOldest 0 0 0 0 0 9 [some (.ref a), some (.ref b), some (.int (nI k))] [] h1 Q := by
  intro t
  induction t with
  | zero => intro k h1 ht; omega
  | succ t ih =>
    intro k h1 ht hk0 hk hF hP
    have ek : nI k - 1 = nI (k - 1) := pk_sub (b := 1) (by omega)
    have hV := hV0.fr hF (by omega)
    refine J_iload_n dX1_dropOldest_9 rfl ?_
    refine J_iconst (x := 4) dX1_dropOldest_10 (by decide) ?_
    refine J_icmp_ge (tgt := 34) dX1_dropOldest_11 (by decide) (fun c11 => ?_) (fun c11 => ?_)
    · have c11 := (nI_leI (a := 4) (b := k) (by omega) (by omega)).mp c11
      obtain rfl : k = 4 := by omega
      obtain ⟨b0, l0, g1, g2, g3, -⟩ := hV.at (show 0 < 4 by omega)
      obtain rfl : b0 = b := by rw [hb] at g1; exact (Option.some.inj g1).symm
      refine J_aload_n dX1_dropOldest_34 rfl ?_
      refine J_get (k := 0) dX1_dropOldest_35 gc_1 fl_RX1_11 (by decide) hP.o hP.bo rfl ?_
      refine J_iconst (x := 3) dX1_dropOldest_38 (by decide) ?_
      refine J_aload_n dX1_dropOldest_39 rfl ?_
      refine J_aast dX1_dropOldest_40 hP.c hP.bc (vp_in_nI (n := 3) (by decide) (by decide)) g3.o g3.b ?_
      replace hP := hP.sc (va_up (shO 4 f) 3 (some b0))
      refine J_aload_n dX1_dropOldest_41 rfl ?_
      refine J_iconst (x := 3) dX1_dropOldest_42 (by decide) ?_
      refine J_put (k := 1) dX1_dropOldest_43 gc_1 fl_RX1_18 (by decide) rfl hP.o hP.bo (Nat.le_of_ble_eq_true rfl) (fun _ => ⟨rfl, rfl⟩) rfl ?_
      replace hP := hP.so (nI 3)
      exact J_vret dX1_dropOldest_46 rfl ⟨rfl, Nat.le_refl _⟩ (hQ _ ((hF.up (by omega) (by omega)).up (by omega) (by omega)) hP)
    · have c11 : k < 4 := Nat.not_le.mp (fun q => c11 ((nI_leI (a := 4) (b := k) (by omega) (by omega)).mpr q))
      obtain ⟨bk, lk, g1, g2, g3, -⟩ := hV.at c11
      refine J_aload_n dX1_dropOldest_14 rfl ?_
      refine J_get (k := 0) dX1_dropOldest_15 gc_1 fl_RX1_11 (by decide) hP.o hP.bo rfl ?_
      refine J_iload_n dX1_dropOldest_18 rfl ?_
      refine J_iconst (x := 1) dX1_dropOldest_19 (by decide) ?_
      refine J_isub dX1_dropOldest_20 ?_
      rw [ek]
      refine J_aload_n dX1_dropOldest_21 rfl ?_
      refine J_get (k := 0) dX1_dropOldest_22 gc_1 fl_RX1_11 (by decide) hP.o hP.bo rfl ?_
      refine J_iload_n dX1_dropOldest_25 rfl ?_
      refine J_aald dX1_dropOldest_26 hP.c hP.bc (vp_in_nI c11 (by decide)) (by rw [nI_clamp (by omega), shO_k]; exact g1) ?_
      refine J_aast dX1_dropOldest_27 hP.c hP.bc (vp_in_nI (show k - 1 < 4 by omega) (by decide)) g3.o g3.b ?_
      rw [nI_clamp (n := k - 1) (by omega), shO_s f hk0 g1]
      replace hP := hP.sc (shO (k + 1) f)
      refine J_iinc dX1_dropOldest_28 rfl (nI_i1 k) (by decide) rfl ?_
      refine J_goto (tgt := 9) dX1_dropOldest_31 (by decide) ?_
      exact ih (k + 1) _ (by omega) (by omega) (by omega) (hF.up (by omega) (by omega)) hP
theorem s_X1_dropOldest {n : Int32} (hP : XR h a n f) (hV : XV h a hs f) (hl : hs.length ≤ 4) (hQ : ∀ h' b, f 0 = some b → Fr a (a + 2) h h' → XR h' a (nI 3) (va_up (shO 4 f) 3 (some b)) → Q none h') : MJ m_X1_dropOldest 0 0 0 [.ref a] h Q := by
  obtain ⟨b, l0, g1, g2, g3, -⟩ := hV.at (show 0 < 4 by omega)
  refine MJ_of_J (L := [some (.ref a), none, none]) (by decide +kernel) rfl (Nat.le_of_ble_eq_true rfl) rfl ?_
  refine J_aload_n dX1_dropOldest_0 rfl ?_
  refine J_get (k := 0) dX1_dropOldest_1 gc_1 fl_RX1_11 (by decide) hP.o hP.bo rfl ?_
  refine J_iconst (x := 0) dX1_dropOldest_4 (by decide) ?_
  refine J_aald dX1_dropOldest_5 hP.c hP.bc (vp_in_nI (n := 0) (by decide) (by decide)) g1 ?_
  refine J_astore_n dX1_dropOldest_6 (by decide) rfl ?_
  refine J_iconst (x := 1) dX1_dropOldest_7 (by decide) ?_
  refine J_istore_n dX1_dropOldest_8 (by decide) rfl ?_
  exact l_X1_dropOldest hV g1 hl (fun h2 F2 P2 => hQ h2 b g1 F2 P2) 4 1 h (by omega) (by omega) (by omega) Fr.rf (by rw [shO_1]; exact hP)
/-- what the history is behind an act -/
def rmb (hs : List (List Lk)) (ls : List Lk) : List (List Lk) := (if hs.length = 4 then hs.drop 1 else hs) ++ [ls]
theorem s_X1_remember (hH : HA h a hs) (hA : LA h b ls) (hd : b + 5 ≤ a ∨ a + 22 ≤ b) (hQ : ∀ h', Fr a (a + 22) h h' → HA h' a (rmb hs ls) → Q none h') : MJ m_X1_remember 4 0 0 [.ref a, .ref b] h Q := by
  have K : ∀ (h1 : g_H) (hs1 : List (List Lk)) (f : Nat → Option Nat), Fr a (a + 22) h h1 → XR h1 a (nI hs1.length) f → XV h1 a hs1 f → hs1.length < 4 → rmb hs ls = hs1 ++ [ls] → J m_X1_remember 4 0 0 0 0 12 [some (.ref a), some (.ref b), none] [] h1 Q := by
    intro h1 hs1 f hF hP hV hl he
    replace hA := hA.fr hF (by omega)
    obtain ⟨σ, p1, p2, p3⟩ := hV
    obtain ⟨l, hG, -⟩ := p3 hs1.length hl
    have hσ := p1 hs1.length hl
    refine J_aload_n dX1_remember_12 rfl ?_
    refine J_get (k := 0) dX1_remember_13 gc_1 fl_RX1_11 (by decide) hP.o hP.bo rfl ?_
    refine J_aload_n dX1_remember_16 rfl ?_
    refine J_get (k := 1) dX1_remember_17 gc_1 fl_RX1_18 (by decide) hP.o hP.bo rfl ?_
    refine J_aald dX1_remember_20 hP.c hP.bc (vp_in_nI hl (by decide)) (by rw [nI_clamp (by omega)]; exact hσ.2) ?_
    refine J_astore_n dX1_remember_21 (by decide) rfl ?_
    refine J_aload_n dX1_remember_22 rfl ?_
    refine J_ifnull dX1_remember_23 ?_
    refine J_aload_n dX1_remember_26 rfl ?_
    refine J_aload_n dX1_remember_27 rfl ?_
    refine J_callV (As := [_]) (rest := []) (M' := m_X4_take) dX1_remember_28 ml_RX1_25 gm_X4_take gv_X4_take hG.o hG.b rfl rfl rfl (Nat.le_of_ble_eq_true rfl) (by decide) ⟨rfl, rfl, by decide, by decide⟩ (s_X4_take hG hA (by omega) (fun h2 hF2 hG2 => ?_))
    replace hP := hP.fr hF2 (by omega)
    refine J_aload_n dX1_remember_31 rfl ?_
    refine J_dup dX1_remember_32 rfl ?_
    refine J_get (k := 1) dX1_remember_33 gc_1 fl_RX1_18 (by decide) hP.o hP.bo rfl ?_
    refine J_iconst (x := 1) dX1_remember_36 (by decide) ?_
    refine J_iadd dX1_remember_37 ?_
    rw [nI_1]
    refine J_put (k := 1) dX1_remember_38 gc_1 fl_RX1_18 (by decide) rfl hP.o hP.bo (Nat.le_of_ble_eq_true rfl) (fun _ => ⟨rfl, rfl⟩) rfl ?_
    replace hP := hP.so (nI (hs1.length + 1))
    have hF3 := up_fr h2 a (.inr (1, [.ref (a + 1), .int (nI (hs1.length + 1))]))
    have hl3 : (hs1 ++ [ls]).length = hs1.length + 1 := by rw [List.length_append]; rfl
    exact J_vret dX1_remember_41 rfl ⟨rfl, Nat.le_refl _⟩ (hQ _ ((hF.tr (hF2.mono (by omega) (by omega))).up (by omega) (by omega)) (by
      rw [he]
      refine ⟨by omega, f, by rw [hl3]; exact hP, σ, p1, p2, fun i hi => ?_⟩
      by_cases e : i = hs1.length
      · subst e
        exact ⟨ls, hG2.fr hF3 (by omega), fun q hq => by rw [List.getElem?_append_right (Nat.le_refl _), Nat.sub_self] at hq; simpa using hq⟩
      · obtain ⟨l2, z1, z2⟩ := p3 i hi
        have n1 : σ i ≠ σ hs1.length := fun z => e (p2 i hi _ hl z)
        have n2 := (p1 i hi).1
        refine ⟨l2, (z1.fr hF2 (by omega)).fr hF3 (by omega), fun q hq => z2 q ?_⟩
        have : i < hs1.length := by have := get_lt hq; omega
        rwa [List.getElem?_append_left this] at hq))
  obtain ⟨hn, f, hP, hV⟩ := hH
  refine MJ_of_J (L := [some (.ref a), some (.ref b), none]) (by decide +kernel) rfl (Nat.le_of_ble_eq_true rfl) rfl ?_
  refine J_aload_n dX1_remember_0 rfl ?_
  refine J_get (k := 1) dX1_remember_1 gc_1 fl_RX1_18 (by decide) hP.o hP.bo rfl ?_
  refine J_iconst (x := 4) dX1_remember_4 (by decide) ?_
  refine J_icmp_lt (tgt := 12) dX1_remember_5 (by decide) (fun c5 => ?_) (fun c5 => ?_)
  · have c5 := (nI_ltI (b := 4) (by omega) (by omega)).mp c5
    exact K h hs f Fr.rf hP hV c5 (by unfold rmb; rw [if_neg (by omega)])
  · have c5 : hs.length = 4 := by
      have c5 : ¬ hs.length < 4 := fun q => c5 ((nI_ltI (b := 4) (by omega) (by omega)).mpr q)
      omega
    refine J_aload_n dX1_remember_8 rfl ?_
    refine J_callV (As := []) (rest := []) (M' := m_X1_dropOldest) dX1_remember_9 ml_RX1_22 gm_X1_dropOldest gv_X1_dropOldest hP.o hP.bo rfl rfl rfl (Nat.le_of_ble_eq_true rfl) (by decide) ⟨rfl, rfl, by decide, by decide⟩ (s_X1_dropOldest hP hV hn (fun h1 b0 g1 hF1 hP1 => ?_))
    have hl1 : (hs.drop 1).length = 3 := by rw [List.length_drop]; omega
    exact K h1 (hs.drop 1) _ (hF1.mono (by omega) (by omega)) (by rw [hl1]; exact hP1) ((hV.drop g1 hn).fr hF1 (by omega)) (by omega) (by unfold rmb; rw [if_pos c5])
theorem s_X1_goBack {q : List Lk} (hH : HA h a (hs ++ [q])) (hA : LA h b ls) (hd : b + 5 ≤ a ∨ a + 22 ≤ b) (hQ : ∀ h1 h2, Fr a (a + 22) h h1 → HA h1 a hs → Fr b (b + 5) h1 h2 → LA h2 b q → Q none h2) : MJ m_X1_goBack 4 0 0 [.ref a, .ref b] h Q := by
  obtain ⟨hn, f, hP, hV⟩ := hH
  have hl3 : (hs ++ [q]).length = hs.length + 1 := by rw [List.length_append]; rfl
  rw [hl3] at hn hP
  obtain ⟨bk, lk, g1, g2, hG, g4⟩ := hV.at (show hs.length < 4 by omega)
  obtain rfl := g4 q (by rw [List.getElem?_append_right (Nat.le_refl _), Nat.sub_self]; rfl)
  have hV2 : XV h a hs f := by
    obtain ⟨σ, p1, p2, p3⟩ := hV
    refine ⟨σ, p1, p2, fun i hi => ?_⟩
    obtain ⟨l, z1, z2⟩ := p3 i hi
    exact ⟨l, z1, fun q2 hq => z2 q2 (by rw [List.getElem?_append_left (get_lt hq)]; exact hq)⟩
  refine MJ_of_J (L := [some (.ref a), some (.ref b), none]) (by decide +kernel) rfl (Nat.le_of_ble_eq_true rfl) rfl ?_
  refine J_aload_n dX1_goBack_0 rfl ?_
  refine J_get (k := 1) dX1_goBack_1 gc_1 fl_RX1_18 (by decide) hP.o hP.bo rfl ?_
  refine J_iconst (x := 1) dX1_goBack_4 (by decide) ?_
  refine J_icmp_ge (tgt := 9) dX1_goBack_5 (by decide) (fun c5 => ?_) (fun c5 => absurd ((nI_leI (a := 1) (by omega) (by omega)).mpr (by omega)) c5)
  refine J_aload_n dX1_goBack_9 rfl ?_
  refine J_dup dX1_goBack_10 rfl ?_
  refine J_get (k := 1) dX1_goBack_11 gc_1 fl_RX1_18 (by decide) hP.o hP.bo rfl ?_
  refine J_iconst (x := 1) dX1_goBack_14 (by decide) ?_
  refine J_isub dX1_goBack_15 ?_
  rw [nI_pred]
  refine J_put (k := 1) dX1_goBack_16 gc_1 fl_RX1_18 (by decide) rfl hP.o hP.bo (Nat.le_of_ble_eq_true rfl) (fun _ => ⟨rfl, rfl⟩) rfl ?_
  replace hP := hP.so (nI hs.length)
  have hF1 := up_fr h a (.inr (1, [.ref (a + 1), .int (nI hs.length)]))
  replace hA := hA.fr hF1 (by omega)
  replace hG := hG.fr hF1 (by omega)
  refine J_aload_n dX1_goBack_19 rfl ?_
  refine J_get (k := 0) dX1_goBack_20 gc_1 fl_RX1_11 (by decide) hP.o hP.bo rfl ?_
  refine J_aload_n dX1_goBack_23 rfl ?_
  refine J_get (k := 1) dX1_goBack_24 gc_1 fl_RX1_18 (by decide) hP.o hP.bo rfl ?_
  refine J_aald dX1_goBack_27 hP.c hP.bc (vp_in_nI (show hs.length < 4 by omega) (by decide)) (by rw [nI_clamp (by omega)]; exact g1) ?_
  refine J_astore_n dX1_goBack_28 (by decide) rfl ?_
  refine J_aload_n dX1_goBack_29 rfl ?_
  refine J_ifnull dX1_goBack_30 ?_
  refine J_aload_n dX1_goBack_33 rfl ?_
  refine J_aload_n dX1_goBack_34 rfl ?_
  refine J_callV (As := [_]) (rest := []) (M' := m_X4_take) dX1_goBack_35 ml_RX1_25 gm_X4_take gv_X4_take hA.o hA.b rfl rfl rfl (Nat.le_of_ble_eq_true rfl) (by decide) ⟨rfl, rfl, by decide, by decide⟩ (s_X4_take hA hG (by omega) (fun h2 hF2 hA2 => ?_))
  exact J_vret dX1_goBack_38 rfl ⟨rfl, Nat.le_refl _⟩ (hQ _ h2 (hF1.mono (by omega) (by omega)) ⟨by omega, f, hP, hV2.fr hF1 (by omega)⟩ hF2 hA2)
end SHist
end
section
/-! texts: a list of characters' numbers; what is read of it, purely -/
def dg (tx : List Nat) (i : Nat) : Option Nat := match tx[i]? with
  | some c => if 48 ≤ c ∧ c ≤ 57 then some (c - 48) else none
  | none => none
/-- a number up to another one, from a place on: it, and the place behind it -/
def rN (tx : List Nat) (gr p : Nat) : Option (Nat × Nat) := match dg tx p with
  | none => none
  | some v => match dg tx (p + 1) with
    | none => some (v, p + 1)
    | some x => if v = 0 ∨ gr < 10 * v + x then some (v, p + 1) else some (10 * v + x, p + 2)
theorem dg_lt {tx : List Nat} {i v : Nat} (h : dg tx i = some v) : v ≤ 9 ∧ i < tx.length := by
  unfold dg at h
  cases hc : tx[i]? with
  | none => rw [hc] at h; cases h
  | some c =>
    rw [hc] at h
    dsimp only at h
    split at h
    · cases h
      exact ⟨by omega, get_lt hc⟩
    · cases h
theorem rN_b {tx : List Nat} {gr p v q : Nat} (hg : 9 ≤ gr) (h : rN tx gr p = some (v, q)) : v ≤ gr ∧ p + 1 ≤ q ∧ q ≤ tx.length := by
  unfold rN at h
  cases h1 : dg tx p with
  | none => rw [h1] at h; cases h
  | some v1 =>
    rw [h1] at h
    dsimp only at h
    have b1 := dg_lt h1
    cases h2 : dg tx (p + 1) with
    | none =>
      rw [h2] at h
      cases h
      exact ⟨by omega, by omega, by omega⟩
    | some x =>
      rw [h2] at h
      dsimp only at h
      have b2 := dg_lt h2
      split at h
      · cases h
        exact ⟨by omega, by omega, by omega⟩
      · rename_i hc
        cases h
        exact ⟨by omega, by omega, by omega⟩
/-- a link, from a place on: it and the place behind it, or the place of the fault -/
def rL (tx : List Nat) (p : Nat) : Option Lk × Nat := match rN tx 15 p with
  | none => (none, p)
  | some (one, p1) => if ¬ tx[p1]? = some 45 then (none, p1) else match rN tx 15 (p1 + 1) with
    | none => (none, p1 + 1)
    | some (ot, p2) => if ot = one then (none, p2 - 1) else if ¬ tx[p2]? = some 64 then (none, p2) else match rN tx 63 (p2 + 1) with
      | none => (none, p2 + 1)
      | some (fr, p3) => if ¬ tx[p3]? = some 58 then (none, p3) else match rN tx 64 (p3 + 1) with
        | none => (none, p3 + 1)
        | some (to, p4) => if to ≤ fr then (none, p4 - 1) else (some (one, ot, fr, to), p4)
/-- the text: its links, and the fault -/
def rT (tx : List Nat) : Nat → Nat → List Lk → List Lk × Option Nat
  | 0, p, acc => (acc, some p)
  | n + 1, p, acc => match rL tx p with
    | (none, q) => (acc, some q)
    | (some y, q) => if q = tx.length then (acc ++ [y], none) else if tx[q]? = some 44 then rT tx n (q + 1) (acc ++ [y]) else (acc ++ [y], some q)
theorem rL_ok {tx : List Nat} {p q : Nat} {y : Lk} (h : rL tx p = (some y, q)) : okK y ∧ p + 7 ≤ q ∧ q ≤ tx.length := by
  unfold rL at h
  cases h1 : rN tx 15 p with
  | none => rw [h1] at h; simp at h
  | some r1 =>
    obtain ⟨one, p1⟩ := r1
    rw [h1] at h
    dsimp only at h
    have b1 := rN_b (by omega) h1
    by_cases c1 : tx[p1]? = some 45
    · rw [if_neg (fun z => z c1)] at h
      cases h2 : rN tx 15 (p1 + 1) with
      | none => rw [h2] at h; simp at h
      | some r2 =>
        obtain ⟨ot, p2⟩ := r2
        rw [h2] at h
        dsimp only at h
        have b2 := rN_b (by omega) h2
        by_cases c2 : ot = one
        · rw [if_pos c2] at h; simp at h
        · rw [if_neg c2] at h
          by_cases c3 : tx[p2]? = some 64
          · rw [if_neg (fun z => z c3)] at h
            cases h3 : rN tx 63 (p2 + 1) with
            | none => rw [h3] at h; simp at h
            | some r3 =>
              obtain ⟨fr, p3⟩ := r3
              rw [h3] at h
              dsimp only at h
              have b3 := rN_b (by omega) h3
              by_cases c4 : tx[p3]? = some 58
              · rw [if_neg (fun z => z c4)] at h
                cases h4 : rN tx 64 (p3 + 1) with
                | none => rw [h4] at h; simp at h
                | some r4 =>
                  obtain ⟨to, p4⟩ := r4
                  rw [h4] at h
                  dsimp only at h
                  have b4 := rN_b (by omega) h4
                  by_cases c5 : to ≤ fr
                  · rw [if_pos c5] at h; simp at h
                  · rw [if_neg c5] at h
                    simp only [Prod.mk.injEq, Option.some.injEq] at h
                    obtain ⟨rfl, rfl⟩ := h
                    exact ⟨⟨by show one < 16; omega, by show ot < 16; omega, fun z => c2 z.symm, by show fr < to; omega, by show to ≤ 64; omega⟩, by omega, by omega⟩
              · rw [if_pos c4] at h; simp at h
          · rw [if_pos c3] at h; simp at h
    · rw [if_pos c1] at h; simp at h
def TR (h : g_H) (a : Nat) (n p : Int32) (g : Nat → Int32) : Prop := (1 ≤ a ∧ a + 1 ≤ h.2) ∧ h.1 a = .inr (3, [.ref (a + 1), .int n, .int p]) ∧ h.1 (a + 1) = .inl (1, 60, .inl g)
def TV (tx : List Nat) (g : Nat → Int32) : Prop := ∀ (i c : Nat), tx[i]? = some c → g i = nI c
/-- a text object: its characters, the place of the reading -/
def TP (h : g_H) (a : Nat) (tx : List Nat) (p : Int32) : Prop := ∃ g, TR h a (nI tx.length) p g ∧ TV tx g ∧ tx.length ≤ 60 ∧ ∀ c ∈ tx, c < 65536
section SText
variable {h h' : g_H} {a : Nat} {n p : Int32} {g : Nat → Int32} {tx : List Nat} {acc : List Lk} {Q : Option Value → g_H → Prop}
theorem TR.o (q : TR h a n p g) : h.1 a = .inr (3, [.ref (a + 1), .int n, .int p]) := q.2.1
theorem TR.bo (q : TR h a n p g) : 1 ≤ a ∧ a ≤ h.2 := ⟨q.1.1, by have := q.1.2; omega⟩
theorem TR.c (q : TR h a n p g) : h.1 (a + 1) = .inl (1, 60, .inl g) := q.2.2
theorem TR.bc (q : TR h a n p g) : 1 ≤ a + 1 ∧ a + 1 ≤ h.2 := ⟨by omega, q.1.2⟩
theorem TR.fr {lo hi : Nat} (q : TR h a n p g) (F : Fr lo hi h h') (z : a + 2 ≤ lo ∨ hi ≤ a) : TR h' a n p g := ⟨⟨q.1.1, by rw [F.1]; exact q.1.2⟩, (F.2 a (by omega)).trans q.o, (F.2 (a + 1) (by omega)).trans q.c⟩
theorem TR.so (q : TR h a n p g) (m r : Int32) : TR (g_up h a (.inr (3, [.ref (a + 1), .int m, .int r]))) a m r g := ⟨q.1, g_up_s h _ _, (g_up_n h _ (by omega)).trans q.c⟩
theorem TR.sc (q : TR h a n p g) (f : Nat → Int32) : TR (g_up h (a + 1) (.inl (1, 60, .inl f))) a n p f := ⟨q.1, (g_up_n h _ (by omega)).trans q.o, g_up_s h _ _⟩
theorem TP.fr {lo hi : Nat} (q : TP h a tx p) (F : Fr lo hi h h') (z : a + 2 ≤ lo ∨ hi ≤ a) : TP h' a tx p := by
  obtain ⟨g, q1, q2⟩ := q
  exact ⟨g, q1.fr F z, q2⟩
theorem TP.o (q : TP h a tx p) : h.1 a = .inr (3, [.ref (a + 1), .int (nI tx.length), .int p]) := by
  obtain ⟨g, q1, q2⟩ := q
  exact q1.o
theorem TP.bo (q : TP h a tx p) : 1 ≤ a ∧ a ≤ h.2 := by
  obtain ⟨g, q1, q2⟩ := q
  exact q1.bo
theorem TP.len (q : TP h a tx p) : tx.length ≤ 60 := by
  obtain ⟨g, q1, q2, q3, q4⟩ := q
  exact q3
theorem TP.so (q : TP h a tx p) (r : Int32) : TP (g_up h a (.inr (3, [.ref (a + 1), .int (nI tx.length), .int r]))) a tx r := by
  obtain ⟨g, q1, q2⟩ := q
  exact ⟨g, q1.so _ r, q2⟩
theorem s_X3_length (hP : TP h a tx p) (hQ : ∀ r, r = nI tx.length → Q (some (.int r)) h) : MJ m_X3_length 0 0 0 [.ref a] h Q := by
  refine MJ_of_J (L := [some (.ref a)]) (by decide +kernel) rfl (Nat.le_of_ble_eq_true rfl) rfl ?_
  refine J_aload_n dX3_length_0 rfl ?_
  refine J_get (k := 1) dX3_length_1 gc_3 fl_RX3_15 (by decide) hP.o hP.bo rfl ?_
  exact J_iret dX3_length_4 rfl ⟨rfl, Nat.le_refl _⟩ (hQ _ rfl)
theorem s_X3_empty (hP : TP h a tx p) (hQ : ∀ h', Fr a (a + 2) h h' → TP h' a [] p → Q none h') : MJ m_X3_empty 0 0 0 [.ref a] h Q := by
  obtain ⟨g, hR, -⟩ := hP
  refine MJ_of_J (L := [some (.ref a)]) (by decide +kernel) rfl (Nat.le_of_ble_eq_true rfl) rfl ?_
  refine J_aload_n dX3_empty_0 rfl ?_
  refine J_iconst (x := 0) dX3_empty_1 (by decide) ?_
  refine J_put (k := 1) dX3_empty_2 gc_3 fl_RX3_15 (by decide) rfl hR.o hR.bo (Nat.le_of_ble_eq_true rfl) (fun _ => ⟨rfl, rfl⟩) rfl ?_
  replace hR := hR.so (nI 0) p
  exact J_vret dX3_empty_5 rfl ⟨rfl, Nat.le_refl _⟩ (hQ _ (Fr.rf.up (by omega) (by omega)) ⟨g, hR, fun i c q => by simp at q, by simp, fun c q => by simp at q⟩)
theorem nar_c {c : Nat} (hc : c < 65536) : vp_nar .char (nI c) = nI c := by
  unfold vp_nar
  rw [(pk_charN hc).1]
theorem TV.push {c : Nat} (hV : TV tx g) : TV (tx ++ [c]) (upd g tx.length (nI c)) := by
  intro i d hi
  unfold upd
  by_cases e : i < tx.length
  · rw [List.getElem?_append_left e] at hi
    rw [if_neg (by omega)]
    exact hV i d hi
  · have e2 : i = tx.length := by
      have := get_lt hi
      simp at this
      omega
    subst e2
    rw [List.getElem?_append_right (Nat.le_refl _), Nat.sub_self] at hi
    simp at hi
    rw [if_pos rfl, hi]
theorem s_X3_append {c : Nat} (hP : TP h a tx p) (hc : c < 65536) (hl : tx.length < 60) (hQ : ∀ h', Fr a (a + 2) h h' → TP h' a (tx ++ [c]) p → Q none h') : MJ m_X3_append 0 0 0 [.ref a, .int (nI c)] h Q := by
  obtain ⟨g, hR, hV, hn, hO⟩ := hP
  refine MJ_of_J (L := [some (.ref a), some (.int (nI c))]) (by decide +kernel) rfl (Nat.le_of_ble_eq_true rfl) rfl ?_
  refine J_aload_n dX3_append_0 rfl ?_
  refine J_get (k := 1) dX3_append_1 gc_3 fl_RX3_15 (by decide) hR.o hR.bo rfl ?_
  refine J_bipush (x := 60) dX3_append_4 (by decide) ?_
  refine J_icmp_ge (tgt := 29) dX3_append_6 (by decide) (fun c6 => absurd ((nI_leI (a := 60) (b := tx.length) (by omega) (by omega)).mp c6) (by omega)) (fun c6 => ?_)
  refine J_aload_n dX3_append_9 rfl ?_
  refine J_get (k := 0) dX3_append_10 gc_3 fl_RX3_9 (by decide) hR.o hR.bo rfl ?_
  refine J_aload_n dX3_append_13 rfl ?_
  refine J_get (k := 1) dX3_append_14 gc_3 fl_RX3_15 (by decide) hR.o hR.bo rfl ?_
  refine J_iload_n dX3_append_17 rfl ?_
  refine J_cast dX3_append_18 hR.c hR.bc (vp_in_nI hl (by decide)) ?_
  rw [nI_clamp (n := tx.length) (by omega), nar_c hc]
  replace hR := hR.sc (upd g tx.length (nI c))
  refine J_aload_n dX3_append_19 rfl ?_
  refine J_dup dX3_append_20 rfl ?_
  refine J_get (k := 1) dX3_append_21 gc_3 fl_RX3_15 (by decide) hR.o hR.bo rfl ?_
  refine J_iconst (x := 1) dX3_append_24 (by decide) ?_
  refine J_iadd dX3_append_25 ?_
  rw [nI_1]
  refine J_put (k := 1) dX3_append_26 gc_3 fl_RX3_15 (by decide) rfl hR.o hR.bo (Nat.le_of_ble_eq_true rfl) (fun _ => ⟨rfl, rfl⟩) rfl ?_
  replace hR := hR.so (nI (tx.length + 1)) p
  exact J_vret dX3_append_29 rfl ⟨rfl, Nat.le_refl _⟩ (hQ _ ((Fr.rf.up (by omega) (by omega)).up (by omega) (by omega)) ⟨_, by rw [List.length_append]; exact hR, hV.push, by rw [List.length_append]; exact hl, fun d q => by rcases List.mem_append.mp q with q | q; exact hO d q; rw [List.mem_singleton.mp q]; exact hc⟩)
/-- an answer: a number, or -1 -/
def oI (o : Option Nat) : Int32 := match o with
  | none => -1
  | some v => nI v
theorem s_X3_digitAt {i : Nat} (hP : TP h a tx p) (hi : i < 1000) (hQ : ∀ r, r = oI (dg tx i) → Q (some (.int r)) h) : MJ m_X3_digitAt 0 0 0 [.ref a, .int (nI i)] h Q := by
  obtain ⟨g, hR, hV, hn, hO⟩ := hP
  refine MJ_of_J (L := [some (.ref a), some (.int (nI i)), none]) (by decide +kernel) rfl (Nat.le_of_ble_eq_true rfl) rfl ?_
  refine J_iload_n dX3_digitAt_0 rfl ?_
  refine J_if_lt (tgt := 12) dX3_digitAt_1 (by decide) (fun c1 => absurd c1 (nI_pos (by omega))) (fun c1 => ?_)
  refine J_iload_n dX3_digitAt_4 rfl ?_
  refine J_aload_n dX3_digitAt_5 rfl ?_
  refine J_get (k := 1) dX3_digitAt_6 gc_3 fl_RX3_15 (by decide) hR.o hR.bo rfl ?_
  refine J_icmp_lt (tgt := 14) dX3_digitAt_9 (by decide) (fun c9 => ?_) (fun c9 => ?_)
  · have c9 := (nI_ltI (by omega) (by omega)).mp c9
    obtain ⟨c, hc⟩ := get_of c9
    have hc6 := hO c (List.mem_of_getElem? hc)
    have hgc := hV i c hc
    refine J_aload_n dX3_digitAt_14 rfl ?_
    refine J_get (k := 0) dX3_digitAt_15 gc_3 fl_RX3_9 (by decide) hR.o hR.bo rfl ?_
    refine J_iload_n dX3_digitAt_18 rfl ?_
    refine J_cald dX3_digitAt_19 hR.c hR.bc (vp_in_nI (show i < 60 by omega) (by decide)) ?_
    rw [nI_clamp (n := i) (by omega), hgc]
    refine J_istore_n dX3_digitAt_20 (by decide) rfl ?_
    refine J_iload_n dX3_digitAt_21 rfl ?_
    refine J_bipush (x := 48) dX3_digitAt_22 (by decide) ?_
    refine J_icmp_lt (tgt := 40) dX3_digitAt_24 (by decide) (fun c24 => ?_) (fun c24 => ?_)
    · refine J_iconst (x := -1) dX3_digitAt_40 (by decide) ?_
      exact J_iret dX3_digitAt_41 rfl ⟨rfl, Nat.le_refl _⟩ (hQ _ (by unfold dg; rw [hc]; dsimp only; rw [if_neg (by have := (nI_ltI (a := c) (b := 48) (by omega) (by omega)).mp c24; omega)]; rfl))
    · refine J_iload_n dX3_digitAt_27 rfl ?_
      refine J_bipush (x := 57) dX3_digitAt_28 (by decide) ?_
      refine J_icmp_gt (tgt := 40) dX3_digitAt_30 (by decide) (fun c30 => ?_) (fun c30 => ?_)
      · refine J_iconst (x := -1) dX3_digitAt_40 (by decide) ?_
        exact J_iret dX3_digitAt_41 rfl ⟨rfl, Nat.le_refl _⟩ (hQ _ (by unfold dg; rw [hc]; dsimp only; rw [if_neg (by have := (nI_ltI (a := 57) (b := c) (by omega) (by omega)).mp c30; omega)]; rfl))
      · have c24 : ¬ c < 48 := fun q => c24 ((nI_ltI (b := 48) (by omega) (by omega)).mpr q)
        have c30 : ¬ 57 < c := fun q => c30 ((nI_ltI (a := 57) (by omega) (by omega)).mpr q)
        refine J_iload_n dX3_digitAt_33 rfl ?_
        refine J_bipush (x := 48) dX3_digitAt_34 (by decide) ?_
        refine J_isub dX3_digitAt_36 ?_
        refine J_goto (tgt := 41) dX3_digitAt_37 (by decide) ?_
        exact J_iret dX3_digitAt_41 rfl ⟨rfl, Nat.le_refl _⟩ (hQ _ (by unfold dg; rw [hc]; dsimp only; rw [if_pos (by constructor <;> omega)]; exact pk_sub (b := 48) (by omega)))
  · refine J_iconst (x := -1) dX3_digitAt_12 (by decide) ?_
    exact J_iret dX3_digitAt_13 rfl ⟨rfl, Nat.le_refl _⟩ (hQ _ (by unfold dg; rw [List.getElem?_eq_none (by have c9 : ¬ i < tx.length := fun q => c9 ((nI_ltI (by omega) (by omega)).mpr q); omega)]; rfl))
end SText
end
section
section SText2
variable {h h' : g_H} {a : Nat} {tx : List Nat} {acc : List Lk} {p : Nat} {Q : Option Value → g_H → Prop}
theorem s_X3_refuseLastDigit {p : Nat} (hP : TP h a tx (nI (p + 1))) (hQ : ∀ h', Fr a (a + 2) h h' → TP h' a tx (nI p) → Q (some (.int 0)) h') : MJ m_X3_refuseLastDigit 0 0 0 [.ref a] h Q := by
  refine MJ_of_J (L := [some (.ref a)]) (by decide +kernel) rfl (Nat.le_of_ble_eq_true rfl) rfl ?_
  refine J_aload_n dX3_refuseLastDigit_0 rfl ?_
  refine J_dup dX3_refuseLastDigit_1 rfl ?_
  refine J_get (k := 2) dX3_refuseLastDigit_2 gc_3 fl_RX3_24 (by decide) hP.o hP.bo rfl ?_
  refine J_iconst (x := 1) dX3_refuseLastDigit_5 (by decide) ?_
  refine J_isub dX3_refuseLastDigit_6 ?_
  rw [nI_pred]
  refine J_put (k := 2) dX3_refuseLastDigit_7 gc_3 fl_RX3_24 (by decide) rfl hP.o hP.bo (Nat.le_of_ble_eq_true rfl) (fun _ => ⟨rfl, rfl⟩) rfl ?_
  replace hP := hP.so (nI p)
  refine J_iconst (x := 0) dX3_refuseLastDigit_10 (by decide) ?_
  exact J_zret dX3_refuseLastDigit_11 rfl (by first | exact Or.inl rfl | exact Or.inr rfl) ⟨rfl, Nat.le_refl _⟩ (hQ _ (Fr.rf.up (by omega) (by omega)) hP)
theorem s_X3_readSign {c : Nat} (hP : TP h a tx (nI p)) (hp : p ≤ tx.length) (hc : c < 65536) (hQ : ∀ r h', r = bI (tx[p]? = some c) → Fr a (a + 2) h h' → TP h' a tx (nI (if tx[p]? = some c then p + 1 else p)) → Q (some (.int r)) h') : MJ m_X3_readSign 0 0 0 [.ref a, .int (nI c)] h Q := by
  have hP0 := hP
  obtain ⟨g, hR, hV, hn, hO⟩ := hP
  refine MJ_of_J (L := [some (.ref a), some (.int (nI c))]) (by decide +kernel) rfl (Nat.le_of_ble_eq_true rfl) rfl ?_
  refine J_aload_n dX3_readSign_0 rfl ?_
  refine J_get (k := 2) dX3_readSign_1 gc_3 fl_RX3_24 (by decide) hR.o hR.bo rfl ?_
  refine J_if_lt (tgt := 31) dX3_readSign_4 (by decide) (fun c4 => absurd c4 (nI_pos (by omega))) (fun c4 => ?_)
  refine J_aload_n dX3_readSign_7 rfl ?_
  refine J_get (k := 2) dX3_readSign_8 gc_3 fl_RX3_24 (by decide) hR.o hR.bo rfl ?_
  refine J_aload_n dX3_readSign_11 rfl ?_
  refine J_get (k := 1) dX3_readSign_12 gc_3 fl_RX3_15 (by decide) hR.o hR.bo rfl ?_
  refine J_icmp_ge (tgt := 31) dX3_readSign_15 (by decide) (fun c15 => ?_) (fun c15 => ?_)
  · refine J_iconst (x := 0) dX3_readSign_31 (by decide) ?_
    exact J_zret dX3_readSign_32 rfl (by first | exact Or.inl rfl | exact Or.inr rfl) ⟨rfl, Nat.le_refl _⟩ (hQ _ _ (bI_f (fun q => absurd (get_lt q) (by have c15 := (nI_leI (by omega) (by omega)).mp c15; omega))).symm Fr.rf (by rw [if_neg (fun q => absurd (get_lt q) (by have c15 := (nI_leI (by omega) (by omega)).mp c15; omega))]; exact hP0))
  · have c15 : p < tx.length := Nat.not_le.mp (fun q => c15 ((nI_leI (by omega) (by omega)).mpr q))
    obtain ⟨x, hx⟩ := get_of c15
    have hx6 := hO x (List.mem_of_getElem? hx)
    have hgx := hV p x hx
    refine J_aload_n dX3_readSign_18 rfl ?_
    refine J_get (k := 0) dX3_readSign_19 gc_3 fl_RX3_9 (by decide) hR.o hR.bo rfl ?_
    refine J_aload_n dX3_readSign_22 rfl ?_
    refine J_get (k := 2) dX3_readSign_23 gc_3 fl_RX3_24 (by decide) hR.o hR.bo rfl ?_
    refine J_cald dX3_readSign_26 hR.c hR.bc (vp_in_nI (show p < 60 by omega) (by decide)) ?_
    rw [nI_clamp (n := p) (by omega), hgx]
    refine J_iload_n dX3_readSign_27 rfl ?_
    refine J_icmp_eq (tgt := 33) dX3_readSign_28 (by decide) (fun c28 => ?_) (fun c28 => ?_)
    · have c28 := (nI_eq (by omega) (by omega)).mp c28
      subst c28
      refine J_aload_n dX3_readSign_33 rfl ?_
      refine J_dup dX3_readSign_34 rfl ?_
      refine J_get (k := 2) dX3_readSign_35 gc_3 fl_RX3_24 (by decide) hR.o hR.bo rfl ?_
      refine J_iconst (x := 1) dX3_readSign_38 (by decide) ?_
      refine J_iadd dX3_readSign_39 ?_
      rw [nI_1]
      refine J_put (k := 2) dX3_readSign_40 gc_3 fl_RX3_24 (by decide) rfl hR.o hR.bo (Nat.le_of_ble_eq_true rfl) (fun _ => ⟨rfl, rfl⟩) rfl ?_
      replace hR := hR.so (nI tx.length) (nI (p + 1))
      refine J_iconst (x := 1) dX3_readSign_43 (by decide) ?_
      exact J_zret dX3_readSign_44 rfl (by first | exact Or.inl rfl | exact Or.inr rfl) ⟨rfl, Nat.le_refl _⟩ (hQ _ _ (bI_t hx).symm (Fr.rf.up (by omega) (by omega)) (by rw [if_pos hx]; exact ⟨g, hR, hV, hn, hO⟩))
    · refine J_iconst (x := 0) dX3_readSign_31 (by decide) ?_
      exact J_zret dX3_readSign_32 rfl (by first | exact Or.inl rfl | exact Or.inr rfl) ⟨rfl, Nat.le_refl _⟩ (hQ _ _ (bI_f (fun q => c28 (by rw [hx] at q; rw [Option.some.inj q]))).symm Fr.rf (by rw [if_neg (fun q => c28 (by rw [hx] at q; rw [Option.some.inj q]))]; exact hP0))
/-- what the reading of a number answers -/
def NQ (tx : List Nat) (gr p : Nat) (r : Int32) (q : Nat) : Prop := (rN tx gr p = none ∧ r = -1 ∧ q = p) ∨ ∃ v, rN tx gr p = some (v, q) ∧ r = nI v
theorem oI_ne {v : Nat} (hv : v < 2 ^ 31) : ¬ nI v = -1 := fun e => by
  have h1 := congrArg Int32.toInt e
  rw [nI_toInt hv] at h1
  have h2 : (-1 : Int32).toInt = -1 := by decide
  omega
theorem NQ.n {gr q : Nat} {r : Int32} (hN : NQ tx gr p r q) (hg : 9 ≤ gr) (hg2 : gr < 100) (c : r = -1) : rN tx gr p = none ∧ q = p := by
  rcases hN with ⟨h1, h2, h3⟩ | ⟨v, h1, h2⟩
  · exact ⟨h1, h3⟩
  · have := rN_b hg h1
    subst h2
    exact absurd c (oI_ne (by omega))
theorem NQ.y {gr q : Nat} {r : Int32} (hN : NQ tx gr p r q) (hg : 9 ≤ gr) (c : ¬ r = -1) : ∃ v, rN tx gr p = some (v, q) ∧ r = nI v ∧ v ≤ gr ∧ p + 1 ≤ q ∧ q ≤ tx.length := by
  rcases hN with ⟨h1, h2, h3⟩ | ⟨v, h1, h2⟩
  · exact absurd h2 c
  · have := rN_b hg h1
    exact ⟨v, h1, h2, this⟩
theorem s_X3_readNumber {gr : Nat} (hP : TP h a tx (nI p)) (hp : p ≤ tx.length) (hg : 9 ≤ gr) (hg2 : gr < 100) (hQ : ∀ r h' q, NQ tx gr p r q → Fr a (a + 2) h h' → TP h' a tx (nI q) → Q (some (.int r)) h') : MJ m_X3_readNumber 1 0 0 [.ref a, .int (nI gr)] h Q := by
  have hn := hP.len
  refine MJ_of_J (L := [some (.ref a), some (.int (nI gr)), none, none, none]) (by decide +kernel) rfl (Nat.le_of_ble_eq_true rfl) rfl ?_
  refine J_aload_n dX3_readNumber_0 rfl ?_
  refine J_aload_n dX3_readNumber_1 rfl ?_
  refine J_get (k := 2) dX3_readNumber_2 gc_3 fl_RX3_24 (by decide) hP.o hP.bo rfl ?_
  refine J_callV (As := [_]) (rest := []) (M' := m_X3_digitAt) dX3_readNumber_5 ml_RX3_47 gm_X3_digitAt gv_X3_digitAt hP.o hP.bo rfl rfl rfl (Nat.le_of_ble_eq_true rfl) (by decide) ⟨rfl, rfl, by decide, by decide⟩ (s_X3_digitAt hP (by omega) (fun r hr => ?_))
  refine J_istore_n dX3_readNumber_8 (by decide) rfl ?_
  refine J_iload_n dX3_readNumber_9 rfl ?_
  refine J_iconst (x := -1) dX3_readNumber_10 (by decide) ?_
  refine J_icmp_ne (tgt := 16) dX3_readNumber_11 (by decide) (fun c11 => ?_) (fun c11 => ?_)
  · have hd1 : ∃ v, dg tx p = some v ∧ r = nI v := by
      cases z : dg tx p with
      | none => rw [z] at hr; exact absurd hr c11
      | some v => rw [z] at hr; exact ⟨v, rfl, hr⟩
    obtain ⟨v, hv, rfl⟩ := hd1
    have bv := dg_lt hv
    refine J_aload_n dX3_readNumber_16 rfl ?_
    refine J_dup dX3_readNumber_17 rfl ?_
    refine J_get (k := 2) dX3_readNumber_18 gc_3 fl_RX3_24 (by decide) hP.o hP.bo rfl ?_
    refine J_iconst (x := 1) dX3_readNumber_21 (by decide) ?_
    refine J_iadd dX3_readNumber_22 ?_
    rw [nI_1]
    refine J_put (k := 2) dX3_readNumber_23 gc_3 fl_RX3_24 (by decide) rfl hP.o hP.bo (Nat.le_of_ble_eq_true rfl) (fun _ => ⟨rfl, rfl⟩) rfl ?_
    replace hP := hP.so (nI (p + 1))
    have hF1 := up_fr h a (.inr (3, [.ref (a + 1), .int (nI tx.length), .int (nI (p + 1))]))
    refine J_aload_n dX3_readNumber_26 rfl ?_
    refine J_aload_n dX3_readNumber_27 rfl ?_
    refine J_get (k := 2) dX3_readNumber_28 gc_3 fl_RX3_24 (by decide) hP.o hP.bo rfl ?_
    refine J_callV (As := [_]) (rest := []) (M' := m_X3_digitAt) dX3_readNumber_31 ml_RX3_47 gm_X3_digitAt gv_X3_digitAt hP.o hP.bo rfl rfl rfl (Nat.le_of_ble_eq_true rfl) (by decide) ⟨rfl, rfl, by decide, by decide⟩ (s_X3_digitAt hP (by omega) (fun r2 hr2 => ?_))
    refine J_istore_n dX3_readNumber_34 (by decide) rfl ?_
    refine J_bipush (x := 10) dX3_readNumber_35 (by decide) ?_
    refine J_iload_n dX3_readNumber_37 rfl ?_
    refine J_imul dX3_readNumber_38 ?_
    refine J_iload_n dX3_readNumber_39 rfl ?_
    refine J_iadd dX3_readNumber_40 ?_
    refine J_istore dX3_readNumber_41 (by decide) rfl ?_
    refine J_iload_n dX3_readNumber_43 rfl ?_
    refine J_if_eq (tgt := 58) dX3_readNumber_44 (by decide) (fun c44 => ?_) (fun c44 => ?_)
    · refine J_iload_n dX3_readNumber_58 rfl ?_
      exact J_iret dX3_readNumber_59 rfl ⟨rfl, Nat.le_refl _⟩ (hQ _ _ (p + 1) (Or.inr ⟨v, by unfold rN; rw [hv]; dsimp only; have v0 : v = 0 := (nI_eq (b := 0) (by omega) (by omega)).mp c44; cases z : dg tx (p + 1) with | none => rfl | some x => (dsimp only; rw [if_pos (Or.inl v0)]), rfl⟩) (hF1.mono (by omega) (by omega)) hP)
    · refine J_iload_n dX3_readNumber_47 rfl ?_
      refine J_iconst (x := -1) dX3_readNumber_48 (by decide) ?_
      refine J_icmp_eq (tgt := 58) dX3_readNumber_49 (by decide) (fun c49 => ?_) (fun c49 => ?_)
      · refine J_iload_n dX3_readNumber_58 rfl ?_
        exact J_iret dX3_readNumber_59 rfl ⟨rfl, Nat.le_refl _⟩ (hQ _ _ (p + 1) (Or.inr ⟨v, by unfold rN; rw [hv]; dsimp only; cases z : dg tx (p + 1) with | none => rfl | some x => (rw [z] at hr2; exact absurd (hr2.symm.trans c49) (oI_ne (by have := dg_lt z; omega))), rfl⟩) (hF1.mono (by omega) (by omega)) hP)
      · have hd2 : ∃ x, dg tx (p + 1) = some x ∧ r2 = nI x := by
          cases z : dg tx (p + 1) with
          | none => rw [z] at hr2; exact absurd hr2 c49
          | some x => rw [z] at hr2; exact ⟨x, rfl, hr2⟩
        obtain ⟨x, hx, rfl⟩ := hd2
        have bx := dg_lt hx
        rw [show (10 : Int32) * nI v + nI x = nI (10 * v + x) from by rw [show (10 : Int32) * nI v = nI (10 * v) from pk_mul 10 v, nI_add]]
        refine J_iload dX3_readNumber_52 rfl ?_
        refine J_iload_n dX3_readNumber_54 rfl ?_
        refine J_icmp_le (tgt := 60) dX3_readNumber_55 (by decide) (fun c55 => ?_) (fun c55 => ?_)
        · refine J_aload_n dX3_readNumber_60 rfl ?_
          refine J_dup dX3_readNumber_61 rfl ?_
          refine J_get (k := 2) dX3_readNumber_62 gc_3 fl_RX3_24 (by decide) hP.o hP.bo rfl ?_
          refine J_iconst (x := 1) dX3_readNumber_65 (by decide) ?_
          refine J_iadd dX3_readNumber_66 ?_
          rw [nI_1]
          refine J_put (k := 2) dX3_readNumber_67 gc_3 fl_RX3_24 (by decide) rfl hP.o hP.bo (Nat.le_of_ble_eq_true rfl) (fun _ => ⟨rfl, rfl⟩) rfl ?_
          replace hP := hP.so (nI (p + 2))
          refine J_iload dX3_readNumber_70 rfl ?_
          exact J_iret dX3_readNumber_72 rfl ⟨rfl, Nat.le_refl _⟩ (hQ _ _ (p + 2) (Or.inr ⟨_, by unfold rN; rw [hv]; dsimp only; rw [hx]; dsimp only; rw [if_neg (by have c55 := (nI_leI (by omega) (by omega)).mp c55; have v0 : v ≠ 0 := fun e => c44 (by rw [e]; rfl); omega)], rfl⟩) ((hF1.mono (by omega) (by omega)).up (by omega) (by omega)) hP)
        · refine J_iload_n dX3_readNumber_58 rfl ?_
          exact J_iret dX3_readNumber_59 rfl ⟨rfl, Nat.le_refl _⟩ (hQ _ _ (p + 1) (Or.inr ⟨v, by unfold rN; rw [hv]; dsimp only; rw [hx]; dsimp only; rw [if_pos (Or.inr (by have c55 : ¬ 10 * v + x ≤ gr := fun q => c55 ((nI_leI (by omega) (by omega)).mpr q); omega))], rfl⟩) (hF1.mono (by omega) (by omega)) hP)
  · refine J_iconst (x := -1) dX3_readNumber_14 (by decide) ?_
    exact J_iret dX3_readNumber_15 rfl ⟨rfl, Nat.le_refl _⟩ (hQ _ h p (Or.inl ⟨by cases z : dg tx p with | none => (unfold rN; rw [z]) | some v => (rw [z] at hr; exact absurd (hr.symm.trans c11) (oI_ne (by have := dg_lt z; omega))), rfl, rfl⟩) Fr.rf hP)
end SText2
end
