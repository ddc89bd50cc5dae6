-- ===== PART A: goes FIRST, ahead of the names: the tables' words, and 'selects' of the private methods out of them =====
/-- a private method of a class that the tables say can be made, by its rows of tables_1 -/
def lw_okq (q : MethodName × Nat) : Prop := (q.1.cls ≠ "java/lang/invoke/MethodHandle" ∧ q.1.cls ≠ "java/lang/invoke/VarHandle") ∧ Cond.instantiable q.1.cls q.2 ∈ tables_1 ∧ Cond.privateMethod q.1 ∈ tables_1 ∧ Cond.instanceMethod q.1 ∈ tables_1
theorem lw_p0 : lw_okq (⟨"LivedLinks", "countOnWay", "(I)I"⟩, 9) := ⟨⟨by decide +kernel, by decide +kernel⟩, List.mem_of_getElem? (i := 11) (by decide +kernel), List.mem_of_getElem? (i := 211) (by decide +kernel), List.mem_of_getElem? (i := 212) (by decide +kernel)⟩
theorem lw_p1 : lw_okq (⟨"LivedLinks$HalvesWay", "joinLaid", "(LLivedLinks$Links;II)V"⟩, 7) := ⟨⟨by decide +kernel, by decide +kernel⟩, List.mem_of_getElem? (i := 134) (by decide +kernel), List.mem_of_getElem? (i := 225) (by decide +kernel), List.mem_of_getElem? (i := 226) (by decide +kernel)⟩
theorem lw_p2 : lw_okq (⟨"LivedLinks$Joinings", "takeOff", "(I)V"⟩, 4) := ⟨⟨by decide +kernel, by decide +kernel⟩, List.mem_of_getElem? (i := 80) (by decide +kernel), List.mem_of_getElem? (i := 233) (by decide +kernel), List.mem_of_getElem? (i := 234) (by decide +kernel)⟩
theorem lw_p3 : lw_okq (⟨"LivedLinks$Joinings", "has", "(I)Z"⟩, 4) := ⟨⟨by decide +kernel, by decide +kernel⟩, List.mem_of_getElem? (i := 80) (by decide +kernel), List.mem_of_getElem? (i := 237) (by decide +kernel), List.mem_of_getElem? (i := 238) (by decide +kernel)⟩
theorem lw_p4 : lw_okq (⟨"LivedLinks$Links", "coversAll", "(III)Z"⟩, 5) := ⟨⟨by decide +kernel, by decide +kernel⟩, List.mem_of_getElem? (i := 19) (by decide +kernel), List.mem_of_getElem? (i := 247) (by decide +kernel), List.mem_of_getElem? (i := 248) (by decide +kernel)⟩
theorem lw_p5 : lw_okq (⟨"LivedLinks$Joinings", "topOf", "(I)I"⟩, 4) := ⟨⟨by decide +kernel, by decide +kernel⟩, List.mem_of_getElem? (i := 80) (by decide +kernel), List.mem_of_getElem? (i := 268) (by decide +kernel), List.mem_of_getElem? (i := 269) (by decide +kernel)⟩
theorem lw_p6 : lw_okq (⟨"LivedLinks$Moments", "joinWithout", "(LLivedLinks$Links;II)V"⟩, 2) := ⟨⟨by decide +kernel, by decide +kernel⟩, List.mem_of_getElem? (i := 74) (by decide +kernel), List.mem_of_getElem? (i := 318) (by decide +kernel), List.mem_of_getElem? (i := 319) (by decide +kernel)⟩
theorem lw_p7 : lw_okq (⟨"LivedLinks$History", "dropOldest", "()V"⟩, 2) := ⟨⟨by decide +kernel, by decide +kernel⟩, List.mem_of_getElem? (i := 42) (by decide +kernel), List.mem_of_getElem? (i := 360) (by decide +kernel), List.mem_of_getElem? (i := 361) (by decide +kernel)⟩
def lw_privs_1 : List (MethodName × Nat) := [(⟨"LivedLinks", "countOnWay", "(I)I"⟩, 9), (⟨"LivedLinks$HalvesWay", "joinLaid", "(LLivedLinks$Links;II)V"⟩, 7), (⟨"LivedLinks$Joinings", "takeOff", "(I)V"⟩, 4), (⟨"LivedLinks$Joinings", "has", "(I)Z"⟩, 4), (⟨"LivedLinks$Links", "coversAll", "(III)Z"⟩, 5), (⟨"LivedLinks$Joinings", "topOf", "(I)I"⟩, 4), (⟨"LivedLinks$Moments", "joinWithout", "(LLivedLinks$Links;II)V"⟩, 2), (⟨"LivedLinks$History", "dropOldest", "()V"⟩, 2)]
theorem lw_r1 : ∀ q ∈ lw_privs_1, lw_okq q := List.forall_mem_cons.mpr ⟨lw_p0, List.forall_mem_cons.mpr ⟨lw_p1, List.forall_mem_cons.mpr ⟨lw_p2, List.forall_mem_cons.mpr ⟨lw_p3, List.forall_mem_cons.mpr ⟨lw_p4, List.forall_mem_cons.mpr ⟨lw_p5, List.forall_mem_cons.mpr ⟨lw_p6, List.forall_mem_cons.mpr ⟨lw_p7, fun _ h => absurd h List.not_mem_nil⟩⟩⟩⟩⟩⟩⟩⟩
def lw_privs : List (MethodName × Nat) := lw_privs_1
def lw_tbl : List Cond := k2_sels lw_privs ++ tables_1
theorem lw_privs_ok : ∀ q ∈ lw_privs, lw_okq q := lw_r1
-- the names, as printed
def RX0 : String := "LivedLinks$HalvesWay"
def TX0 : u_T := fun k => match k with
  | 0 => ("LivedLinks$HalvesWay", "points", "LLivedLinks$Joinings;", true)
  | 1 => ("LivedLinks$HalvesWay", "standingAt", "[I", true)
  | 2 => ("LivedLinks$HalvesWay", "laidHere", "I", false)
  | 3 => ("LivedLinks$HalvesWay", "madeHere", "I", false)
  | 4 => ("LivedLinks$HalvesWay", "laidInAll", "I", false)
  | 5 => ("LivedLinks$HalvesWay", "madeInAll", "I", false)
  | _ => ("LivedLinks$HalvesWay", "mostStanding", "I", false)
def tyX0 : Nat → FieldType := fun k => match k with
  | 0 => .object "LivedLinks$Joinings"
  | 1 => .array .int
  | 2 => .int
  | 3 => .int
  | 4 => .int
  | 5 => .int
  | _ => .int
theorem nmX0 : ∀ a, a < 7 → ∀ b, b < 7 → a ≠ b → (TX0 a).2.1 ≠ (TX0 b).2.1 := by decide +kernel
theorem tyX0_ok : ∀ k, k < 7 → parseFieldDescriptor (TX0 k).2.2.1 = some (tyX0 k) := by decide +kernel
abbrev cX0_init : ByteArray := prog_2_method_1_code
def yX0_init : MethodName := ⟨RX0, "<init>", "()V"⟩
abbrev cX0_laidHere : ByteArray := prog_2_method_2_code
def yX0_laidHere : MethodName := ⟨RX0, "laidHere", "()I"⟩
abbrev cX0_madeHere : ByteArray := prog_2_method_3_code
def yX0_madeHere : MethodName := ⟨RX0, "madeHere", "()I"⟩
abbrev cX0_madeInAll : ByteArray := prog_2_method_4_code
def yX0_madeInAll : MethodName := ⟨RX0, "madeInAll", "()I"⟩
abbrev cX0_idleInAll : ByteArray := prog_2_method_5_code
def yX0_idleInAll : MethodName := ⟨RX0, "idleInAll", "()I"⟩
abbrev cX0_mostStanding : ByteArray := prog_2_method_6_code
def yX0_mostStanding : MethodName := ⟨RX0, "mostStanding", "()I"⟩
abbrev cX0_goAll : ByteArray := prog_2_method_7_code
def yX0_goAll : MethodName := ⟨RX0, "goAll", "(LLivedLinks$Links;)V"⟩
abbrev cX0_goTo : ByteArray := prog_2_method_8_code
def yX0_goTo : MethodName := ⟨RX0, "goTo", "(LLivedLinks$Links;II)V"⟩
abbrev cX0_joinLaid : ByteArray := prog_2_method_9_code
def yX0_joinLaid : MethodName := ⟨RX0, "joinLaid", "(LLivedLinks$Links;II)V"⟩
def RX1 : String := "LivedLinks$History"
def TX1 : u_T := fun k => match k with
  | 0 => ("LivedLinks$History", "states", "[LLivedLinks$Links;", true)
  | _ => ("LivedLinks$History", "size", "I", false)
def tyX1 : Nat → FieldType := fun k => match k with
  | 0 => .array (.object "LivedLinks$Links")
  | _ => .int
theorem nmX1 : ∀ a, a < 2 → ∀ b, b < 2 → a ≠ b → (TX1 a).2.1 ≠ (TX1 b).2.1 := by decide +kernel
theorem tyX1_ok : ∀ k, k < 2 → parseFieldDescriptor (TX1 k).2.2.1 = some (tyX1 k) := by decide +kernel
abbrev cX1_init : ByteArray := prog_3_method_1_code
def yX1_init : MethodName := ⟨RX1, "<init>", "()V"⟩
abbrev cX1_size : ByteArray := prog_3_method_2_code
def yX1_size : MethodName := ⟨RX1, "size", "()I"⟩
abbrev cX1_remember : ByteArray := prog_3_method_3_code
def yX1_remember : MethodName := ⟨RX1, "remember", "(LLivedLinks$Links;)V"⟩
abbrev cX1_dropOldest : ByteArray := prog_3_method_4_code
def yX1_dropOldest : MethodName := ⟨RX1, "dropOldest", "()V"⟩
abbrev cX1_goBack : ByteArray := prog_3_method_5_code
def yX1_goBack : MethodName := ⟨RX1, "goBack", "(LLivedLinks$Links;)V"⟩
def RX2 : String := "LivedLinks$Joinings"
def TX2 : u_T := fun k => match k with
  | 0 => ("LivedLinks$Joinings", "above", "[I", true)
  | 1 => ("LivedLinks$Joinings", "below", "[I", true)
  | 2 => ("LivedLinks$Joinings", "hung", "[I", true)
  | _ => ("LivedLinks$Joinings", "standing", "I", false)
def tyX2 : Nat → FieldType := fun k => match k with
  | 0 => .array .int
  | 1 => .array .int
  | 2 => .array .int
  | _ => .int
theorem nmX2 : ∀ a, a < 4 → ∀ b, b < 4 → a ≠ b → (TX2 a).2.1 ≠ (TX2 b).2.1 := by decide +kernel
theorem tyX2_ok : ∀ k, k < 4 → parseFieldDescriptor (TX2 k).2.2.1 = some (tyX2 k) := by decide +kernel
abbrev cX2_init : ByteArray := prog_4_method_1_code
def yX2_init : MethodName := ⟨RX2, "<init>", "(I)V"⟩
abbrev cX2_standing : ByteArray := prog_4_method_2_code
def yX2_standing : MethodName := ⟨RX2, "standing", "()I"⟩
abbrev cX2_has : ByteArray := prog_4_method_3_code
def yX2_has : MethodName := ⟨RX2, "has", "(I)Z"⟩
abbrev cX2_topOf : ByteArray := prog_4_method_4_code
def yX2_topOf : MethodName := ⟨RX2, "topOf", "(I)I"⟩
abbrev cX2_areJoined : ByteArray := prog_4_method_5_code
def yX2_areJoined : MethodName := ⟨RX2, "areJoined", "(II)Z"⟩
abbrev cX2_partSize : ByteArray := prog_4_method_6_code
def yX2_partSize : MethodName := ⟨RX2, "partSize", "(I)I"⟩
abbrev cX2_join : ByteArray := prog_4_method_7_code
def yX2_join : MethodName := ⟨RX2, "join", "(II)V"⟩
abbrev cX2_takeBackTo : ByteArray := prog_4_method_8_code
def yX2_takeBackTo : MethodName := ⟨RX2, "takeBackTo", "(I)V"⟩
abbrev cX2_takeOff : ByteArray := prog_4_method_9_code
def yX2_takeOff : MethodName := ⟨RX2, "takeOff", "(I)V"⟩
def RX3 : String := "LivedLinks$LinkText"
def TX3 : u_T := fun k => match k with
  | 0 => ("LivedLinks$LinkText", "characters", "[C", true)
  | 1 => ("LivedLinks$LinkText", "length", "I", false)
  | _ => ("LivedLinks$LinkText", "place", "I", false)
def tyX3 : Nat → FieldType := fun k => match k with
  | 0 => .array .char
  | 1 => .int
  | _ => .int
theorem nmX3 : ∀ a, a < 3 → ∀ b, b < 3 → a ≠ b → (TX3 a).2.1 ≠ (TX3 b).2.1 := by decide +kernel
theorem tyX3_ok : ∀ k, k < 3 → parseFieldDescriptor (TX3 k).2.2.1 = some (tyX3 k) := by decide +kernel
abbrev cX3_init : ByteArray := prog_5_method_1_code
def yX3_init : MethodName := ⟨RX3, "<init>", "()V"⟩
abbrev cX3_length : ByteArray := prog_5_method_2_code
def yX3_length : MethodName := ⟨RX3, "length", "()I"⟩
def RX4 : String := "LivedLinks$Links"
def TX4 : u_T := fun k => match k with
  | 0 => ("LivedLinks$Links", "one", "[I", true)
  | 1 => ("LivedLinks$Links", "other", "[I", true)
  | 2 => ("LivedLinks$Links", "from", "[I", true)
  | 3 => ("LivedLinks$Links", "to", "[I", true)
  | _ => ("LivedLinks$Links", "size", "I", false)
def tyX4 : Nat → FieldType := fun k => match k with
  | 0 => .array .int
  | 1 => .array .int
  | 2 => .array .int
  | 3 => .array .int
  | _ => .int
theorem nmX4 : ∀ a, a < 5 → ∀ b, b < 5 → a ≠ b → (TX4 a).2.1 ≠ (TX4 b).2.1 := by decide +kernel
theorem tyX4_ok : ∀ k, k < 5 → parseFieldDescriptor (TX4 k).2.2.1 = some (tyX4 k) := by decide +kernel
abbrev cX4_init : ByteArray := prog_6_method_1_code
def yX4_init : MethodName := ⟨RX4, "<init>", "()V"⟩
abbrev cX4_size : ByteArray := prog_6_method_2_code
def yX4_size : MethodName := ⟨RX4, "size", "()I"⟩
abbrev cX4_room : ByteArray := prog_6_method_3_code
def yX4_room : MethodName := ⟨RX4, "room", "()I"⟩
abbrev cX4_has : ByteArray := prog_6_method_4_code
def yX4_has : MethodName := ⟨RX4, "has", "(I)Z"⟩
abbrev cX4_oneOf : ByteArray := prog_6_method_5_code
def yX4_oneOf : MethodName := ⟨RX4, "oneOf", "(I)I"⟩
abbrev cX4_otherOf : ByteArray := prog_6_method_6_code
def yX4_otherOf : MethodName := ⟨RX4, "otherOf", "(I)I"⟩
abbrev cX4_fromOf : ByteArray := prog_6_method_7_code
def yX4_fromOf : MethodName := ⟨RX4, "fromOf", "(I)I"⟩
abbrev cX4_toOf : ByteArray := prog_6_method_8_code
def yX4_toOf : MethodName := ⟨RX4, "toOf", "(I)I"⟩
abbrev cX4_livesAt : ByteArray := prog_6_method_9_code
def yX4_livesAt : MethodName := ⟨RX4, "livesAt", "(II)Z"⟩
abbrev cX4_livingAt : ByteArray := prog_6_method_10_code
def yX4_livingAt : MethodName := ⟨RX4, "livingAt", "(I)I"⟩
abbrev cX4_coversAll : ByteArray := prog_6_method_11_code
def yX4_coversAll : MethodName := ⟨RX4, "coversAll", "(III)Z"⟩
abbrev cX4_isLaidAt : ByteArray := prog_6_method_12_code
def yX4_isLaidAt : MethodName := ⟨RX4, "isLaidAt", "(III)Z"⟩
abbrev cX4_spansOf : ByteArray := prog_6_method_13_code
def yX4_spansOf : MethodName := ⟨RX4, "spansOf", "(I)I"⟩
abbrev cX4_empty : ByteArray := prog_6_method_14_code
def yX4_empty : MethodName := ⟨RX4, "empty", "()V"⟩
abbrev cX4_add : ByteArray := prog_6_method_15_code
def yX4_add : MethodName := ⟨RX4, "add", "(IIII)V"⟩
abbrev cX4_addAll : ByteArray := prog_6_method_16_code
def yX4_addAll : MethodName := ⟨RX4, "addAll", "(LLivedLinks$Links;)V"⟩
abbrev cX4_take : ByteArray := prog_6_method_17_code
def yX4_take : MethodName := ⟨RX4, "take", "(LLivedLinks$Links;)V"⟩
abbrev cX4_live : ByteArray := prog_6_method_18_code
def yX4_live : MethodName := ⟨RX4, "live", "(III)V"⟩
abbrev cX4_removeAt : ByteArray := prog_6_method_19_code
def yX4_removeAt : MethodName := ⟨RX4, "removeAt", "(I)V"⟩
abbrev cX4_removeLivingAt : ByteArray := prog_6_method_20_code
def yX4_removeLivingAt : MethodName := ⟨RX4, "removeLivingAt", "(I)V"⟩
def RX8 : String := "LivedLinks$MomentRows"
def TX8 : u_T := fun k => match k with
  | 0 => ("LivedLinks$MomentRows", "many", "I", false)
  | 1 => ("LivedLinks$MomentRows", "first", "I", false)
  | 2 => ("LivedLinks$MomentRows", "last", "I", false)
  | 3 => ("LivedLinks$MomentRows", "row", "I", false)
  | 4 => ("LivedLinks$MomentRows", "longest", "I", false)
  | _ => ("LivedLinks$MomentRows", "longestBegin", "I", false)
def tyX8 : Nat → FieldType := fun k => match k with
  | 0 => .int
  | 1 => .int
  | 2 => .int
  | 3 => .int
  | 4 => .int
  | _ => .int
theorem nmX8 : ∀ a, a < 6 → ∀ b, b < 6 → a ≠ b → (TX8 a).2.1 ≠ (TX8 b).2.1 := by decide +kernel
theorem tyX8_ok : ∀ k, k < 6 → parseFieldDescriptor (TX8 k).2.2.1 = some (tyX8 k) := by decide +kernel
abbrev cX8_init : ByteArray := prog_7_method_1_code
def yX8_init : MethodName := ⟨RX8, "<init>", "()V"⟩
abbrev cX8_many : ByteArray := prog_7_method_2_code
def yX8_many : MethodName := ⟨RX8, "many", "()I"⟩
abbrev cX8_first : ByteArray := prog_7_method_3_code
def yX8_first : MethodName := ⟨RX8, "first", "()I"⟩
abbrev cX8_last : ByteArray := prog_7_method_4_code
def yX8_last : MethodName := ⟨RX8, "last", "()I"⟩
abbrev cX8_longest : ByteArray := prog_7_method_5_code
def yX8_longest : MethodName := ⟨RX8, "longest", "()I"⟩
abbrev cX8_longestBegin : ByteArray := prog_7_method_6_code
def yX8_longestBegin : MethodName := ⟨RX8, "longestBegin", "()I"⟩
abbrev cX8_empty : ByteArray := prog_7_method_7_code
def yX8_empty : MethodName := ⟨RX8, "empty", "()V"⟩
abbrev cX8_add : ByteArray := prog_7_method_8_code
def yX8_add : MethodName := ⟨RX8, "add", "(I)V"⟩
def RX5 : String := "LivedLinks$Moments"
def TX5 : u_T := fun k => match k with
  | 0 => ("LivedLinks$Moments", "points", "LLivedLinks$Joinings;", true)
  | _ => ("LivedLinks$Moments", "sides", "LLivedLinks$Joinings;", true)
def tyX5 : Nat → FieldType := fun k => match k with
  | 0 => .object "LivedLinks$Joinings"
  | _ => .object "LivedLinks$Joinings"
theorem nmX5 : ∀ a, a < 2 → ∀ b, b < 2 → a ≠ b → (TX5 a).2.1 ≠ (TX5 b).2.1 := by decide +kernel
theorem tyX5_ok : ∀ k, k < 2 → parseFieldDescriptor (TX5 k).2.2.1 = some (tyX5 k) := by decide +kernel
abbrev cX5_init : ByteArray := prog_8_method_1_code
def yX5_init : MethodName := ⟨RX5, "<init>", "()V"⟩
abbrev cX5_joinWithout : ByteArray := prog_8_method_2_code
def yX5_joinWithout : MethodName := ⟨RX5, "joinWithout", "(LLivedLinks$Links;II)V"⟩
abbrev cX5_areJoinedAt : ByteArray := prog_8_method_3_code
def yX5_areJoinedAt : MethodName := ⟨RX5, "areJoinedAt", "(LLivedLinks$Links;III)Z"⟩
abbrev cX5_partsAt : ByteArray := prog_8_method_4_code
def yX5_partsAt : MethodName := ⟨RX5, "partsAt", "(LLivedLinks$Links;I)I"⟩
abbrev cX5_lowestOfPartAt : ByteArray := prog_8_method_5_code
def yX5_lowestOfPartAt : MethodName := ⟨RX5, "lowestOfPartAt", "(LLivedLinks$Links;II)I"⟩
abbrev cX5_partSizeAt : ByteArray := prog_8_method_6_code
def yX5_partSizeAt : MethodName := ⟨RX5, "partSizeAt", "(LLivedLinks$Links;II)I"⟩
abbrev cX5_partBitsAt : ByteArray := prog_8_method_7_code
def yX5_partBitsAt : MethodName := ⟨RX5, "partBitsAt", "(LLivedLinks$Links;II)I"⟩
abbrev cX5_greatestPartAt : ByteArray := prog_8_method_8_code
def yX5_greatestPartAt : MethodName := ⟨RX5, "greatestPartAt", "(LLivedLinks$Links;I)I"⟩
abbrev cX5_linklessPointsAt : ByteArray := prog_8_method_9_code
def yX5_linklessPointsAt : MethodName := ⟨RX5, "linklessPointsAt", "(LLivedLinks$Links;I)I"⟩
abbrev cX5_isNeededAt : ByteArray := prog_8_method_10_code
def yX5_isNeededAt : MethodName := ⟨RX5, "isNeededAt", "(LLivedLinks$Links;II)Z"⟩
abbrev cX5_neededLinksAt : ByteArray := prog_8_method_11_code
def yX5_neededLinksAt : MethodName := ⟨RX5, "neededLinksAt", "(LLivedLinks$Links;I)I"⟩
abbrev cX5_neededMomentsOf : ByteArray := prog_8_method_12_code
def yX5_neededMomentsOf : MethodName := ⟨RX5, "neededMomentsOf", "(LLivedLinks$Links;I)I"⟩
abbrev cX5_isOddAt : ByteArray := prog_8_method_13_code
def yX5_isOddAt : MethodName := ⟨RX5, "isOddAt", "(LLivedLinks$Links;I)Z"⟩
abbrev cX5_oddMoments : ByteArray := prog_8_method_14_code
def yX5_oddMoments : MethodName := ⟨RX5, "oddMoments", "(LLivedLinks$Links;)I"⟩
abbrev cX5_mostParts : ByteArray := prog_8_method_15_code
def yX5_mostParts : MethodName := ⟨RX5, "mostParts", "(LLivedLinks$Links;)I"⟩
abbrev cX5_fewestParts : ByteArray := prog_8_method_16_code
def yX5_fewestParts : MethodName := ⟨RX5, "fewestParts", "(LLivedLinks$Links;)I"⟩
def RX6 : String := "LivedLinks"
def TX6 : u_T := fun k => match k with
  | 0 => ("LivedLinks", "links", "LLivedLinks$Links;", true)
  | 1 => ("LivedLinks", "snapshot", "LLivedLinks$Links;", true)
  | 2 => ("LivedLinks", "hasSnapshot", "Z", false)
  | 3 => ("LivedLinks", "history", "LLivedLinks$History;", true)
  | 4 => ("LivedLinks", "text", "LLivedLinks$LinkText;", true)
  | 5 => ("LivedLinks", "found", "LLivedLinks$Links;", true)
  | 6 => ("LivedLinks", "moments", "LLivedLinks$Moments;", true)
  | 7 => ("LivedLinks", "joinedMoments", "LLivedLinks$MomentRows;", true)
  | _ => ("LivedLinks", "way", "LLivedLinks$HalvesWay;", true)
def tyX6 : Nat → FieldType := fun k => match k with
  | 0 => .object "LivedLinks$Links"
  | 1 => .object "LivedLinks$Links"
  | 2 => .boolean
  | 3 => .object "LivedLinks$History"
  | 4 => .object "LivedLinks$LinkText"
  | 5 => .object "LivedLinks$Links"
  | 6 => .object "LivedLinks$Moments"
  | 7 => .object "LivedLinks$MomentRows"
  | _ => .object "LivedLinks$HalvesWay"
theorem nmX6 : ∀ a, a < 9 → ∀ b, b < 9 → a ≠ b → (TX6 a).2.1 ≠ (TX6 b).2.1 := by decide +kernel
theorem tyX6_ok : ∀ k, k < 9 → parseFieldDescriptor (TX6 k).2.2.1 = some (tyX6 k) := by decide +kernel
abbrev cX6_init : ByteArray := prog_1_method_1_code
def yX6_init : MethodName := ⟨RX6, "<init>", "()V"⟩
abbrev cX6_addLink : ByteArray := prog_1_method_2_code
def yX6_addLink : MethodName := ⟨RX6, "addLink", "(IIII)I"⟩
abbrev cX6_removeLink : ByteArray := prog_1_method_3_code
def yX6_removeLink : MethodName := ⟨RX6, "removeLink", "(I)I"⟩
abbrev cX6_setLife : ByteArray := prog_1_method_4_code
def yX6_setLife : MethodName := ⟨RX6, "setLife", "(III)I"⟩
abbrev cX6_clear : ByteArray := prog_1_method_7_code
def yX6_clear : MethodName := ⟨RX6, "clear", "(I)I"⟩
abbrev cX6_undo : ByteArray := prog_1_method_10_code
def yX6_undo : MethodName := ⟨RX6, "undo", "()I"⟩
abbrev cX6_keep : ByteArray := prog_1_method_11_code
def yX6_keep : MethodName := ⟨RX6, "keep", "()I"⟩
abbrev cX6_restore : ByteArray := prog_1_method_12_code
def yX6_restore : MethodName := ⟨RX6, "restore", "()I"⟩
abbrev cX6_link : ByteArray := prog_1_method_13_code
def yX6_link : MethodName := ⟨RX6, "link", "(II)I"⟩
abbrev cX6_joined : ByteArray := prog_1_method_14_code
def yX6_joined : MethodName := ⟨RX6, "joined", "(III)I"⟩
abbrev cX6_moment : ByteArray := prog_1_method_15_code
def yX6_moment : MethodName := ⟨RX6, "moment", "(II)I"⟩
abbrev cX6_part : ByteArray := prog_1_method_16_code
def yX6_part : MethodName := ⟨RX6, "part", "(III)I"⟩
abbrev cX6_needed : ByteArray := prog_1_method_17_code
def yX6_needed : MethodName := ⟨RX6, "needed", "(II)I"⟩
abbrev cX6_together : ByteArray := prog_1_method_18_code
def yX6_together : MethodName := ⟨RX6, "together", "(III)I"⟩
abbrev cX6_odd : ByteArray := prog_1_method_19_code
def yX6_odd : MethodName := ⟨RX6, "odd", "(I)I"⟩
abbrev cX6_span : ByteArray := prog_1_method_20_code
def yX6_span : MethodName := ⟨RX6, "span", "(III)I"⟩
abbrev cX6_count : ByteArray := prog_1_method_21_code
def yX6_count : MethodName := ⟨RX6, "count", "(I)I"⟩
abbrev cX6_countOnWay : ByteArray := prog_1_method_22_code
def yX6_countOnWay : MethodName := ⟨RX6, "countOnWay", "(I)I"⟩
abbrev cX6_asNumber : ByteArray := prog_1_method_23_code
def yX6_asNumber : MethodName := ⟨RX6, "asNumber", "(Z)I"⟩
abbrev cX6_isPoint : ByteArray := prog_1_method_24_code
def yX6_isPoint : MethodName := ⟨RX6, "isPoint", "(I)Z"⟩
abbrev cX6_isMoment : ByteArray := prog_1_method_25_code
def yX6_isMoment : MethodName := ⟨RX6, "isMoment", "(I)Z"⟩
abbrev cX6_isLife : ByteArray := prog_1_method_26_code
def yX6_isLife : MethodName := ⟨RX6, "isLife", "(II)Z"⟩
abbrev cX6_spanLength : ByteArray := prog_1_method_27_code
def yX6_spanLength : MethodName := ⟨RX6, "spanLength", "(I)I"⟩
abbrev cX6_spanBegin : ByteArray := prog_1_method_28_code
def yX6_spanBegin : MethodName := ⟨RX6, "spanBegin", "(II)I"⟩
def RX7 : String := "LivedLinksModel"
def TX7 : u_T := fun k => match k with
  | _ => ("", "", "", false)
def tyX7 : Nat → FieldType := fun k => match k with
  | _ => .int
theorem nmX7 : ∀ a, a < 0 → ∀ b, b < 0 → a ≠ b → (TX7 a).2.1 ≠ (TX7 b).2.1 := by decide +kernel
theorem tyX7_ok : ∀ k, k < 0 → parseFieldDescriptor (TX7 k).2.2.1 = some (tyX7 k) := by decide +kernel
def RJ9 : String := "java/lang/Math"
def TJ9 : u_T := fun k => match k with
  | _ => ("", "", "", false)
def tyJ9 : Nat → FieldType := fun k => match k with
  | _ => .int
theorem nmJ9 : ∀ a, a < 0 → ∀ b, b < 0 → a ≠ b → (TJ9 a).2.1 ≠ (TJ9 b).2.1 := by decide +kernel
theorem tyJ9_ok : ∀ k, k < 0 → parseFieldDescriptor (TJ9 k).2.2.1 = some (tyJ9 k) := by decide +kernel
abbrev cJ9_max_7cf53 : ByteArray := prog_11_method_65_code
def yJ9_max_7cf53 : MethodName := ⟨RJ9, "max", "(II)I"⟩
abbrev cJ9_min_7cf53 : ByteArray := prog_11_method_69_code
def yJ9_min_7cf53 : MethodName := ⟨RJ9, "min", "(II)I"⟩
def RL : String := "LivedLinksLaw"
abbrev cL_cell : ByteArray := method_2_code
def yL_cell : MethodName := ⟨RL, "cell", "([II)I"⟩
abbrev cL_up : ByteArray := method_3_code
def yL_up : MethodName := ⟨RL, "up", "(II)I"⟩
abbrev cL_isStep : ByteArray := method_4_code
def yL_isStep : MethodName := ⟨RL, "isStep", "(LLivedLinks;LLivedLinks;III)Z"⟩
abbrev cL_there : ByteArray := method_5_code
def yL_there : MethodName := ⟨RL, "there", "(II)I"⟩
abbrev cL_areAlike : ByteArray := method_6_code
def yL_areAlike : MethodName := ⟨RL, "areAlike", "(LLivedLinks;LLivedLinks;II)Z"⟩
abbrev cL_isWell : ByteArray := method_7_code
def yL_isWell : MethodName := ⟨RL, "isWell", "(LLivedLinks;I)Z"⟩
abbrev cL_law : ByteArray := code
def yL_law : MethodName := ⟨RL, "law", "([I)Z"⟩
def R_law : String := "LivedLinksLaw"
def lw_gd : List Cond := lw_tbl.filter goodWord
abbrev classes : List vw_C := [(RX0, TX0, 7), (RX1, TX1, 2), (RX2, TX2, 4), (RX3, TX3, 3), (RX4, TX4, 5), (RX5, TX5, 2), (RX6, TX6, 9), (RX0, TX0, 7), (RX8, TX8, 6)]
def lw_nest : List (String × Nat × MethodName × String) := [(RX6, 9, yX4_init, RX6), (RX1, 17, yX4_init, RX6), (RX6, 32, yX3_init, RX6), (RX6, 42, yX5_init, RX6), (RX6, 49, yX8_init, RX6), (RX6, 56, yX0_init, RX6), (RX0, 40, yX6_spanBegin, RX6), (RX4, 36, yX6_spanLength, RX6), (RX4, 44, yX6_spanBegin, RX6)]
