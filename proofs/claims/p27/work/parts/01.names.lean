-- ===== PART A: goes FIRST, ahead of the names: the tables' words, and 'selects' of the private methods out of them =====
/-- a private method of a class that the tables say can be made, by its rows of tables_1 -/
def lw_okq (q : MethodName × Nat) : Prop := (q.1.cls ≠ "java/lang/invoke/MethodHandle" ∧ q.1.cls ≠ "java/lang/invoke/VarHandle") ∧ Cond.instantiable q.1.cls q.2 ∈ tables_1 ∧ Cond.privateMethod q.1 ∈ tables_1 ∧ Cond.instanceMethod q.1 ∈ tables_1
theorem lw_p0 : lw_okq (⟨"BorderStamps", "sumOverHolders", "(I)I"⟩, 9) := ⟨⟨by decide +kernel, by decide +kernel⟩, List.mem_of_getElem? (i := 13) (by decide +kernel), List.mem_of_getElem? (i := 226) (by decide +kernel), List.mem_of_getElem? (i := 227) (by decide +kernel)⟩
theorem lw_p1 : lw_okq (⟨"BorderStamps", "recorded", "(I)I"⟩, 9) := ⟨⟨by decide +kernel, by decide +kernel⟩, List.mem_of_getElem? (i := 13) (by decide +kernel), List.mem_of_getElem? (i := 331) (by decide +kernel), List.mem_of_getElem? (i := 332) (by decide +kernel)⟩
theorem lw_p2 : lw_okq (⟨"BorderStamps", "dropOldest", "()V"⟩, 9) := ⟨⟨by decide +kernel, by decide +kernel⟩, List.mem_of_getElem? (i := 13) (by decide +kernel), List.mem_of_getElem? (i := 335) (by decide +kernel), List.mem_of_getElem? (i := 336) (by decide +kernel)⟩
theorem lw_p3 : lw_okq (⟨"BorderStamps$State", "isOpen", "(II)Z"⟩, 5) := ⟨⟨by decide +kernel, by decide +kernel⟩, List.mem_of_getElem? (i := 21) (by decide +kernel), List.mem_of_getElem? (i := 413) (by decide +kernel), List.mem_of_getElem? (i := 414) (by decide +kernel)⟩
theorem lw_p4 : lw_okq (⟨"BorderStamps$Book", "addStamp", "(III)V"⟩, 2) := ⟨⟨by decide +kernel, by decide +kernel⟩, List.mem_of_getElem? (i := 56) (by decide +kernel), List.mem_of_getElem? (i := 434) (by decide +kernel), List.mem_of_getElem? (i := 435) (by decide +kernel)⟩
theorem lw_p5 : lw_okq (⟨"BorderStamps$State", "endDay", "()I"⟩, 5) := ⟨⟨by decide +kernel, by decide +kernel⟩, List.mem_of_getElem? (i := 21) (by decide +kernel), List.mem_of_getElem? (i := 482) (by decide +kernel), List.mem_of_getElem? (i := 483) (by decide +kernel)⟩
theorem lw_p6 : lw_okq (⟨"BorderStamps$State", "oneCrossingFrom", "(ILBorderStamps$Holder;)I"⟩, 5) := ⟨⟨by decide +kernel, by decide +kernel⟩, List.mem_of_getElem? (i := 21) (by decide +kernel), List.mem_of_getElem? (i := 561) (by decide +kernel), List.mem_of_getElem? (i := 562) (by decide +kernel)⟩
theorem lw_p7 : lw_okq (⟨"BorderStamps$State", "isBesideOneOf", "(II)Z"⟩, 5) := ⟨⟨by decide +kernel, by decide +kernel⟩, List.mem_of_getElem? (i := 21) (by decide +kernel), List.mem_of_getElem? (i := 565) (by decide +kernel), List.mem_of_getElem? (i := 566) (by decide +kernel)⟩
def lw_privs_1 : List (MethodName × Nat) := [(⟨"BorderStamps", "sumOverHolders", "(I)I"⟩, 9), (⟨"BorderStamps", "recorded", "(I)I"⟩, 9), (⟨"BorderStamps", "dropOldest", "()V"⟩, 9), (⟨"BorderStamps$State", "isOpen", "(II)Z"⟩, 5), (⟨"BorderStamps$Book", "addStamp", "(III)V"⟩, 2), (⟨"BorderStamps$State", "endDay", "()I"⟩, 5), (⟨"BorderStamps$State", "oneCrossingFrom", "(ILBorderStamps$Holder;)I"⟩, 5), (⟨"BorderStamps$State", "isBesideOneOf", "(II)Z"⟩, 5)]
theorem lw_r1 : ∀ q ∈ lw_privs_1, lw_okq q := List.forall_mem_cons.mpr ⟨lw_p0, List.forall_mem_cons.mpr ⟨lw_p1, List.forall_mem_cons.mpr ⟨lw_p2, List.forall_mem_cons.mpr ⟨lw_p3, List.forall_mem_cons.mpr ⟨lw_p4, List.forall_mem_cons.mpr ⟨lw_p5, List.forall_mem_cons.mpr ⟨lw_p6, List.forall_mem_cons.mpr ⟨lw_p7, fun _ h => absurd h List.not_mem_nil⟩⟩⟩⟩⟩⟩⟩⟩
def lw_privs : List (MethodName × Nat) := lw_privs_1
def lw_tbl : List Cond := k2_sels lw_privs ++ tables_1
theorem lw_privs_ok : ∀ q ∈ lw_privs, lw_okq q := lw_r1
-- ===== end of PART A; then your names; then what follows =====
def RX0 : String := "BorderStamps$Book"
def TX0 : u_T := fun k => match k with
  | 0 => ("BorderStamps$Book", "told", "LBorderStamps$Trail;", true)
  | _ => ("BorderStamps$Book", "countries", "[I", true)
def tyX0 : Nat → FieldType := fun k => match k with
  | 0 => .object "BorderStamps$Trail"
  | _ => .array .int
abbrev wsX00 : List Cond := u_ws RX0 TX0 2
theorem nmX0 : ∀ a, a < 2 → ∀ b, b < 2 → a ≠ b → (TX0 a).2.1 ≠ (TX0 b).2.1 := by decide +kernel
theorem tyX0_ok : ∀ k, k < 2 → parseFieldDescriptor (TX0 k).2.2.1 = some (tyX0 k) := by decide +kernel
abbrev cX0_init : ByteArray := prog_2_method_1_code
def yX0_init : MethodName := ⟨RX0, "<init>", "()V"⟩
abbrev cX0_copyFrom : ByteArray := prog_2_method_2_code
def yX0_copyFrom : MethodName := ⟨RX0, "copyFrom", "(LBorderStamps$Book;)V"⟩
abbrev cX0_begin : ByteArray := prog_2_method_3_code
def yX0_begin : MethodName := ⟨RX0, "begin", "(II)V"⟩
abbrev cX0_addExit : ByteArray := prog_2_method_4_code
def yX0_addExit : MethodName := ⟨RX0, "addExit", "(II)V"⟩
abbrev cX0_addEntry : ByteArray := prog_2_method_5_code
def yX0_addEntry : MethodName := ⟨RX0, "addEntry", "(II)V"⟩
abbrev cX0_addStamp : ByteArray := prog_2_method_6_code
def yX0_addStamp : MethodName := ⟨RX0, "addStamp", "(III)V"⟩
abbrev cX0_stamps : ByteArray := prog_2_method_7_code
def yX0_stamps : MethodName := ⟨RX0, "stamps", "()I"⟩
abbrev cX0_hasStamp : ByteArray := prog_2_method_8_code
def yX0_hasStamp : MethodName := ⟨RX0, "hasStamp", "(I)Z"⟩
abbrev cX0_dayOf : ByteArray := prog_2_method_9_code
def yX0_dayOf : MethodName := ⟨RX0, "dayOf", "(I)I"⟩
abbrev cX0_countryOf : ByteArray := prog_2_method_10_code
def yX0_countryOf : MethodName := ⟨RX0, "countryOf", "(I)I"⟩
abbrev cX0_isEntry : ByteArray := prog_2_method_11_code
def yX0_isEntry : MethodName := ⟨RX0, "isEntry", "(I)Z"⟩
abbrev cX0_isGap : ByteArray := prog_2_method_12_code
def yX0_isGap : MethodName := ⟨RX0, "isGap", "(I)Z"⟩
abbrev cX0_gaps : ByteArray := prog_2_method_13_code
def yX0_gaps : MethodName := ⟨RX0, "gaps", "()I"⟩
def RX1 : String := "BorderStamps$Holder"
def TX1 : u_T := fun k => match k with
  | 0 => ("BorderStamps$Holder", "home", "I", false)
  | 1 => ("BorderStamps$Holder", "overstays", "I", false)
  | 2 => ("BorderStamps$Holder", "books", "I", false)
  | 3 => ("BorderStamps$Holder", "journey", "LBorderStamps$Trail;", true)
  | 4 => ("BorderStamps$Holder", "book", "LBorderStamps$Book;", true)
  | _ => ("BorderStamps$Holder", "visas", "[LBorderStamps$Visa;", true)
def tyX1 : Nat → FieldType := fun k => match k with
  | 0 => .int
  | 1 => .int
  | 2 => .int
  | 3 => .object "BorderStamps$Trail"
  | 4 => .object "BorderStamps$Book"
  | _ => .array (.object "BorderStamps$Visa")
abbrev wsX10 : List Cond := u_ws RX1 TX1 6
theorem nmX1 : ∀ a, a < 6 → ∀ b, b < 6 → a ≠ b → (TX1 a).2.1 ≠ (TX1 b).2.1 := by decide +kernel
theorem tyX1_ok : ∀ k, k < 6 → parseFieldDescriptor (TX1 k).2.2.1 = some (tyX1 k) := by decide +kernel
abbrev cX1_init : ByteArray := prog_3_method_1_code
def yX1_init : MethodName := ⟨RX1, "<init>", "()V"⟩
abbrev cX1_copyFrom : ByteArray := prog_3_method_2_code
def yX1_copyFrom : MethodName := ⟨RX1, "copyFrom", "(LBorderStamps$Holder;)V"⟩
abbrev cX1_begin : ByteArray := prog_3_method_3_code
def yX1_begin : MethodName := ⟨RX1, "begin", "(II)V"⟩
abbrev cX1_beginBook : ByteArray := prog_3_method_4_code
def yX1_beginBook : MethodName := ⟨RX1, "beginBook", "(I)V"⟩
abbrev cX1_place : ByteArray := prog_3_method_5_code
def yX1_place : MethodName := ⟨RX1, "place", "()I"⟩
abbrev cX1_toldPlace : ByteArray := prog_3_method_6_code
def yX1_toldPlace : MethodName := ⟨RX1, "toldPlace", "()I"⟩
abbrev cX1_crossings : ByteArray := prog_3_method_7_code
def yX1_crossings : MethodName := ⟨RX1, "crossings", "()I"⟩
abbrev cX1_visaFor : ByteArray := prog_3_method_8_code
def yX1_visaFor : MethodName := ⟨RX1, "visaFor", "(I)LBorderStamps$Visa;"⟩
abbrev cX1_setVisa : ByteArray := prog_3_method_9_code
def yX1_setVisa : MethodName := ⟨RX1, "setVisa", "(ILBorderStamps$Visa;)V"⟩
abbrev cX1_usedDays : ByteArray := prog_3_method_10_code
def yX1_usedDays : MethodName := ⟨RX1, "usedDays", "(LBorderStamps$Visa;I)I"⟩
abbrev cX1_hasValidVisa : ByteArray := prog_3_method_11_code
def yX1_hasValidVisa : MethodName := ⟨RX1, "hasValidVisa", "(II)Z"⟩
abbrev cX1_mayBeIn : ByteArray := prog_3_method_12_code
def yX1_mayBeIn : MethodName := ⟨RX1, "mayBeIn", "(II)Z"⟩
abbrev cX1_visasHeld : ByteArray := prog_3_method_13_code
def yX1_visasHeld : MethodName := ⟨RX1, "visasHeld", "()I"⟩
abbrev cX1_visasValidOn : ByteArray := prog_3_method_14_code
def yX1_visasValidOn : MethodName := ⟨RX1, "visasValidOn", "(I)I"⟩
def RX2 : String := "BorderStamps$State"
def TX2 : u_T := fun k => match k with
  | 0 => ("BorderStamps$State", "day", "I", false)
  | 1 => ("BorderStamps$State", "issued", "I", false)
  | 2 => ("BorderStamps$State", "forgotten", "I", false)
  | 3 => ("BorderStamps$State", "closed", "J", false)
  | _ => ("BorderStamps$State", "holders", "[LBorderStamps$Holder;", true)
def tyX2 : Nat → FieldType := fun k => match k with
  | 0 => .int
  | 1 => .int
  | 2 => .int
  | 3 => .long
  | _ => .array (.object "BorderStamps$Holder")
abbrev wsX20 : List Cond := u_ws RX2 TX2 5
theorem nmX2 : ∀ a, a < 5 → ∀ b, b < 5 → a ≠ b → (TX2 a).2.1 ≠ (TX2 b).2.1 := by decide +kernel
theorem tyX2_ok : ∀ k, k < 5 → parseFieldDescriptor (TX2 k).2.2.1 = some (tyX2 k) := by decide +kernel
abbrev cX2_init : ByteArray := prog_4_method_1_code
def yX2_init : MethodName := ⟨RX2, "<init>", "()V"⟩
abbrev cX2_copyFrom : ByteArray := prog_4_method_2_code
def yX2_copyFrom : MethodName := ⟨RX2, "copyFrom", "(LBorderStamps$State;)V"⟩
abbrev cX2_holderOf : ByteArray := prog_4_method_3_code
def yX2_holderOf : MethodName := ⟨RX2, "holderOf", "(I)LBorderStamps$Holder;"⟩
abbrev cX2_closedBorders : ByteArray := prog_4_method_4_code
def yX2_closedBorders : MethodName := ⟨RX2, "closedBorders", "()I"⟩
abbrev cX2_addHolder : ByteArray := prog_4_method_5_code
def yX2_addHolder : MethodName := ⟨RX2, "addHolder", "(I)I"⟩
abbrev cX2_giveBook : ByteArray := prog_4_method_6_code
def yX2_giveBook : MethodName := ⟨RX2, "giveBook", "(I)I"⟩
abbrev cX2_giveVisa : ByteArray := prog_4_method_7_code
def yX2_giveVisa : MethodName := ⟨RX2, "giveVisa", "(IIIII)I"⟩
abbrev cX2_takeVisa : ByteArray := prog_4_method_8_code
def yX2_takeVisa : MethodName := ⟨RX2, "takeVisa", "(II)I"⟩
abbrev cX2_flipBorder : ByteArray := prog_4_method_9_code
def yX2_flipBorder : MethodName := ⟨RX2, "flipBorder", "(II)I"⟩
abbrev cX2_moveHolder : ByteArray := prog_4_method_10_code
def yX2_moveHolder : MethodName := ⟨RX2, "moveHolder", "(III)I"⟩
abbrev cX2_endDays : ByteArray := prog_4_method_11_code
def yX2_endDays : MethodName := ⟨RX2, "endDays", "(I)I"⟩
abbrev cX2_endDay : ByteArray := prog_4_method_12_code
def yX2_endDay : MethodName := ⟨RX2, "endDay", "()I"⟩
abbrev cX2_reasonAgainst : ByteArray := prog_4_method_13_code
def yX2_reasonAgainst : MethodName := ⟨RX2, "reasonAgainst", "(LBorderStamps$Holder;II)I"⟩
abbrev cX2_fewestCrossings : ByteArray := prog_4_method_14_code
def yX2_fewestCrossings : MethodName := ⟨RX2, "fewestCrossings", "(LBorderStamps$Holder;I)I"⟩
abbrev cX2_oneCrossingFrom : ByteArray := prog_4_method_15_code
def yX2_oneCrossingFrom : MethodName := ⟨RX2, "oneCrossingFrom", "(ILBorderStamps$Holder;)I"⟩
abbrev cX2_isBesideOneOf : ByteArray := prog_4_method_16_code
def yX2_isBesideOneOf : MethodName := ⟨RX2, "isBesideOneOf", "(II)Z"⟩
abbrev cX2_isOpen : ByteArray := prog_4_method_17_code
def yX2_isOpen : MethodName := ⟨RX2, "isOpen", "(II)Z"⟩
abbrev cX2_borderBit : ByteArray := prog_4_method_18_code
def yX2_borderBit : MethodName := ⟨RX2, "borderBit", "(II)J"⟩
def RX3 : String := "BorderStamps$Text"
def TX3 : u_T := fun k => match k with
  | 0 => ("BorderStamps$Text", "characters", "[C", true)
  | 1 => ("BorderStamps$Text", "length", "I", false)
  | 2 => ("BorderStamps$Text", "things", "I", false)
  | 3 => ("BorderStamps$Text", "next", "I", false)
  | 4 => ("BorderStamps$Text", "kind", "I", false)
  | 5 => ("BorderStamps$Text", "passport", "I", false)
  | 6 => ("BorderStamps$Text", "country", "I", false)
  | 7 => ("BorderStamps$Text", "forgets", "I", false)
  | 8 => ("BorderStamps$Text", "from", "I", false)
  | 9 => ("BorderStamps$Text", "until", "I", false)
  | _ => ("BorderStamps$Text", "days", "I", false)
def tyX3 : Nat → FieldType := fun k => match k with
  | 0 => .array .char
  | 1 => .int
  | 2 => .int
  | 3 => .int
  | 4 => .int
  | 5 => .int
  | 6 => .int
  | 7 => .int
  | 8 => .int
  | 9 => .int
  | _ => .int
abbrev wsX30 : List Cond := u_ws RX3 TX3 11
theorem nmX3 : ∀ a, a < 11 → ∀ b, b < 11 → a ≠ b → (TX3 a).2.1 ≠ (TX3 b).2.1 := by decide +kernel
theorem tyX3_ok : ∀ k, k < 11 → parseFieldDescriptor (TX3 k).2.2.1 = some (tyX3 k) := by decide +kernel
abbrev cX3_init : ByteArray := prog_5_method_1_code
def yX3_init : MethodName := ⟨RX3, "<init>", "()V"⟩
def RX4 : String := "BorderStamps$Trail"
def TX4 : u_T := fun k => match k with
  | 0 => ("BorderStamps$Trail", "days", "[I", true)
  | 1 => ("BorderStamps$Trail", "places", "[I", true)
  | _ => ("BorderStamps$Trail", "steps", "I", false)
def tyX4 : Nat → FieldType := fun k => match k with
  | 0 => .array .int
  | 1 => .array .int
  | _ => .int
abbrev wsX40 : List Cond := u_ws RX4 TX4 3
theorem nmX4 : ∀ a, a < 3 → ∀ b, b < 3 → a ≠ b → (TX4 a).2.1 ≠ (TX4 b).2.1 := by decide +kernel
theorem tyX4_ok : ∀ k, k < 3 → parseFieldDescriptor (TX4 k).2.2.1 = some (tyX4 k) := by decide +kernel
abbrev cX4_init : ByteArray := prog_6_method_1_code
def yX4_init : MethodName := ⟨RX4, "<init>", "(I)V"⟩
abbrev cX4_copyFrom : ByteArray := prog_6_method_2_code
def yX4_copyFrom : MethodName := ⟨RX4, "copyFrom", "(LBorderStamps$Trail;)V"⟩
abbrev cX4_begin : ByteArray := prog_6_method_3_code
def yX4_begin : MethodName := ⟨RX4, "begin", "(II)V"⟩
abbrev cX4_add : ByteArray := prog_6_method_4_code
def yX4_add : MethodName := ⟨RX4, "add", "(II)V"⟩
abbrev cX4_lastPlace : ByteArray := prog_6_method_5_code
def yX4_lastPlace : MethodName := ⟨RX4, "lastPlace", "()I"⟩
abbrev cX4_placeAfter : ByteArray := prog_6_method_6_code
def yX4_placeAfter : MethodName := ⟨RX4, "placeAfter", "(I)I"⟩
abbrev cX4_dayAfter : ByteArray := prog_6_method_7_code
def yX4_dayAfter : MethodName := ⟨RX4, "dayAfter", "(I)I"⟩
abbrev cX4_daysIn : ByteArray := prog_6_method_8_code
def yX4_daysIn : MethodName := ⟨RX4, "daysIn", "(III)I"⟩
def RX5 : String := "BorderStamps$Visa"
def TX5 : u_T := fun k => match k with
  | 0 => ("BorderStamps$Visa", "country", "I", true)
  | 1 => ("BorderStamps$Visa", "from", "I", true)
  | 2 => ("BorderStamps$Visa", "until", "I", true)
  | _ => ("BorderStamps$Visa", "days", "I", true)
def tyX5 : Nat → FieldType := fun k => match k with
  | 0 => .int
  | 1 => .int
  | 2 => .int
  | _ => .int
abbrev wsX50 : List Cond := u_ws RX5 TX5 4
theorem nmX5 : ∀ a, a < 4 → ∀ b, b < 4 → a ≠ b → (TX5 a).2.1 ≠ (TX5 b).2.1 := by decide +kernel
theorem tyX5_ok : ∀ k, k < 4 → parseFieldDescriptor (TX5 k).2.2.1 = some (tyX5 k) := by decide +kernel
abbrev cX5_init : ByteArray := prog_7_method_1_code
def yX5_init : MethodName := ⟨RX5, "<init>", "(IIII)V"⟩
abbrev cX5_isValidOn : ByteArray := prog_7_method_2_code
def yX5_isValidOn : MethodName := ⟨RX5, "isValidOn", "(I)Z"⟩
def RX6 : String := "BorderStamps"
def TX6 : u_T := fun k => match k with
  | 0 => ("BorderStamps", "now", "LBorderStamps$State;", true)
  | 1 => ("BorderStamps", "history", "[LBorderStamps$State;", true)
  | 2 => ("BorderStamps", "remembered", "I", false)
  | 3 => ("BorderStamps", "before", "LBorderStamps$State;", false)
  | 4 => ("BorderStamps", "snapshot", "LBorderStamps$State;", true)
  | 5 => ("BorderStamps", "hasSnapshot", "Z", false)
  | 6 => ("BorderStamps", "text", "LBorderStamps$Text;", true)
  | 7 => ("BorderStamps", "stopNumber", "I", false)
  | _ => ("BorderStamps", "stopError", "I", false)
def tyX6 : Nat → FieldType := fun k => match k with
  | 0 => .object "BorderStamps$State"
  | 1 => .array (.object "BorderStamps$State")
  | 2 => .int
  | 3 => .object "BorderStamps$State"
  | 4 => .object "BorderStamps$State"
  | 5 => .boolean
  | 6 => .object "BorderStamps$Text"
  | 7 => .int
  | _ => .int
abbrev wsX60 : List Cond := u_ws RX6 TX6 9
theorem nmX6 : ∀ a, a < 9 → ∀ b, b < 9 → a ≠ b → (TX6 a).2.1 ≠ (TX6 b).2.1 := by decide +kernel
theorem tyX6_ok : ∀ k, k < 9 → parseFieldDescriptor (TX6 k).2.2.1 = some (tyX6 k) := by decide +kernel
abbrev cX6_init : ByteArray := prog_1_method_1_code
def yX6_init : MethodName := ⟨RX6, "<init>", "()V"⟩
abbrev cX6_issue : ByteArray := prog_1_method_2_code
def yX6_issue : MethodName := ⟨RX6, "issue", "(I)I"⟩
abbrev cX6_renew : ByteArray := prog_1_method_3_code
def yX6_renew : MethodName := ⟨RX6, "renew", "(I)I"⟩
abbrev cX6_grant : ByteArray := prog_1_method_4_code
def yX6_grant : MethodName := ⟨RX6, "grant", "(IIIII)I"⟩
abbrev cX6_revoke : ByteArray := prog_1_method_5_code
def yX6_revoke : MethodName := ⟨RX6, "revoke", "(II)I"⟩
abbrev cX6_turnBorder : ByteArray := prog_1_method_6_code
def yX6_turnBorder : MethodName := ⟨RX6, "turnBorder", "(II)I"⟩
abbrev cX6_cross : ByteArray := prog_1_method_7_code
def yX6_cross : MethodName := ⟨RX6, "cross", "(III)I"⟩
abbrev cX6_pass : ByteArray := prog_1_method_8_code
def yX6_pass : MethodName := ⟨RX6, "pass", "(I)I"⟩
abbrev cX6_undo : ByteArray := prog_1_method_13_code
def yX6_undo : MethodName := ⟨RX6, "undo", "()I"⟩
abbrev cX6_passport : ByteArray := prog_1_method_16_code
def yX6_passport : MethodName := ⟨RX6, "passport", "(II)I"⟩
abbrev cX6_stamp : ByteArray := prog_1_method_17_code
def yX6_stamp : MethodName := ⟨RX6, "stamp", "(III)I"⟩
abbrev cX6_visa : ByteArray := prog_1_method_18_code
def yX6_visa : MethodName := ⟨RX6, "visa", "(III)I"⟩
abbrev cX6_reason : ByteArray := prog_1_method_19_code
def yX6_reason : MethodName := ⟨RX6, "reason", "(II)I"⟩
abbrev cX6_stay : ByteArray := prog_1_method_20_code
def yX6_stay : MethodName := ⟨RX6, "stay", "(IIIIZ)I"⟩
abbrev cX6_wayTo : ByteArray := prog_1_method_21_code
def yX6_wayTo : MethodName := ⟨RX6, "wayTo", "(II)I"⟩
abbrev cX6_daysLeft : ByteArray := prog_1_method_22_code
def yX6_daysLeft : MethodName := ⟨RX6, "daysLeft", "(II)I"⟩
abbrev cX6_mistold : ByteArray := prog_1_method_23_code
def yX6_mistold : MethodName := ⟨RX6, "mistold", "()I"⟩
abbrev cX6_holders : ByteArray := prog_1_method_24_code
def yX6_holders : MethodName := ⟨RX6, "holders", "(IZ)I"⟩
abbrev cX6_count : ByteArray := prog_1_method_25_code
def yX6_count : MethodName := ⟨RX6, "count", "(I)I"⟩
abbrev cX6_sumOverHolders : ByteArray := prog_1_method_26_code
def yX6_sumOverHolders : MethodName := ⟨RX6, "sumOverHolders", "(I)I"⟩
abbrev cX6_recorded : ByteArray := prog_1_method_28_code
def yX6_recorded : MethodName := ⟨RX6, "recorded", "(I)I"⟩
abbrev cX6_dropOldest : ByteArray := prog_1_method_29_code
def yX6_dropOldest : MethodName := ⟨RX6, "dropOldest", "()V"⟩
abbrev cX6_isWithin : ByteArray := prog_1_method_30_code
def yX6_isWithin : MethodName := ⟨RX6, "isWithin", "(III)Z"⟩
abbrev cX6_isCountry : ByteArray := prog_1_method_31_code
def yX6_isCountry : MethodName := ⟨RX6, "isCountry", "(I)Z"⟩
abbrev cX6_isSpan : ByteArray := prog_1_method_32_code
def yX6_isSpan : MethodName := ⟨RX6, "isSpan", "(II)Z"⟩
def RX7 : String := "BorderStampsModel"
def TX7 : u_T := fun k => match k with
  | _ => ("", "", "", false)
def tyX7 : Nat → FieldType := fun k => match k with
  | _ => .int
abbrev wsX70 : List Cond := u_ws RX7 TX7 0
theorem nmX7 : ∀ a, a < 0 → ∀ b, b < 0 → a ≠ b → (TX7 a).2.1 ≠ (TX7 b).2.1 := by decide +kernel
theorem tyX7_ok : ∀ k, k < 0 → parseFieldDescriptor (TX7 k).2.2.1 = some (tyX7 k) := by decide +kernel
def RJ6 : String := "java/lang/Integer"
def TJ6 : u_T := fun k => match k with
  | _ => ("", "", "", false)
def tyJ6 : Nat → FieldType := fun k => match k with
  | _ => .int
abbrev wsJ60 : List Cond := u_ws RJ6 TJ6 0
abbrev cJ6_bitCount_0f7a4 : ByteArray := prog_10_method_49_code
def yJ6_bitCount_0f7a4 : MethodName := ⟨RJ6, "bitCount", "(I)I"⟩
def RJ13 : String := "java/lang/Long"
def TJ13 : u_T := fun k => match k with
  | _ => ("", "", "", false)
def tyJ13 : Nat → FieldType := fun k => match k with
  | _ => .int
abbrev wsJ130 : List Cond := u_ws RJ13 TJ13 0
abbrev cJ13_bitCount_95d88 : ByteArray := prog_11_method_50_code
def yJ13_bitCount_95d88 : MethodName := ⟨RJ13, "bitCount", "(J)I"⟩
def RJ9 : String := "java/lang/Math"
def TJ9 : u_T := fun k => match k with
  | _ => ("", "", "", false)
def tyJ9 : Nat → FieldType := fun k => match k with
  | _ => .int
abbrev wsJ90 : List Cond := u_ws RJ9 TJ9 0
abbrev cJ9_max_7cf53 : ByteArray := prog_12_method_65_code
def yJ9_max_7cf53 : MethodName := ⟨RJ9, "max", "(II)I"⟩
abbrev cJ9_min_7cf53 : ByteArray := prog_12_method_69_code
def yJ9_min_7cf53 : MethodName := ⟨RJ9, "min", "(II)I"⟩
def RJ10 : String := "java/lang/System"
def TJ10 : u_T := fun k => match k with
  | _ => ("", "", "", false)
def tyJ10 : Nat → FieldType := fun k => match k with
  | _ => .int
abbrev wsJ100 : List Cond := u_ws RJ10 TJ10 0
def RL : String := "BorderStampsLaw"
abbrev cL_cell : ByteArray := method_2_code
def yL_cell : MethodName := ⟨RL, "cell", "([II)I"⟩
abbrev cL_low : ByteArray := method_3_code
def yL_low : MethodName := ⟨RL, "low", "(II)I"⟩
abbrev cL_act : ByteArray := method_4_code
def yL_act : MethodName := ⟨RL, "act", "(LBorderStamps;I)I"⟩
abbrev cL_areAlike : ByteArray := method_5_code
def yL_areAlike : MethodName := ⟨RL, "areAlike", "(LBorderStamps;LBorderStamps;)Z"⟩
abbrev cL_isBookSo : ByteArray := method_6_code
def yL_isBookSo : MethodName := ⟨RL, "isBookSo", "(LBorderStamps;I)Z"⟩
abbrev cL_areStaysSo : ByteArray := method_7_code
def yL_areStaysSo : MethodName := ⟨RL, "areStaysSo", "(LBorderStamps;I)Z"⟩
abbrev cL_areWaysSo : ByteArray := method_8_code
def yL_areWaysSo : MethodName := ⟨RL, "areWaysSo", "(LBorderStamps;I)Z"⟩
abbrev cL_isCrossedSo : ByteArray := method_9_code
def yL_isCrossedSo : MethodName := ⟨RL, "isCrossedSo", "(LBorderStamps;III)Z"⟩
abbrev cL_areSums : ByteArray := method_10_code
def yL_areSums : MethodName := ⟨RL, "areSums", "(LBorderStamps;)Z"⟩
abbrev cL_law : ByteArray := code
def yL_law : MethodName := ⟨RL, "law", "([I)Z"⟩
abbrev vwCl : List vw_C := [(RX0, TX0, 2), (RX1, TX1, 6), (RX2, TX2, 5), (RX3, TX3, 11), (RX4, TX4, 3), (RX5, TX5, 4), (RX6, TX6, 9)]
theorem inX0 : ∀ w ∈ wsX00, w ∈ lw_tbl := by decide +kernel
theorem inX1 : ∀ w ∈ wsX10, w ∈ lw_tbl := by decide +kernel
theorem inX2 : ∀ w ∈ wsX20, w ∈ lw_tbl := by decide +kernel
theorem inX3 : ∀ w ∈ wsX30, w ∈ lw_tbl := by decide +kernel
theorem inX4 : ∀ w ∈ wsX40, w ∈ lw_tbl := by decide +kernel
theorem inX5 : ∀ w ∈ wsX50, w ∈ lw_tbl := by decide +kernel
theorem inX6 : ∀ w ∈ wsX60, w ∈ lw_tbl := by decide +kernel
theorem good_app {big a b : List Cond} (ha : GoodIn big a) (hb : GoodIn big b) : GoodIn big (a ++ b) := fun w h => (List.mem_append.mp h).elim (ha w) (hb w)
def tb : List Cond := lw_tbl.filter goodWord
theorem tb_in {w : Cond} (h : w ∈ lw_tbl) (hg : goodWord w = true) : w ∈ tb := List.mem_filter.mpr ⟨h, hg⟩
theorem tb_good : GoodIn tb tb := fun w h => ⟨h, good_of_word (List.mem_filter.mp h).2⟩
theorem tb_sub {w : Cond} (h : w ∈ tb) : w ∈ lw_tbl := (List.mem_filter.mp h).1
theorem tbX0 : ∀ w ∈ u_ws RX0 TX0 2, w ∈ tb := fun w h => tb_in (inX0 w h) (List.all_eq_true.mp (show (u_ws RX0 TX0 2).all goodWord = true by decide +kernel) w h)
theorem tbX1 : ∀ w ∈ u_ws RX1 TX1 6, w ∈ tb := fun w h => tb_in (inX1 w h) (List.all_eq_true.mp (show (u_ws RX1 TX1 6).all goodWord = true by decide +kernel) w h)
theorem tbX2 : ∀ w ∈ u_ws RX2 TX2 5, w ∈ tb := fun w h => tb_in (inX2 w h) (List.all_eq_true.mp (show (u_ws RX2 TX2 5).all goodWord = true by decide +kernel) w h)
theorem tbX3 : ∀ w ∈ u_ws RX3 TX3 11, w ∈ tb := fun w h => tb_in (inX3 w h) (List.all_eq_true.mp (show (u_ws RX3 TX3 11).all goodWord = true by decide +kernel) w h)
theorem tbX4 : ∀ w ∈ u_ws RX4 TX4 3, w ∈ tb := fun w h => tb_in (inX4 w h) (List.all_eq_true.mp (show (u_ws RX4 TX4 3).all goodWord = true by decide +kernel) w h)
theorem tbX5 : ∀ w ∈ u_ws RX5 TX5 4, w ∈ tb := fun w h => tb_in (inX5 w h) (List.all_eq_true.mp (show (u_ws RX5 TX5 4).all goodWord = true by decide +kernel) w h)
theorem tbX6 : ∀ w ∈ u_ws RX6 TX6 9, w ∈ tb := fun w h => tb_in (inX6 w h) (List.all_eq_true.mp (show (u_ws RX6 TX6 9).all goodWord = true by decide +kernel) w h)
