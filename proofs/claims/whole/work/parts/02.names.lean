def RX0 : String := "NumberFerries$Ferry"
def TX0 : u_T := fun k => match k with
  | 0 => ("NumberFerries$Ferry", "kind", "I", false)
  | 1 => ("NumberFerries$Ferry", "number", "I", false)
  | 2 => ("NumberFerries$Ferry", "bank", "I", false)
  | 3 => ("NumberFerries$Ferry", "room", "I", false)
  | _ => ("NumberFerries$Ferry", "minutes", "I", false)
def tyX0 : Nat → FieldType := fun k => match k with
  | 0 => .int
  | 1 => .int
  | 2 => .int
  | 3 => .int
  | _ => .int
abbrev wsX00 : List Cond := u_ws RX0 TX0 5
theorem nmX0 : ∀ a, a < 5 → ∀ b, b < 5 → a ≠ b → (TX0 a).2.1 ≠ (TX0 b).2.1 := by decide +kernel
theorem tyX0_ok : ∀ k, k < 5 → parseFieldDescriptor (TX0 k).2.2.1 = some (tyX0 k) := by decide +kernel
abbrev cX0_init : ByteArray := prog_2_method_1_code
def yX0_init : MethodName := ⟨RX0, "<init>", "()V"⟩
abbrev cX0_tell : ByteArray := prog_2_method_2_code
def yX0_tell : MethodName := ⟨RX0, "tell", "(IIIII)V"⟩
abbrev cX0_numberNow : ByteArray := prog_2_method_3_code
def yX0_numberNow : MethodName := ⟨RX0, "numberNow", "(Z)I"⟩
abbrev cX0_play : ByteArray := prog_2_method_4_code
def yX0_play : MethodName := ⟨RX0, "play", "()I"⟩
def RX1 : String := "NumberFerries$Line"
def TX1 : u_T := fun k => match k with
  | 0 => ("NumberFerries$Line", "word", "LNumberFerries$Word;", false)
  | _ => ("NumberFerries$Line", "numbers", "[I", true)
def tyX1 : Nat → FieldType := fun k => match k with
  | 0 => .object "NumberFerries$Word"
  | _ => .array .int
abbrev wsX10 : List Cond := u_ws RX1 TX1 2
theorem nmX1 : ∀ a, a < 2 → ∀ b, b < 2 → a ≠ b → (TX1 a).2.1 ≠ (TX1 b).2.1 := by decide +kernel
theorem tyX1_ok : ∀ k, k < 2 → parseFieldDescriptor (TX1 k).2.2.1 = some (tyX1 k) := by decide +kernel
abbrev cX1_init : ByteArray := prog_3_method_1_code
def yX1_init : MethodName := ⟨RX1, "<init>", "()V"⟩
def RX2 : String := "NumberFerries$Reader"
def TX2 : u_T := fun k => match k with
  | 0 => ("NumberFerries$Reader", "lines", "[LNumberFerries$Line;", true)
  | 1 => ("NumberFerries$Reader", "lineCount", "I", false)
  | 2 => ("NumberFerries$Reader", "fault", "I", false)
  | 3 => ("NumberFerries$Reader", "text", "LNumberFerries$Text;", true)
  | 4 => ("NumberFerries$Reader", "river", "LNumberFerries$River;", true)
  | 5 => ("NumberFerries$Reader", "begin", "I", false)
  | 6 => ("NumberFerries$Reader", "end", "I", false)
  | 7 => ("NumberFerries$Reader", "sort", "I", false)
  | 8 => ("NumberFerries$Reader", "things", "I", false)
  | 9 => ("NumberFerries$Reader", "withHats", "I", false)
  | _ => ("NumberFerries$Reader", "ferries", "I", false)
def tyX2 : Nat → FieldType := fun k => match k with
  | 0 => .array (.object "NumberFerries$Line")
  | 1 => .int
  | 2 => .int
  | 3 => .object "NumberFerries$Text"
  | 4 => .object "NumberFerries$River"
  | 5 => .int
  | 6 => .int
  | 7 => .int
  | 8 => .int
  | 9 => .int
  | _ => .int
abbrev wsX20 : List Cond := u_ws RX2 TX2 11
theorem nmX2 : ∀ a, a < 11 → ∀ b, b < 11 → a ≠ b → (TX2 a).2.1 ≠ (TX2 b).2.1 := by decide +kernel
theorem tyX2_ok : ∀ k, k < 11 → parseFieldDescriptor (TX2 k).2.2.1 = some (tyX2 k) := by decide +kernel
abbrev cX2_init : ByteArray := prog_4_method_1_code
def yX2_init : MethodName := ⟨RX2, "<init>", "(LNumberFerries$Text;LNumberFerries$River;)V"⟩
abbrev cX2_read : ByteArray := prog_4_method_2_code
def yX2_read : MethodName := ⟨RX2, "read", "()V"⟩
abbrev cX2_readLine : ByteArray := prog_4_method_3_code
def yX2_readLine : MethodName := ⟨RX2, "readLine", "(LNumberFerries$Line;)Z"⟩
abbrev cX2_readSemicolon : ByteArray := prog_4_method_4_code
def yX2_readSemicolon : MethodName := ⟨RX2, "readSemicolon", "()Z"⟩
abbrev cX2_faultHere : ByteArray := prog_4_method_5_code
def yX2_faultHere : MethodName := ⟨RX2, "faultHere", "()Z"⟩
abbrev cX2_nextToken : ByteArray := prog_4_method_6_code
def yX2_nextToken : MethodName := ⟨RX2, "nextToken", "()V"⟩
abbrev cX2_sortAt : ByteArray := prog_4_method_7_code
def yX2_sortAt : MethodName := ⟨RX2, "sortAt", "(I)I"⟩
abbrev cX2_findWord : ByteArray := prog_4_method_8_code
def yX2_findWord : MethodName := ⟨RX2, "findWord", "()LNumberFerries$Word;"⟩
abbrev cX2_isSpelt : ByteArray := prog_4_method_9_code
def yX2_isSpelt : MethodName := ⟨RX2, "isSpelt", "(Ljava/lang/String;)Z"⟩
abbrev cX2_isTooMany : ByteArray := prog_4_method_10_code
def yX2_isTooMany : MethodName := ⟨RX2, "isTooMany", "(LNumberFerries$Word;)Z"⟩
abbrev cX2_numberHere : ByteArray := prog_4_method_11_code
def yX2_numberHere : MethodName := ⟨RX2, "numberHere", "()I"⟩
abbrev cX2_canStand : ByteArray := prog_4_method_12_code
def yX2_canStand : MethodName := ⟨RX2, "canStand", "(CI)Z"⟩
abbrev cX2_foresee : ByteArray := prog_4_method_13_code
def yX2_foresee : MethodName := ⟨RX2, "foresee", "(LNumberFerries$Word;)V"⟩
def RX3 : String := "NumberFerries$River"
def TX3 : u_T := fun k => match k with
  | 0 => ("NumberFerries$River", "things", "[LNumberFerries$Thing;", true)
  | 1 => ("NumberFerries$River", "ferries", "[LNumberFerries$Ferry;", true)
  | 2 => ("NumberFerries$River", "now", "LNumberFerries$Stand;", true)
  | 3 => ("NumberFerries$River", "thingCount", "I", false)
  | 4 => ("NumberFerries$River", "ferryCount", "I", false)
  | 5 => ("NumberFerries$River", "persons", "I", false)
  | 6 => ("NumberFerries$River", "withHats", "I", false)
  | 7 => ("NumberFerries$River", "unsure", "I", false)
  | _ => ("NumberFerries$River", "poundsBy", "[I", true)
def tyX3 : Nat → FieldType := fun k => match k with
  | 0 => .array (.object "NumberFerries$Thing")
  | 1 => .array (.object "NumberFerries$Ferry")
  | 2 => .object "NumberFerries$Stand"
  | 3 => .int
  | 4 => .int
  | 5 => .int
  | 6 => .int
  | 7 => .int
  | _ => .array .int
abbrev wsX30 : List Cond := u_ws RX3 TX3 9
theorem nmX3 : ∀ a, a < 9 → ∀ b, b < 9 → a ≠ b → (TX3 a).2.1 ≠ (TX3 b).2.1 := by decide +kernel
theorem tyX3_ok : ∀ k, k < 9 → parseFieldDescriptor (TX3 k).2.2.1 = some (tyX3 k) := by decide +kernel
abbrev cX3_init : ByteArray := prog_5_method_1_code
def yX3_init : MethodName := ⟨RX3, "<init>", "()V"⟩
abbrev cX3_hasThing : ByteArray := prog_5_method_2_code
def yX3_hasThing : MethodName := ⟨RX3, "hasThing", "(I)Z"⟩
abbrev cX3_hasFerry : ByteArray := prog_5_method_3_code
def yX3_hasFerry : MethodName := ⟨RX3, "hasFerry", "(I)Z"⟩
abbrev cX3_hasAll : ByteArray := prog_5_method_4_code
def yX3_hasAll : MethodName := ⟨RX3, "hasAll", "(I)Z"⟩
abbrev cX3_carryOut : ByteArray := prog_5_method_5_code
def yX3_carryOut : MethodName := ⟨RX3, "carryOut", "(LNumberFerries$Line;)V"⟩
abbrev cX3_addThing : ByteArray := prog_5_method_6_code
def yX3_addThing : MethodName := ⟨RX3, "addThing", "(I[I)V"⟩
abbrev cX3_addFerry : ByteArray := prog_5_method_7_code
def yX3_addFerry : MethodName := ⟨RX3, "addFerry", "(I[I)V"⟩
abbrev cX3_change : ByteArray := prog_5_method_8_code
def yX3_change : MethodName := ⟨RX3, "change", "(LNumberFerries$Thing;LNumberFerries$Word;I)V"⟩
abbrev cX3_beginDay : ByteArray := prog_5_method_9_code
def yX3_beginDay : MethodName := ⟨RX3, "beginDay", "()V"⟩
abbrev cX3_hatIsOn : ByteArray := prog_5_method_10_code
def yX3_hatIsOn : MethodName := ⟨RX3, "hatIsOn", "(I)Z"⟩
abbrev cX3_turnHat : ByteArray := prog_5_method_11_code
def yX3_turnHat : MethodName := ⟨RX3, "turnHat", "(I)V"⟩
abbrev cX3_bringBack : ByteArray := prog_5_method_12_code
def yX3_bringBack : MethodName := ⟨RX3, "bringBack", "(LNumberFerries$Stand;)V"⟩
abbrev cX3_weighAll : ByteArray := prog_5_method_13_code
def yX3_weighAll : MethodName := ⟨RX3, "weighAll", "()V"⟩
abbrev cX3_poundsOf : ByteArray := prog_5_method_14_code
def yX3_poundsOf : MethodName := ⟨RX3, "poundsOf", "(I)I"⟩
abbrev cX3_hatsOfAll : ByteArray := prog_5_method_15_code
def yX3_hatsOfAll : MethodName := ⟨RX3, "hatsOfAll", "(I)I"⟩
abbrev cX3_wishesOfAll : ByteArray := prog_5_method_16_code
def yX3_wishesOfAll : MethodName := ⟨RX3, "wishesOfAll", "(I)I"⟩
abbrev cX3_isOnBankOf : ByteArray := prog_5_method_17_code
def yX3_isOnBankOf : MethodName := ⟨RX3, "isOnBankOf", "(III)Z"⟩
abbrev cX3_mayGoAboard : ByteArray := prog_5_method_18_code
def yX3_mayGoAboard : MethodName := ⟨RX3, "mayGoAboard", "(II)Z"⟩
abbrev cX3_missBy : ByteArray := prog_5_method_19_code
def yX3_missBy : MethodName := ⟨RX3, "missBy", "(II)I"⟩
abbrev cX3_isNumber : ByteArray := prog_5_method_20_code
def yX3_isNumber : MethodName := ⟨RX3, "isNumber", "(II)Z"⟩
abbrev cX3_isRightSomewhere : ByteArray := prog_5_method_21_code
def yX3_isRightSomewhere : MethodName := ⟨RX3, "isRightSomewhere", "(II)Z"⟩
abbrev cX3_isRight : ByteArray := prog_5_method_22_code
def yX3_isRight : MethodName := ⟨RX3, "isRight", "(III)Z"⟩
abbrev cX3_isSure : ByteArray := prog_5_method_23_code
def yX3_isSure : MethodName := ⟨RX3, "isSure", "(II)Z"⟩
abbrev cX3_fewestHatsOff : ByteArray := prog_5_method_24_code
def yX3_fewestHatsOff : MethodName := ⟨RX3, "fewestHatsOff", "(II)I"⟩
abbrev cX3_fewestStones : ByteArray := prog_5_method_25_code
def yX3_fewestStones : MethodName := ⟨RX3, "fewestStones", "(III)I"⟩
def RX4 : String := "NumberFerries$Search"
def TX4 : u_T := fun k => match k with
  | 0 => ("NumberFerries$Search", "river", "LNumberFerries$River;", true)
  | 1 => ("NumberFerries$Search", "fits", "[I", true)
  | 2 => ("NumberFerries$Search", "fitCount", "[I", true)
  | 3 => ("NumberFerries$Search", "cost", "[I", true)
  | 4 => ("NumberFerries$Search", "cameBy", "[I", true)
  | 5 => ("NumberFerries$Search", "waiting", "[I", true)
  | 6 => ("NumberFerries$Search", "head", "[I", true)
  | _ => ("NumberFerries$Search", "tail", "[I", true)
def tyX4 : Nat → FieldType := fun k => match k with
  | 0 => .object "NumberFerries$River"
  | 1 => .array .int
  | 2 => .array .int
  | 3 => .array .int
  | 4 => .array .int
  | 5 => .array .int
  | 6 => .array .int
  | _ => .array .int
abbrev wsX40 : List Cond := u_ws RX4 TX4 8
theorem nmX4 : ∀ a, a < 8 → ∀ b, b < 8 → a ≠ b → (TX4 a).2.1 ≠ (TX4 b).2.1 := by decide +kernel
theorem tyX4_ok : ∀ k, k < 8 → parseFieldDescriptor (TX4 k).2.2.1 = some (tyX4 k) := by decide +kernel
abbrev cX4_init : ByteArray := prog_6_method_1_code
def yX4_init : MethodName := ⟨RX4, "<init>", "(LNumberFerries$River;)V"⟩
abbrev cX4_find : ByteArray := prog_6_method_2_code
def yX4_find : MethodName := ⟨RX4, "find", "(IIZ)I"⟩
abbrev cX4_costOf : ByteArray := prog_6_method_3_code
def yX4_costOf : MethodName := ⟨RX4, "costOf", "(I)I"⟩
abbrev cX4_crossingTo : ByteArray := prog_6_method_4_code
def yX4_crossingTo : MethodName := ⟨RX4, "crossingTo", "(II)I"⟩
abbrev cX4_clear : ByteArray := prog_6_method_5_code
def yX4_clear : MethodName := ⟨RX4, "clear", "()V"⟩
abbrev cX4_listFits : ByteArray := prog_6_method_6_code
def yX4_listFits : MethodName := ⟨RX4, "listFits", "(I)V"⟩
abbrev cX4_cheapestQueue : ByteArray := prog_6_method_7_code
def yX4_cheapestQueue : MethodName := ⟨RX4, "cheapestQueue", "()I"⟩
abbrev cX4_spread : ByteArray := prog_6_method_8_code
def yX4_spread : MethodName := ⟨RX4, "spread", "(IIII)V"⟩
abbrev cX4_reach : ByteArray := prog_6_method_9_code
def yX4_reach : MethodName := ⟨RX4, "reach", "(IIII)V"⟩
def RX5 : String := "NumberFerries$Stand"
def TX5 : u_T := fun k => match k with
  | 0 => ("NumberFerries$Stand", "made", "Z", false)
  | 1 => ("NumberFerries$Stand", "banks", "I", false)
  | 2 => ("NumberFerries$Stand", "hatsOff", "I", false)
  | 3 => ("NumberFerries$Stand", "afternoon", "Z", false)
  | _ => ("NumberFerries$Stand", "crossings", "I", false)
def tyX5 : Nat → FieldType := fun k => match k with
  | 0 => .boolean
  | 1 => .int
  | 2 => .int
  | 3 => .boolean
  | _ => .int
abbrev wsX50 : List Cond := u_ws RX5 TX5 5
theorem nmX5 : ∀ a, a < 5 → ∀ b, b < 5 → a ≠ b → (TX5 a).2.1 ≠ (TX5 b).2.1 := by decide +kernel
theorem tyX5_ok : ∀ k, k < 5 → parseFieldDescriptor (TX5 k).2.2.1 = some (tyX5 k) := by decide +kernel
abbrev cX5_init : ByteArray := prog_7_method_1_code
def yX5_init : MethodName := ⟨RX5, "<init>", "()V"⟩
abbrev cX5_become : ByteArray := prog_7_method_2_code
def yX5_become : MethodName := ⟨RX5, "become", "(LNumberFerries$Stand;)V"⟩
def RX6 : String := "NumberFerries$Survey"
def TX6 : u_T := fun k => match k with
  | 0 => ("NumberFerries$Survey", "river", "LNumberFerries$River;", true)
  | 1 => ("NumberFerries$Survey", "howMany", "I", false)
  | 2 => ("NumberFerries$Survey", "howManySure", "I", false)
  | 3 => ("NumberFerries$Survey", "least", "I", false)
  | 4 => ("NumberFerries$Survey", "mostWished", "I", false)
  | 5 => ("NumberFerries$Survey", "mostWishes", "I", false)
  | 6 => ("NumberFerries$Survey", "inAny", "I", false)
  | _ => ("NumberFerries$Survey", "inAll", "I", false)
def tyX6 : Nat → FieldType := fun k => match k with
  | 0 => .object "NumberFerries$River"
  | 1 => .int
  | 2 => .int
  | 3 => .int
  | 4 => .int
  | 5 => .int
  | 6 => .int
  | _ => .int
abbrev wsX60 : List Cond := u_ws RX6 TX6 8
theorem nmX6 : ∀ a, a < 8 → ∀ b, b < 8 → a ≠ b → (TX6 a).2.1 ≠ (TX6 b).2.1 := by decide +kernel
theorem tyX6_ok : ∀ k, k < 8 → parseFieldDescriptor (TX6 k).2.2.1 = some (tyX6 k) := by decide +kernel
abbrev cX6_init : ByteArray := prog_8_method_1_code
def yX6_init : MethodName := ⟨RX6, "<init>", "(LNumberFerries$River;)V"⟩
abbrev cX6_make : ByteArray := prog_8_method_2_code
def yX6_make : MethodName := ⟨RX6, "make", "(III)V"⟩
abbrev cX6_take : ByteArray := prog_8_method_3_code
def yX6_take : MethodName := ⟨RX6, "take", "(IIZ)V"⟩
def RX7 : String := "NumberFerries$Text"
def TX7 : u_T := fun k => match k with
  | 0 => ("NumberFerries$Text", "bytes", "[I", true)
  | _ => ("NumberFerries$Text", "length", "I", false)
def tyX7 : Nat → FieldType := fun k => match k with
  | 0 => .array .int
  | _ => .int
abbrev wsX70 : List Cond := u_ws RX7 TX7 2
theorem nmX7 : ∀ a, a < 2 → ∀ b, b < 2 → a ≠ b → (TX7 a).2.1 ≠ (TX7 b).2.1 := by decide +kernel
theorem tyX7_ok : ∀ k, k < 2 → parseFieldDescriptor (TX7 k).2.2.1 = some (tyX7 k) := by decide +kernel
abbrev cX7_init : ByteArray := prog_9_method_1_code
def yX7_init : MethodName := ⟨RX7, "<init>", "()V"⟩
abbrev cX7_add : ByteArray := prog_9_method_2_code
def yX7_add : MethodName := ⟨RX7, "add", "(I)V"⟩
abbrev cX7_empty : ByteArray := prog_9_method_3_code
def yX7_empty : MethodName := ⟨RX7, "empty", "()I"⟩
abbrev cX7_byteAt : ByteArray := prog_9_method_4_code
def yX7_byteAt : MethodName := ⟨RX7, "byteAt", "(I)I"⟩
def RX8 : String := "NumberFerries$Thing"
def TX8 : u_T := fun k => match k with
  | 0 => ("NumberFerries$Thing", "kind", "I", false)
  | 1 => ("NumberFerries$Thing", "weight", "I", false)
  | 2 => ("NumberFerries$Thing", "bank", "I", false)
  | 3 => ("NumberFerries$Thing", "hat", "I", false)
  | 4 => ("NumberFerries$Thing", "wish", "I", false)
  | _ => ("NumberFerries$Thing", "unsure", "Z", false)
def tyX8 : Nat → FieldType := fun k => match k with
  | 0 => .int
  | 1 => .int
  | 2 => .int
  | 3 => .int
  | 4 => .int
  | _ => .boolean
abbrev wsX80 : List Cond := u_ws RX8 TX8 6
theorem nmX8 : ∀ a, a < 6 → ∀ b, b < 6 → a ≠ b → (TX8 a).2.1 ≠ (TX8 b).2.1 := by decide +kernel
theorem tyX8_ok : ∀ k, k < 6 → parseFieldDescriptor (TX8 k).2.2.1 = some (tyX8 k) := by decide +kernel
abbrev cX8_init : ByteArray := prog_10_method_1_code
def yX8_init : MethodName := ⟨RX8, "<init>", "()V"⟩
abbrev cX8_tell : ByteArray := prog_10_method_2_code
def yX8_tell : MethodName := ⟨RX8, "tell", "(III)V"⟩
abbrev cX8_hasHat : ByteArray := prog_10_method_3_code
def yX8_hasHat : MethodName := ⟨RX8, "hasHat", "()Z"⟩
abbrev cX8_isHatted : ByteArray := prog_10_method_4_code
def yX8_isHatted : MethodName := ⟨RX8, "isHatted", "(I)Z"⟩
abbrev cX8_isUnder : ByteArray := prog_10_method_5_code
def yX8_isUnder : MethodName := ⟨RX8, "isUnder", "(I)Z"⟩
def RX9 : String := "NumberFerries$Word"
def TX9 : u_T := fun k => match k with
  | _ => ("", "", "", false)
def tyX9 : Nat → FieldType := fun k => match k with
  | _ => .int
abbrev wsX90 : List Cond := u_ws RX9 TX9 0
theorem nmX9 : ∀ a, a < 0 → ∀ b, b < 0 → a ≠ b → (TX9 a).2.1 ≠ (TX9 b).2.1 := by decide +kernel
theorem tyX9_ok : ∀ k, k < 0 → parseFieldDescriptor (TX9 k).2.2.1 = some (tyX9 k) := by decide +kernel
def RX10 : String := "NumberFerries"
def TX10 : u_T := fun k => match k with
  | 0 => ("NumberFerries", "text", "LNumberFerries$Text;", true)
  | 1 => ("NumberFerries", "river", "LNumberFerries$River;", true)
  | 2 => ("NumberFerries", "reader", "LNumberFerries$Reader;", true)
  | 3 => ("NumberFerries", "survey", "LNumberFerries$Survey;", true)
  | 4 => ("NumberFerries", "search", "LNumberFerries$Search;", true)
  | 5 => ("NumberFerries", "kept", "[LNumberFerries$Stand;", true)
  | 6 => ("NumberFerries", "told", "[I", true)
  | _ => ("NumberFerries", "toldCount", "I", false)
def tyX10 : Nat → FieldType := fun k => match k with
  | 0 => .object "NumberFerries$Text"
  | 1 => .object "NumberFerries$River"
  | 2 => .object "NumberFerries$Reader"
  | 3 => .object "NumberFerries$Survey"
  | 4 => .object "NumberFerries$Search"
  | 5 => .array (.object "NumberFerries$Stand")
  | 6 => .array .int
  | _ => .int
abbrev wsX100 : List Cond := u_ws RX10 TX10 8
theorem nmX10 : ∀ a, a < 8 → ∀ b, b < 8 → a ≠ b → (TX10 a).2.1 ≠ (TX10 b).2.1 := by decide +kernel
theorem tyX10_ok : ∀ k, k < 8 → parseFieldDescriptor (TX10 k).2.2.1 = some (tyX10 k) := by decide +kernel
abbrev cX10_init : ByteArray := prog_1_method_1_code
def yX10_init : MethodName := ⟨RX10, "<init>", "()V"⟩
abbrev cX10_write : ByteArray := prog_1_method_2_code
def yX10_write : MethodName := ⟨RX10, "write", "(JI)I"⟩
abbrev cX10_erase : ByteArray := prog_1_method_3_code
def yX10_erase : MethodName := ⟨RX10, "erase", "()I"⟩
abbrev cX10_fault : ByteArray := prog_1_method_4_code
def yX10_fault : MethodName := ⟨RX10, "fault", "()I"⟩
abbrev cX10_shore : ByteArray := prog_1_method_5_code
def yX10_shore : MethodName := ⟨RX10, "shore", "()I"⟩
abbrev cX10_thing : ByteArray := prog_1_method_6_code
def yX10_thing : MethodName := ⟨RX10, "thing", "(II)I"⟩
abbrev cX10_ferry : ByteArray := prog_1_method_7_code
def yX10_ferry : MethodName := ⟨RX10, "ferry", "(II)I"⟩
abbrev cX10_as : ByteArray := prog_1_method_8_code
def yX10_as : MethodName := ⟨RX10, "as", "(II)I"⟩
abbrev cX10_right : ByteArray := prog_1_method_9_code
def yX10_right : MethodName := ⟨RX10, "right", "(II)I"⟩
abbrev cX10_cross : ByteArray := prog_1_method_10_code
def yX10_cross : MethodName := ⟨RX10, "cross", "(II)I"⟩
abbrev cX10_doff : ByteArray := prog_1_method_11_code
def yX10_doff : MethodName := ⟨RX10, "doff", "(I)I"⟩
abbrev cX10_noon : ByteArray := prog_1_method_12_code
def yX10_noon : MethodName := ⟨RX10, "noon", "()I"⟩
abbrev cX10_keep : ByteArray := prog_1_method_13_code
def yX10_keep : MethodName := ⟨RX10, "keep", "(I)I"⟩
abbrev cX10_back : ByteArray := prog_1_method_14_code
def yX10_back : MethodName := ⟨RX10, "back", "(I)I"⟩
abbrev cX10_loads : ByteArray := prog_1_method_15_code
def yX10_loads : MethodName := ⟨RX10, "loads", "(II)I"⟩
abbrev cX10_weighed : ByteArray := prog_1_method_16_code
def yX10_weighed : MethodName := ⟨RX10, "weighed", "(II)I"⟩
abbrev cX10_hats : ByteArray := prog_1_method_17_code
def yX10_hats : MethodName := ⟨RX10, "hats", "(III)I"⟩
abbrev cX10_stones : ByteArray := prog_1_method_18_code
def yX10_stones : MethodName := ⟨RX10, "stones", "(III)I"⟩
abbrev cX10_sure : ByteArray := prog_1_method_19_code
def yX10_sure : MethodName := ⟨RX10, "sure", "(I)I"⟩
abbrev cX10_aboard : ByteArray := prog_1_method_20_code
def yX10_aboard : MethodName := ⟨RX10, "aboard", "(IIII)I"⟩
abbrev cX10_fewest : ByteArray := prog_1_method_21_code
def yX10_fewest : MethodName := ⟨RX10, "fewest", "(III)I"⟩
abbrev cX10_soonest : ByteArray := prog_1_method_22_code
def yX10_soonest : MethodName := ⟨RX10, "soonest", "(II)I"⟩
abbrev cX10_row : ByteArray := prog_1_method_23_code
def yX10_row : MethodName := ⟨RX10, "row", "(II)I"⟩
abbrev cX10_burn : ByteArray := prog_1_method_24_code
def yX10_burn : MethodName := ⟨RX10, "burn", "()I"⟩
abbrev cX10_judge : ByteArray := prog_1_method_25_code
def yX10_judge : MethodName := ⟨RX10, "judge", "()I"⟩
abbrev cX10_count : ByteArray := prog_1_method_26_code
def yX10_count : MethodName := ⟨RX10, "count", "(I)I"⟩
abbrev cX10_isBank : ByteArray := prog_1_method_27_code
def yX10_isBank : MethodName := ⟨RX10, "isBank", "(I)Z"⟩
abbrev cX10_bankOf : ByteArray := prog_1_method_28_code
def yX10_bankOf : MethodName := ⟨RX10, "bankOf", "(II)I"⟩
abbrev cX10_allOn : ByteArray := prog_1_method_29_code
def yX10_allOn : MethodName := ⟨RX10, "allOn", "(III)Z"⟩
abbrev cX10_crossingOf : ByteArray := prog_1_method_30_code
def yX10_crossingOf : MethodName := ⟨RX10, "crossingOf", "(II)I"⟩
abbrev cX10_ferryOf : ByteArray := prog_1_method_31_code
def yX10_ferryOf : MethodName := ⟨RX10, "ferryOf", "(I)I"⟩
abbrev cX10_loadOf : ByteArray := prog_1_method_32_code
def yX10_loadOf : MethodName := ⟨RX10, "loadOf", "(I)I"⟩
abbrev cX10_banksBehind : ByteArray := prog_1_method_33_code
def yX10_banksBehind : MethodName := ⟨RX10, "banksBehind", "(II)I"⟩
def RX11 : String := "NumberFerriesModel"
def TX11 : u_T := fun k => match k with
  | 0 => ("NumberFerriesModel", "things", "I", false)
  | 1 => ("NumberFerriesModel", "thing", "[I", true)
  | 2 => ("NumberFerriesModel", "ferries", "I", false)
  | 3 => ("NumberFerriesModel", "ferry", "[I", true)
  | 4 => ("NumberFerriesModel", "bytes", "I", false)
  | 5 => ("NumberFerriesModel", "text", "[I", true)
  | 6 => ("NumberFerriesModel", "position", "I", false)
  | 7 => ("NumberFerriesModel", "tokenAt", "I", false)
  | 8 => ("NumberFerriesModel", "token", "J", false)
  | 9 => ("NumberFerriesModel", "digits", "I", false)
  | 10 => ("NumberFerriesModel", "number", "I", false)
  | 11 => ("NumberFerriesModel", "faultAt", "I", false)
  | 12 => ("NumberFerriesModel", "readMany", "I", false)
  | 13 => ("NumberFerriesModel", "readThings", "I", false)
  | 14 => ("NumberFerriesModel", "readFerries", "I", false)
  | 15 => ("NumberFerriesModel", "readKind", "[I", true)
  | 16 => ("NumberFerriesModel", "read", "[I", true)
  | 17 => ("NumberFerriesModel", "over", "I", false)
  | 18 => ("NumberFerriesModel", "moored", "I", false)
  | 19 => ("NumberFerriesModel", "off", "I", false)
  | 20 => ("NumberFerriesModel", "late", "I", false)
  | 21 => ("NumberFerriesModel", "crossed", "I", false)
  | 22 => ("NumberFerriesModel", "image", "[I", true)
  | 23 => ("NumberFerriesModel", "isKept", "[Z", true)
  | 24 => ("NumberFerriesModel", "rows", "I", false)
  | 25 => ("NumberFerriesModel", "row", "[I", true)
  | 26 => ("NumberFerriesModel", "many", "[I", true)
  | 27 => ("NumberFerriesModel", "ahead", "[I", true)
  | 28 => ("NumberFerriesModel", "by", "[I", true)
  | 29 => ("NumberFerriesModel", "line", "[I", true)
  | _ => ("NumberFerriesModel", "found", "I", false)
def tyX11 : Nat → FieldType := fun k => match k with
  | 0 => .int
  | 1 => .array .int
  | 2 => .int
  | 3 => .array .int
  | 4 => .int
  | 5 => .array .int
  | 6 => .int
  | 7 => .int
  | 8 => .long
  | 9 => .int
  | 10 => .int
  | 11 => .int
  | 12 => .int
  | 13 => .int
  | 14 => .int
  | 15 => .array .int
  | 16 => .array .int
  | 17 => .int
  | 18 => .int
  | 19 => .int
  | 20 => .int
  | 21 => .int
  | 22 => .array .int
  | 23 => .array .boolean
  | 24 => .int
  | 25 => .array .int
  | 26 => .array .int
  | 27 => .array .int
  | 28 => .array .int
  | 29 => .array .int
  | _ => .int
abbrev wsX110 : List Cond := u_ws RX11 TX11 31
theorem nmX11 : ∀ a, a < 31 → ∀ b, b < 31 → a ≠ b → (TX11 a).2.1 ≠ (TX11 b).2.1 := by decide +kernel
theorem tyX11_ok : ∀ k, k < 31 → parseFieldDescriptor (TX11 k).2.2.1 = some (tyX11 k) := by decide +kernel
abbrev cX11_init : ByteArray := prog_13_method_1_code
def yX11_init : MethodName := ⟨RX11, "<init>", "()V"⟩
abbrev cX11_in : ByteArray := prog_13_method_2_code
def yX11_in : MethodName := ⟨RX11, "in", "(III)Z"⟩
abbrev cX11_has : ByteArray := prog_13_method_3_code
def yX11_has : MethodName := ⟨RX11, "has", "(II)Z"⟩
abbrev cX11_isThing : ByteArray := prog_13_method_4_code
def yX11_isThing : MethodName := ⟨RX11, "isThing", "(I)Z"⟩
abbrev cX11_isFerry : ByteArray := prog_13_method_5_code
def yX11_isFerry : MethodName := ⟨RX11, "isFerry", "(I)Z"⟩
abbrev cX11_isSet : ByteArray := prog_13_method_6_code
def yX11_isSet : MethodName := ⟨RX11, "isSet", "(I)Z"⟩
abbrev cX11_isBank : ByteArray := prog_13_method_7_code
def yX11_isBank : MethodName := ⟨RX11, "isBank", "(I)Z"⟩
abbrev cX11_write : ByteArray := prog_13_method_8_code
def yX11_write : MethodName := ⟨RX11, "write", "(JI)I"⟩
abbrev cX11_erase : ByteArray := prog_13_method_9_code
def yX11_erase : MethodName := ⟨RX11, "erase", "()I"⟩
abbrev cX11_nextToken : ByteArray := prog_13_method_10_code
def yX11_nextToken : MethodName := ⟨RX11, "nextToken", "()V"⟩
abbrev cX11_fails : ByteArray := prog_13_method_11_code
def yX11_fails : MethodName := ⟨RX11, "fails", "()Z"⟩
abbrev cX11_isNumber : ByteArray := prog_13_method_12_code
def yX11_isNumber : MethodName := ⟨RX11, "isNumber", "(III)Z"⟩
abbrev cX11_isThingLine : ByteArray := prog_13_method_13_code
def yX11_isThingLine : MethodName := ⟨RX11, "isThingLine", "(I)Z"⟩
abbrev cX11_isFerryLine : ByteArray := prog_13_method_14_code
def yX11_isFerryLine : MethodName := ⟨RX11, "isFerryLine", "(I)Z"⟩
abbrev cX11_isHat : ByteArray := prog_13_method_15_code
def yX11_isHat : MethodName := ⟨RX11, "isHat", "(I)Z"⟩
abbrev cX11_isLine : ByteArray := prog_13_method_16_code
def yX11_isLine : MethodName := ⟨RX11, "isLine", "(I)Z"⟩
abbrev cX11_isRead : ByteArray := prog_13_method_17_code
def yX11_isRead : MethodName := ⟨RX11, "isRead", "()Z"⟩
abbrev cX11_fault : ByteArray := prog_13_method_18_code
def yX11_fault : MethodName := ⟨RX11, "fault", "()I"⟩
abbrev cX11_doLine : ByteArray := prog_13_method_19_code
def yX11_doLine : MethodName := ⟨RX11, "doLine", "(I)V"⟩
abbrev cX11_shore : ByteArray := prog_13_method_20_code
def yX11_shore : MethodName := ⟨RX11, "shore", "()I"⟩
abbrev cX11_poundsOf : ByteArray := prog_13_method_21_code
def yX11_poundsOf : MethodName := ⟨RX11, "poundsOf", "(II)I"⟩
abbrev cX11_thing : ByteArray := prog_13_method_22_code
def yX11_thing : MethodName := ⟨RX11, "thing", "(II)I"⟩
abbrev cX11_numberOf : ByteArray := prog_13_method_23_code
def yX11_numberOf : MethodName := ⟨RX11, "numberOf", "(I)I"⟩
abbrev cX11_ferry : ByteArray := prog_13_method_24_code
def yX11_ferry : MethodName := ⟨RX11, "ferry", "(II)I"⟩
abbrev cX11_as : ByteArray := prog_13_method_25_code
def yX11_as : MethodName := ⟨RX11, "as", "(II)I"⟩
abbrev cX11_bits : ByteArray := prog_13_method_26_code
def yX11_bits : MethodName := ⟨RX11, "bits", "(I)I"⟩
abbrev cX11_poundsOfAll : ByteArray := prog_13_method_27_code
def yX11_poundsOfAll : MethodName := ⟨RX11, "poundsOfAll", "(II)I"⟩
abbrev cX11_canBoard : ByteArray := prog_13_method_28_code
def yX11_canBoard : MethodName := ⟨RX11, "canBoard", "(IIII)Z"⟩
abbrev cX11_fitsBy : ByteArray := prog_13_method_29_code
def yX11_fitsBy : MethodName := ⟨RX11, "fitsBy", "(III)Z"⟩
abbrev cX11_isRight : ByteArray := prog_13_method_30_code
def yX11_isRight : MethodName := ⟨RX11, "isRight", "(IIIII)Z"⟩
abbrev cX11_right : ByteArray := prog_13_method_31_code
def yX11_right : MethodName := ⟨RX11, "right", "(II)I"⟩
abbrev cX11_cross : ByteArray := prog_13_method_32_code
def yX11_cross : MethodName := ⟨RX11, "cross", "(II)I"⟩
abbrev cX11_doff : ByteArray := prog_13_method_33_code
def yX11_doff : MethodName := ⟨RX11, "doff", "(I)I"⟩
abbrev cX11_noon : ByteArray := prog_13_method_34_code
def yX11_noon : MethodName := ⟨RX11, "noon", "()I"⟩
abbrev cX11_keep : ByteArray := prog_13_method_35_code
def yX11_keep : MethodName := ⟨RX11, "keep", "(I)I"⟩
abbrev cX11_back : ByteArray := prog_13_method_36_code
def yX11_back : MethodName := ⟨RX11, "back", "(I)I"⟩
abbrev cX11_wishes : ByteArray := prog_13_method_37_code
def yX11_wishes : MethodName := ⟨RX11, "wishes", "(I)I"⟩
abbrev cX11_loads : ByteArray := prog_13_method_38_code
def yX11_loads : MethodName := ⟨RX11, "loads", "(II)I"⟩
abbrev cX11_weighed : ByteArray := prog_13_method_39_code
def yX11_weighed : MethodName := ⟨RX11, "weighed", "(II)I"⟩
abbrev cX11_hats : ByteArray := prog_13_method_40_code
def yX11_hats : MethodName := ⟨RX11, "hats", "(III)I"⟩
abbrev cX11_stones : ByteArray := prog_13_method_41_code
def yX11_stones : MethodName := ⟨RX11, "stones", "(III)I"⟩
abbrev cX11_sure : ByteArray := prog_13_method_42_code
def yX11_sure : MethodName := ⟨RX11, "sure", "(I)I"⟩
abbrev cX11_aboard : ByteArray := prog_13_method_43_code
def yX11_aboard : MethodName := ⟨RX11, "aboard", "(IIII)I"⟩
abbrev cX11_isOver : ByteArray := prog_13_method_44_code
def yX11_isOver : MethodName := ⟨RX11, "isOver", "(III)Z"⟩
abbrev cX11_goThrough : ByteArray := prog_13_method_45_code
def yX11_goThrough : MethodName := ⟨RX11, "goThrough", "(II)I"⟩
abbrev cX11_fewest : ByteArray := prog_13_method_46_code
def yX11_fewest : MethodName := ⟨RX11, "fewest", "(III)I"⟩
abbrev cX11_soonest : ByteArray := prog_13_method_47_code
def yX11_soonest : MethodName := ⟨RX11, "soonest", "(II)I"⟩
abbrev cX11_row : ByteArray := prog_13_method_48_code
def yX11_row : MethodName := ⟨RX11, "row", "(II)I"⟩
abbrev cX11_burn : ByteArray := prog_13_method_49_code
def yX11_burn : MethodName := ⟨RX11, "burn", "()I"⟩
abbrev cX11_judge : ByteArray := prog_13_method_50_code
def yX11_judge : MethodName := ⟨RX11, "judge", "()I"⟩
abbrev cX11_count : ByteArray := prog_13_method_51_code
def yX11_count : MethodName := ⟨RX11, "count", "(I)I"⟩
def RJx145de : String := "java/io/Serializable"
def TJx145de : u_T := fun k => match k with
  | _ => ("", "", "", false)
def tyJx145de : Nat → FieldType := fun k => match k with
  | _ => .int
abbrev wsJx145de0 : List Cond := u_ws RJx145de TJx145de 0
theorem nmJx145de : ∀ a, a < 0 → ∀ b, b < 0 → a ≠ b → (TJx145de a).2.1 ≠ (TJx145de b).2.1 := by decide +kernel
theorem tyJx145de_ok : ∀ k, k < 0 → parseFieldDescriptor (TJx145de k).2.2.1 = some (tyJx145de k) := by decide +kernel
def RJx9f9b0 : String := "java/lang/CharSequence"
def TJx9f9b0 : u_T := fun k => match k with
  | _ => ("", "", "", false)
def tyJx9f9b0 : Nat → FieldType := fun k => match k with
  | _ => .int
abbrev wsJx9f9b00 : List Cond := u_ws RJx9f9b0 TJx9f9b0 0
theorem nmJx9f9b0 : ∀ a, a < 0 → ∀ b, b < 0 → a ≠ b → (TJx9f9b0 a).2.1 ≠ (TJx9f9b0 b).2.1 := by decide +kernel
theorem tyJx9f9b0_ok : ∀ k, k < 0 → parseFieldDescriptor (TJx9f9b0 k).2.2.1 = some (tyJx9f9b0 k) := by decide +kernel
def RJ11 : String := "java/lang/Character"
def TJ11 : u_T := fun k => match k with
  | _ => ("", "", "", false)
def tyJ11 : Nat → FieldType := fun k => match k with
  | _ => .int
abbrev wsJ110 : List Cond := u_ws RJ11 TJ11 0
theorem nmJ11 : ∀ a, a < 0 → ∀ b, b < 0 → a ≠ b → (TJ11 a).2.1 ≠ (TJ11 b).2.1 := by decide +kernel
theorem tyJ11_ok : ∀ k, k < 0 → parseFieldDescriptor (TJ11 k).2.2.1 = some (tyJ11 k) := by decide +kernel
abbrev cJ11_isValidCodePoint_9a6ad : ByteArray := prog_14_method_11_code
def yJ11_isValidCodePoint_9a6ad : MethodName := ⟨RJ11, "isValidCodePoint", "(I)Z"⟩
abbrev cJ11_highSurrogate_5068e : ByteArray := prog_14_method_28_code
def yJ11_highSurrogate_5068e : MethodName := ⟨RJ11, "highSurrogate", "(I)C"⟩
abbrev cJ11_lowSurrogate_5068e : ByteArray := prog_14_method_29_code
def yJ11_lowSurrogate_5068e : MethodName := ⟨RJ11, "lowSurrogate", "(I)C"⟩
def RJxb160c : String := "java/lang/Comparable"
def TJxb160c : u_T := fun k => match k with
  | _ => ("", "", "", false)
def tyJxb160c : Nat → FieldType := fun k => match k with
  | _ => .int
abbrev wsJxb160c0 : List Cond := u_ws RJxb160c TJxb160c 0
theorem nmJxb160c : ∀ a, a < 0 → ∀ b, b < 0 → a ≠ b → (TJxb160c a).2.1 ≠ (TJxb160c b).2.1 := by decide +kernel
theorem tyJxb160c_ok : ∀ k, k < 0 → parseFieldDescriptor (TJxb160c k).2.2.1 = some (tyJxb160c k) := by decide +kernel
def RJx29ce0 : String := "java/lang/Enum"
def TJx29ce0 : u_T := fun k => match k with
  | _ => ("", "", "", false)
def tyJx29ce0 : Nat → FieldType := fun k => match k with
  | _ => .int
abbrev wsJx29ce00 : List Cond := u_ws RJx29ce0 TJx29ce0 0
theorem nmJx29ce0 : ∀ a, a < 0 → ∀ b, b < 0 → a ≠ b → (TJx29ce0 a).2.1 ≠ (TJx29ce0 b).2.1 := by decide +kernel
theorem tyJx29ce0_ok : ∀ k, k < 0 → parseFieldDescriptor (TJx29ce0 k).2.2.1 = some (tyJx29ce0 k) := by decide +kernel
def RJ6 : String := "java/lang/Integer"
def TJ6 : u_T := fun k => match k with
  | _ => ("", "", "", false)
def tyJ6 : Nat → FieldType := fun k => match k with
  | _ => .int
abbrev wsJ60 : List Cond := u_ws RJ6 TJ6 0
theorem nmJ6 : ∀ a, a < 0 → ∀ b, b < 0 → a ≠ b → (TJ6 a).2.1 ≠ (TJ6 b).2.1 := by decide +kernel
theorem tyJ6_ok : ∀ k, k < 0 → parseFieldDescriptor (TJ6 k).2.2.1 = some (tyJ6 k) := by decide +kernel
abbrev cJ6_bitCount_0f7a4 : ByteArray := prog_16_method_49_code
def yJ6_bitCount_0f7a4 : MethodName := ⟨RJ6, "bitCount", "(I)I"⟩
def RJ9 : String := "java/lang/Math"
def TJ9 : u_T := fun k => match k with
  | _ => ("", "", "", false)
def tyJ9 : Nat → FieldType := fun k => match k with
  | _ => .int
abbrev wsJ90 : List Cond := u_ws RJ9 TJ9 0
theorem nmJ9 : ∀ a, a < 0 → ∀ b, b < 0 → a ≠ b → (TJ9 a).2.1 ≠ (TJ9 b).2.1 := by decide +kernel
theorem tyJ9_ok : ∀ k, k < 0 → parseFieldDescriptor (TJ9 k).2.2.1 = some (tyJ9 k) := by decide +kernel
abbrev cJ9_abs_0f7a4 : ByteArray := prog_17_method_59_code
def yJ9_abs_0f7a4 : MethodName := ⟨RJ9, "abs", "(I)I"⟩
abbrev cJ9_max_7cf53 : ByteArray := prog_17_method_65_code
def yJ9_max_7cf53 : MethodName := ⟨RJ9, "max", "(II)I"⟩
abbrev cJ9_min_7cf53 : ByteArray := prog_17_method_69_code
def yJ9_min_7cf53 : MethodName := ⟨RJ9, "min", "(II)I"⟩
def RJ0 : String := "java/lang/String"
def TJ0 : u_T := fun k => match k with
  | _ => ("", "", "", false)
def tyJ0 : Nat → FieldType := fun k => match k with
  | _ => .int
abbrev wsJ00 : List Cond := u_ws RJ0 TJ0 0
theorem nmJ0 : ∀ a, a < 0 → ∀ b, b < 0 → a ≠ b → (TJ0 a).2.1 ≠ (TJ0 b).2.1 := by decide +kernel
theorem tyJ0_ok : ∀ k, k < 0 → parseFieldDescriptor (TJ0 k).2.2.1 = some (tyJ0 k) := by decide +kernel
abbrev cJ0_length_8abf5 : ByteArray := prog_18_method_54_code
def yJ0_length_8abf5 : MethodName := ⟨RJ0, "length", "()I"⟩
abbrev cJ0_charAt_5068e : ByteArray := prog_18_method_56_code
def yJ0_charAt_5068e : MethodName := ⟨RJ0, "charAt", "(I)C"⟩
abbrev cJ0_indexOf_0f7a4 : ByteArray := prog_18_method_79_code
def yJ0_indexOf_0f7a4 : MethodName := ⟨RJ0, "indexOf", "(I)I"⟩
abbrev cJ0_indexOf_7cf53 : ByteArray := prog_18_method_80_code
def yJ0_indexOf_7cf53 : MethodName := ⟨RJ0, "indexOf", "(II)I"⟩
abbrev cJ0_coder_7d493 : ByteArray := prog_18_method_152_code
def yJ0_coder_7d493 : MethodName := ⟨RJ0, "coder", "()B"⟩
abbrev cJ0_isLatin1_aae02 : ByteArray := prog_18_method_154_code
def yJ0_isLatin1_aae02 : MethodName := ⟨RJ0, "isLatin1", "()Z"⟩
abbrev cJ0_checkIndex_df160 : ByteArray := prog_18_method_155_code
def yJ0_checkIndex_df160 : MethodName := ⟨RJ0, "checkIndex", "(II)V"⟩
abbrev cJ0_checkBoundsBeginEnd_23922 : ByteArray := prog_18_method_158_code
def yJ0_checkBoundsBeginEnd_23922 : MethodName := ⟨RJ0, "checkBoundsBeginEnd", "(III)V"⟩
def RJ1 : String := "java/lang/StringLatin1"
def TJ1 : u_T := fun k => match k with
  | _ => ("", "", "", false)
def tyJ1 : Nat → FieldType := fun k => match k with
  | _ => .int
abbrev wsJ10 : List Cond := u_ws RJ1 TJ1 0
theorem nmJ1 : ∀ a, a < 0 → ∀ b, b < 0 → a ≠ b → (TJ1 a).2.1 ≠ (TJ1 b).2.1 := by decide +kernel
theorem tyJ1_ok : ∀ k, k < 0 → parseFieldDescriptor (TJ1 k).2.2.1 = some (tyJ1 k) := by decide +kernel
abbrev cJ1_charAt_3b067 : ByteArray := prog_19_method_2_code
def yJ1_charAt_3b067 : MethodName := ⟨RJ1, "charAt", "([BI)C"⟩
abbrev cJ1_canEncode_9a6ad : ByteArray := prog_19_method_4_code
def yJ1_canEncode_9a6ad : MethodName := ⟨RJ1, "canEncode", "(I)Z"⟩
abbrev cJ1_indexOf_4cfef : ByteArray := prog_19_method_22_code
def yJ1_indexOf_4cfef : MethodName := ⟨RJ1, "indexOf", "([BIII)I"⟩
abbrev cJ1_indexOfChar_4cfef : ByteArray := prog_19_method_23_code
def yJ1_indexOfChar_4cfef : MethodName := ⟨RJ1, "indexOfChar", "([BIII)I"⟩
def RJ2 : String := "java/lang/StringUTF16"
def TJ2 : u_T := fun k => match k with
  | _ => ("", "", "", false)
def tyJ2 : Nat → FieldType := fun k => match k with
  | _ => .int
abbrev wsJ20 : List Cond := u_ws RJ2 TJ2 0
theorem nmJ2 : ∀ a, a < 0 → ∀ b, b < 0 → a ≠ b → (TJ2 a).2.1 ≠ (TJ2 b).2.1 := by decide +kernel
theorem tyJ2_ok : ∀ k, k < 0 → parseFieldDescriptor (TJ2 k).2.2.1 = some (tyJ2 k) := by decide +kernel
abbrev cJ2_getChar_3b067 : ByteArray := prog_20_method_5_code
def yJ2_getChar_3b067 : MethodName := ⟨RJ2, "getChar", "([BI)C"⟩
abbrev cJ2_length_9d52b : ByteArray := prog_20_method_6_code
def yJ2_length_9d52b : MethodName := ⟨RJ2, "length", "([B)I"⟩
abbrev cJ2_indexOf_4cfef : ByteArray := prog_20_method_40_code
def yJ2_indexOf_4cfef : MethodName := ⟨RJ2, "indexOf", "([BIII)I"⟩
abbrev cJ2_indexOfChar_4cfef : ByteArray := prog_20_method_47_code
def yJ2_indexOfChar_4cfef : MethodName := ⟨RJ2, "indexOfChar", "([BIII)I"⟩
abbrev cJ2_indexOfCharUnsafe_4cfef : ByteArray := prog_20_method_48_code
def yJ2_indexOfCharUnsafe_4cfef : MethodName := ⟨RJ2, "indexOfCharUnsafe", "([BIII)I"⟩
abbrev cJ2_indexOfSupplementary_4cfef : ByteArray := prog_20_method_49_code
def yJ2_indexOfSupplementary_4cfef : MethodName := ⟨RJ2, "indexOfSupplementary", "([BIII)I"⟩
abbrev cJ2_charAt_3b067 : ByteArray := prog_20_method_83_code
def yJ2_charAt_3b067 : MethodName := ⟨RJ2, "charAt", "([BI)C"⟩
abbrev cJ2_checkIndex_2214a : ByteArray := prog_20_method_91_code
def yJ2_checkIndex_2214a : MethodName := ⟨RJ2, "checkIndex", "(I[B)V"⟩
abbrev cJ2_checkBoundsBeginEnd_d044e : ByteArray := prog_20_method_93_code
def yJ2_checkBoundsBeginEnd_d044e : MethodName := ⟨RJ2, "checkBoundsBeginEnd", "(II[B)V"⟩
def RJxfd54e : String := "java/lang/constant/Constable"
def TJxfd54e : u_T := fun k => match k with
  | _ => ("", "", "", false)
def tyJxfd54e : Nat → FieldType := fun k => match k with
  | _ => .int
abbrev wsJxfd54e0 : List Cond := u_ws RJxfd54e TJxfd54e 0
theorem nmJxfd54e : ∀ a, a < 0 → ∀ b, b < 0 → a ≠ b → (TJxfd54e a).2.1 ≠ (TJxfd54e b).2.1 := by decide +kernel
theorem tyJxfd54e_ok : ∀ k, k < 0 → parseFieldDescriptor (TJxfd54e k).2.2.1 = some (tyJxfd54e k) := by decide +kernel
def RJx3cf43 : String := "java/lang/constant/ConstantDesc"
def TJx3cf43 : u_T := fun k => match k with
  | _ => ("", "", "", false)
def tyJx3cf43 : Nat → FieldType := fun k => match k with
  | _ => .int
abbrev wsJx3cf430 : List Cond := u_ws RJx3cf43 TJx3cf43 0
theorem nmJx3cf43 : ∀ a, a < 0 → ∀ b, b < 0 → a ≠ b → (TJx3cf43 a).2.1 ≠ (TJx3cf43 b).2.1 := by decide +kernel
theorem tyJx3cf43_ok : ∀ k, k < 0 → parseFieldDescriptor (TJx3cf43 k).2.2.1 = some (tyJx3cf43 k) := by decide +kernel
def RJ7 : String := "java/util/Arrays"
def TJ7 : u_T := fun k => match k with
  | _ => ("", "", "", false)
def tyJ7 : Nat → FieldType := fun k => match k with
  | _ => .int
abbrev wsJ70 : List Cond := u_ws RJ7 TJ7 0
theorem nmJ7 : ∀ a, a < 0 → ∀ b, b < 0 → a ≠ b → (TJ7 a).2.1 ≠ (TJ7 b).2.1 := by decide +kernel
theorem tyJ7_ok : ∀ k, k < 0 → parseFieldDescriptor (TJ7 k).2.2.1 = some (tyJ7 k) := by decide +kernel
abbrev cJ7_fill_53178 : ByteArray := prog_21_method_103_code
def yJ7_fill_53178 : MethodName := ⟨RJ7, "fill", "([II)V"⟩
def RJ3 : String := "jdk/internal/util/Preconditions"
def TJ3 : u_T := fun k => match k with
  | _ => ("", "", "", false)
def tyJ3 : Nat → FieldType := fun k => match k with
  | _ => .int
abbrev wsJ30 : List Cond := u_ws RJ3 TJ3 0
theorem nmJ3 : ∀ a, a < 0 → ∀ b, b < 0 → a ≠ b → (TJ3 a).2.1 ≠ (TJ3 b).2.1 := by decide +kernel
theorem tyJ3_ok : ∀ k, k < 0 → parseFieldDescriptor (TJ3 k).2.2.1 = some (tyJ3 k) := by decide +kernel
abbrev cJ3_checkIndex_8e157 : ByteArray := prog_22_method_11_code
def yJ3_checkIndex_8e157 : MethodName := ⟨RJ3, "checkIndex", "(IILjava/util/function/BiFunction;)I"⟩
abbrev cJ3_checkFromToIndex_8c36e : ByteArray := prog_22_method_12_code
def yJ3_checkFromToIndex_8c36e : MethodName := ⟨RJ3, "checkFromToIndex", "(IIILjava/util/function/BiFunction;)I"⟩
def RL : String := "NumberFerriesLaw"
abbrev cL_law : ByteArray := code
def yL_law : MethodName := ⟨RL, "law", "([I)Z"⟩
abbrev vwCl : List vw_C := [(RX0, TX0, 5), (RX1, TX1, 2), (RX2, TX2, 11), (RX3, TX3, 9), (RX4, TX4, 8), (RX5, TX5, 5), (RX6, TX6, 8), (RX7, TX7, 2), (RX8, TX8, 6), (RX10, TX10, 8), (RX11, TX11, 31)]
