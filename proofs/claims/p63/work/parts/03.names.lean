def RX0 : String := "MoonFerryOffice$Clerk"
def TX0 : u_T := fun k => match k with
  | 0 => ("MoonFerryOffice$Clerk", "reason", "I", false)
  | 1 => ("MoonFerryOffice$Clerk", "state", "LMoonFerryOffice$State;", true)
  | 2 => ("MoonFerryOffice$Clerk", "loads", "LMoonFerryOffice$Loads;", true)
  | 3 => ("MoonFerryOffice$Clerk", "waters", "LMoonFerryOffice$Waters;", true)
  | 4 => ("MoonFerryOffice$Clerk", "fleet", "LMoonFerryOffice$Fleet;", true)
  | _ => ("MoonFerryOffice$Clerk", "moons", "LMoonFerryOffice$Moons;", true)
def tyX0 : Nat → FieldType := fun k => match k with
  | 0 => .int
  | 1 => .object "MoonFerryOffice$State"
  | 2 => .object "MoonFerryOffice$Loads"
  | 3 => .object "MoonFerryOffice$Waters"
  | 4 => .object "MoonFerryOffice$Fleet"
  | _ => .object "MoonFerryOffice$Moons"
abbrev wsX00 : List Cond := u_ws RX0 TX0 6
theorem nmX0 : ∀ a, a < 6 → ∀ b, b < 6 → a ≠ b → (TX0 a).2.1 ≠ (TX0 b).2.1 := by decide +kernel
theorem tyX0_ok : ∀ k, k < 6 → parseFieldDescriptor (TX0 k).2.2.1 = some (tyX0 k) := by decide +kernel
abbrev cX0_init : ByteArray := prog_2_method_1_code
def yX0_init : MethodName := ⟨RX0, "<init>", "()V"⟩
abbrev cX0_openCrater : ByteArray := prog_2_method_2_code
def yX0_openCrater : MethodName := ⟨RX0, "openCrater", "(I)I"⟩
abbrev cX0_openChannel : ByteArray := prog_2_method_3_code
def yX0_openChannel : MethodName := ⟨RX0, "openChannel", "(IIII)I"⟩
abbrev cX0_closeChannel : ByteArray := prog_2_method_4_code
def yX0_closeChannel : MethodName := ⟨RX0, "closeChannel", "(I)I"⟩
abbrev cX0_enlistFerry : ByteArray := prog_2_method_5_code
def yX0_enlistFerry : MethodName := ⟨RX0, "enlistFerry", "(III)I"⟩
abbrev cX0_beginPassage : ByteArray := prog_2_method_6_code
def yX0_beginPassage : MethodName := ⟨RX0, "beginPassage", "(II)I"⟩
abbrev cX0_enlistMoon : ByteArray := prog_2_method_7_code
def yX0_enlistMoon : MethodName := ⟨RX0, "enlistMoon", "(IIII)I"⟩
abbrev cX0_takeAboard : ByteArray := prog_2_method_8_code
def yX0_takeAboard : MethodName := ⟨RX0, "takeAboard", "(II)I"⟩
abbrev cX0_putAshore : ByteArray := prog_2_method_9_code
def yX0_putAshore : MethodName := ⟨RX0, "putAshore", "(I)I"⟩
abbrev cX0_takeBestLoad : ByteArray := prog_2_method_10_code
def yX0_takeBestLoad : MethodName := ⟨RX0, "takeBestLoad", "(I)I"⟩
abbrev cX0_pullFree : ByteArray := prog_2_method_11_code
def yX0_pullFree : MethodName := ⟨RX0, "pullFree", "(I)I"⟩
abbrev cX0_letPass : ByteArray := prog_2_method_12_code
def yX0_letPass : MethodName := ⟨RX0, "letPass", "(I)I"⟩
abbrev cX0_letOneHourPass : ByteArray := prog_2_method_13_code
def yX0_letOneHourPass : MethodName := ⟨RX0, "letOneHourPass", "()I"⟩
abbrev cX0_refuse : ByteArray := prog_2_method_14_code
def yX0_refuse : MethodName := ⟨RX0, "refuse", "(I)I"⟩
def RX1 : String := "MoonFerryOffice$CommandText"
def TX1 : u_T := fun k => match k with
  | 0 => ("MoonFerryOffice$CommandText", "length", "I", false)
  | 1 => ("MoonFerryOffice$CommandText", "commandTotal", "I", false)
  | 2 => ("MoonFerryOffice$CommandText", "kinds", "[I", true)
  | 3 => ("MoonFerryOffice$CommandText", "signs", "[C", true)
  | _ => ("MoonFerryOffice$CommandText", "numbers", "[I", true)
def tyX1 : Nat → FieldType := fun k => match k with
  | 0 => .int
  | 1 => .int
  | 2 => .array .int
  | 3 => .array .char
  | _ => .array .int
abbrev wsX10 : List Cond := u_ws RX1 TX1 5
theorem nmX1 : ∀ a, a < 5 → ∀ b, b < 5 → a ≠ b → (TX1 a).2.1 ≠ (TX1 b).2.1 := by decide +kernel
theorem tyX1_ok : ∀ k, k < 5 → parseFieldDescriptor (TX1 k).2.2.1 = some (tyX1 k) := by decide +kernel
abbrev cX1_init : ByteArray := prog_3_method_1_code
def yX1_init : MethodName := ⟨RX1, "<init>", "()V"⟩
abbrev cX1_addSign : ByteArray := prog_3_method_2_code
def yX1_addSign : MethodName := ⟨RX1, "addSign", "(C)V"⟩
abbrev cX1_numberOf : ByteArray := prog_3_method_3_code
def yX1_numberOf : MethodName := ⟨RX1, "numberOf", "(II)I"⟩
abbrev cX1_parse : ByteArray := prog_3_method_4_code
def yX1_parse : MethodName := ⟨RX1, "parse", "()I"⟩
abbrev cX1_readCommand : ByteArray := prog_3_method_5_code
def yX1_readCommand : MethodName := ⟨RX1, "readCommand", "(I)I"⟩
abbrev cX1_readForm : ByteArray := prog_3_method_6_code
def yX1_readForm : MethodName := ⟨RX1, "readForm", "(Ljava/lang/String;I)I"⟩
abbrev cX1_isSign : ByteArray := prog_3_method_7_code
def yX1_isSign : MethodName := ⟨RX1, "isSign", "(IC)Z"⟩
abbrev cX1_isDigit : ByteArray := prog_3_method_8_code
def yX1_isDigit : MethodName := ⟨RX1, "isDigit", "(I)Z"⟩
abbrev cX1_formOf : ByteArray := prog_3_method_9_code
def yX1_formOf : MethodName := ⟨RX1, "formOf", "(I)Ljava/lang/String;"⟩
def RX2 : String := "MoonFerryOffice$CraterQueue"
def TX2 : u_T := fun k => match k with
  | 0 => ("MoonFerryOffice$CraterQueue", "takenHours", "I", false)
  | 1 => ("MoonFerryOffice$CraterQueue", "total", "I", false)
  | 2 => ("MoonFerryOffice$CraterQueue", "craters", "[I", true)
  | _ => ("MoonFerryOffice$CraterQueue", "hours", "[I", true)
def tyX2 : Nat → FieldType := fun k => match k with
  | 0 => .int
  | 1 => .int
  | 2 => .array .int
  | _ => .array .int
abbrev wsX20 : List Cond := u_ws RX2 TX2 4
theorem nmX2 : ∀ a, a < 4 → ∀ b, b < 4 → a ≠ b → (TX2 a).2.1 ≠ (TX2 b).2.1 := by decide +kernel
theorem tyX2_ok : ∀ k, k < 4 → parseFieldDescriptor (TX2 k).2.2.1 = some (tyX2 k) := by decide +kernel
abbrev cX2_init : ByteArray := prog_4_method_1_code
def yX2_init : MethodName := ⟨RX2, "<init>", "()V"⟩
abbrev cX2_reset : ByteArray := prog_4_method_2_code
def yX2_reset : MethodName := ⟨RX2, "reset", "()V"⟩
abbrev cX2_put : ByteArray := prog_4_method_3_code
def yX2_put : MethodName := ⟨RX2, "put", "(II)V"⟩
abbrev cX2_take : ByteArray := prog_4_method_4_code
def yX2_take : MethodName := ⟨RX2, "take", "()I"⟩
def RX3 : String := "MoonFerryOffice$Fares"
def TX3 : u_T := fun k => match k with
  | 0 => ("MoonFerryOffice$Fares", "ways", "LMoonFerryOffice$Ways;", true)
  | 1 => ("MoonFerryOffice$Fares", "asked", "[I", true)
  | 2 => ("MoonFerryOffice$Fares", "total", "I", false)
  | 3 => ("MoonFerryOffice$Fares", "treeTotal", "I", false)
  | 4 => ("MoonFerryOffice$Fares", "treeFares", "[I", true)
  | 5 => ("MoonFerryOffice$Fares", "sames", "[I", true)
  | 6 => ("MoonFerryOffice$Fares", "lesser", "[I", true)
  | 7 => ("MoonFerryOffice$Fares", "lefts", "[I", true)
  | _ => ("MoonFerryOffice$Fares", "rights", "[I", true)
def tyX3 : Nat → FieldType := fun k => match k with
  | 0 => .object "MoonFerryOffice$Ways"
  | 1 => .array .int
  | 2 => .int
  | 3 => .int
  | 4 => .array .int
  | 5 => .array .int
  | 6 => .array .int
  | 7 => .array .int
  | _ => .array .int
abbrev wsX30 : List Cond := u_ws RX3 TX3 9
theorem nmX3 : ∀ a, a < 9 → ∀ b, b < 9 → a ≠ b → (TX3 a).2.1 ≠ (TX3 b).2.1 := by decide +kernel
theorem tyX3_ok : ∀ k, k < 9 → parseFieldDescriptor (TX3 k).2.2.1 = some (tyX3 k) := by decide +kernel
abbrev cX3_init : ByteArray := prog_5_method_1_code
def yX3_init : MethodName := ⟨RX3, "<init>", "()V"⟩
abbrev cX3_fareAt : ByteArray := prog_5_method_2_code
def yX3_fareAt : MethodName := ⟨RX3, "fareAt", "(LMoonFerryOffice$State;I)I"⟩
abbrev cX3_askAll : ByteArray := prog_5_method_3_code
def yX3_askAll : MethodName := ⟨RX3, "askAll", "(LMoonFerryOffice$State;)V"⟩
abbrev cX3_placeAtRank : ByteArray := prog_5_method_4_code
def yX3_placeAtRank : MethodName := ⟨RX3, "placeAtRank", "(I)I"⟩
abbrev cX3_rankOf : ByteArray := prog_5_method_5_code
def yX3_rankOf : MethodName := ⟨RX3, "rankOf", "(I)I"⟩
abbrev cX3_lessByAsking : ByteArray := prog_5_method_6_code
def yX3_lessByAsking : MethodName := ⟨RX3, "lessByAsking", "(I)I"⟩
abbrev cX3_growTree : ByteArray := prog_5_method_7_code
def yX3_growTree : MethodName := ⟨RX3, "growTree", "()V"⟩
abbrev cX3_plant : ByteArray := prog_5_method_8_code
def yX3_plant : MethodName := ⟨RX3, "plant", "(I)V"⟩
abbrev cX3_hang : ByteArray := prog_5_method_9_code
def yX3_hang : MethodName := ⟨RX3, "hang", "(IIZ)V"⟩
abbrev cX3_lessInTree : ByteArray := prog_5_method_10_code
def yX3_lessInTree : MethodName := ⟨RX3, "lessInTree", "(I)I"⟩
def RX4 : String := "MoonFerryOffice$Fleet"
def TX4 : u_T := fun k => match k with
  | 0 => ("MoonFerryOffice$Fleet", "total", "I", false)
  | 1 => ("MoonFerryOffice$Fleet", "craters", "[I", true)
  | 2 => ("MoonFerryOffice$Fleet", "targets", "[I", true)
  | 3 => ("MoonFerryOffice$Fleet", "arrivalHours", "[I", true)
  | 4 => ("MoonFerryOffice$Fleet", "draughts", "[I", true)
  | 5 => ("MoonFerryOffice$Fleet", "capacities", "[I", true)
  | 6 => ("MoonFerryOffice$Fleet", "passageTotal", "I", false)
  | 7 => ("MoonFerryOffice$Fleet", "strandingTotal", "I", false)
  | 8 => ("MoonFerryOffice$Fleet", "passageFerries", "[I", true)
  | 9 => ("MoonFerryOffice$Fleet", "passageCraters", "[I", true)
  | _ => ("MoonFerryOffice$Fleet", "passageHours", "[I", true)
def tyX4 : Nat → FieldType := fun k => match k with
  | 0 => .int
  | 1 => .array .int
  | 2 => .array .int
  | 3 => .array .int
  | 4 => .array .int
  | 5 => .array .int
  | 6 => .int
  | 7 => .int
  | 8 => .array .int
  | 9 => .array .int
  | _ => .array .int
abbrev wsX40 : List Cond := u_ws RX4 TX4 11
theorem nmX4 : ∀ a, a < 11 → ∀ b, b < 11 → a ≠ b → (TX4 a).2.1 ≠ (TX4 b).2.1 := by decide +kernel
theorem tyX4_ok : ∀ k, k < 11 → parseFieldDescriptor (TX4 k).2.2.1 = some (tyX4 k) := by decide +kernel
abbrev cX4_init : ByteArray := prog_6_method_1_code
def yX4_init : MethodName := ⟨RX4, "<init>", "()V"⟩
abbrev cX4_copyFrom : ByteArray := prog_6_method_2_code
def yX4_copyFrom : MethodName := ⟨RX4, "copyFrom", "(LMoonFerryOffice$Fleet;)V"⟩
abbrev cX4_hasFerry : ByteArray := prog_6_method_3_code
def yX4_hasFerry : MethodName := ⟨RX4, "hasFerry", "(I)Z"⟩
abbrev cX4_underWay : ByteArray := prog_6_method_4_code
def yX4_underWay : MethodName := ⟨RX4, "underWay", "(I)Z"⟩
abbrev cX4_anyBetween : ByteArray := prog_6_method_5_code
def yX4_anyBetween : MethodName := ⟨RX4, "anyBetween", "(II)Z"⟩
abbrev cX4_keepsPassage : ByteArray := prog_6_method_6_code
def yX4_keepsPassage : MethodName := ⟨RX4, "keepsPassage", "(I)Z"⟩
abbrev cX4_slotOf : ByteArray := prog_6_method_7_code
def yX4_slotOf : MethodName := ⟨RX4, "slotOf", "(I)I"⟩
abbrev cX4_endPassage : ByteArray := prog_6_method_8_code
def yX4_endPassage : MethodName := ⟨RX4, "endPassage", "(I)V"⟩
def RX5 : String := "MoonFerryOffice$History"
def TX5 : u_T := fun k => match k with
  | 0 => ("MoonFerryOffice$History", "total", "I", false)
  | _ => ("MoonFerryOffice$History", "past", "[LMoonFerryOffice$State;", true)
def tyX5 : Nat → FieldType := fun k => match k with
  | 0 => .int
  | _ => .array (.object "MoonFerryOffice$State")
abbrev wsX50 : List Cond := u_ws RX5 TX5 2
theorem nmX5 : ∀ a, a < 2 → ∀ b, b < 2 → a ≠ b → (TX5 a).2.1 ≠ (TX5 b).2.1 := by decide +kernel
theorem tyX5_ok : ∀ k, k < 2 → parseFieldDescriptor (TX5 k).2.2.1 = some (tyX5 k) := by decide +kernel
abbrev cX5_init : ByteArray := prog_7_method_1_code
def yX5_init : MethodName := ⟨RX5, "<init>", "()V"⟩
abbrev cX5_remember : ByteArray := prog_7_method_2_code
def yX5_remember : MethodName := ⟨RX5, "remember", "(LMoonFerryOffice$State;)V"⟩
abbrev cX5_forgetOldest : ByteArray := prog_7_method_3_code
def yX5_forgetOldest : MethodName := ⟨RX5, "forgetOldest", "()V"⟩
abbrev cX5_takeBack : ByteArray := prog_7_method_4_code
def yX5_takeBack : MethodName := ⟨RX5, "takeBack", "(LMoonFerryOffice$State;)V"⟩
def RX6 : String := "MoonFerryOffice$Loads"
def TX6 : u_T := fun k => match k with
  | 0 => ("MoonFerryOffice$Loads", "total", "I", false)
  | 1 => ("MoonFerryOffice$Loads", "bestSet", "I", false)
  | 2 => ("MoonFerryOffice$Loads", "places", "[I", true)
  | 3 => ("MoonFerryOffice$Loads", "fares", "LMoonFerryOffice$Fares;", true)
  | 4 => ("MoonFerryOffice$Loads", "room", "I", false)
  | 5 => ("MoonFerryOffice$Loads", "bestSum", "I", false)
  | 6 => ("MoonFerryOffice$Loads", "weights", "[I", true)
  | 7 => ("MoonFerryOffice$Loads", "worths", "[I", true)
  | _ => ("MoonFerryOffice$Loads", "sums", "[I", true)
def tyX6 : Nat → FieldType := fun k => match k with
  | 0 => .int
  | 1 => .int
  | 2 => .array .int
  | 3 => .object "MoonFerryOffice$Fares"
  | 4 => .int
  | 5 => .int
  | 6 => .array .int
  | 7 => .array .int
  | _ => .array .int
abbrev wsX60 : List Cond := u_ws RX6 TX6 9
theorem nmX6 : ∀ a, a < 9 → ∀ b, b < 9 → a ≠ b → (TX6 a).2.1 ≠ (TX6 b).2.1 := by decide +kernel
theorem tyX6_ok : ∀ k, k < 9 → parseFieldDescriptor (TX6 k).2.2.1 = some (tyX6 k) := by decide +kernel
abbrev cX6_init : ByteArray := prog_8_method_1_code
def yX6_init : MethodName := ⟨RX6, "<init>", "()V"⟩
abbrev cX6_gather : ByteArray := prog_8_method_2_code
def yX6_gather : MethodName := ⟨RX6, "gather", "(LMoonFerryOffice$State;I)V"⟩
abbrev cX6_sumByDeciding : ByteArray := prog_8_method_3_code
def yX6_sumByDeciding : MethodName := ⟨RX6, "sumByDeciding", "()I"⟩
abbrev cX6_decide : ByteArray := prog_8_method_4_code
def yX6_decide : MethodName := ⟨RX6, "decide", "(IIII)V"⟩
abbrev cX6_sumByTable : ByteArray := prog_8_method_5_code
def yX6_sumByTable : MethodName := ⟨RX6, "sumByTable", "()I"⟩
def RX7 : String := "MoonFerryOffice$Moons"
def TX7 : u_T := fun k => match k with
  | 0 => ("MoonFerryOffice$Moons", "total", "I", false)
  | 1 => ("MoonFerryOffice$Moons", "nextNumber", "I", false)
  | 2 => ("MoonFerryOffice$Moons", "numbers", "[I", true)
  | 3 => ("MoonFerryOffice$Moons", "origins", "[I", true)
  | 4 => ("MoonFerryOffice$Moons", "destinations", "[I", true)
  | 5 => ("MoonFerryOffice$Moons", "weights", "[I", true)
  | 6 => ("MoonFerryOffice$Moons", "phases", "[I", true)
  | 7 => ("MoonFerryOffice$Moons", "ferries", "[I", true)
  | _ => ("MoonFerryOffice$Moons", "shores", "[I", true)
def tyX7 : Nat → FieldType := fun k => match k with
  | 0 => .int
  | 1 => .int
  | 2 => .array .int
  | 3 => .array .int
  | 4 => .array .int
  | 5 => .array .int
  | 6 => .array .int
  | 7 => .array .int
  | _ => .array .int
abbrev wsX70 : List Cond := u_ws RX7 TX7 9
theorem nmX7 : ∀ a, a < 9 → ∀ b, b < 9 → a ≠ b → (TX7 a).2.1 ≠ (TX7 b).2.1 := by decide +kernel
theorem tyX7_ok : ∀ k, k < 9 → parseFieldDescriptor (TX7 k).2.2.1 = some (tyX7 k) := by decide +kernel
abbrev cX7_init : ByteArray := prog_9_method_1_code
def yX7_init : MethodName := ⟨RX7, "<init>", "()V"⟩
abbrev cX7_copyFrom : ByteArray := prog_9_method_2_code
def yX7_copyFrom : MethodName := ⟨RX7, "copyFrom", "(LMoonFerryOffice$Moons;)V"⟩
abbrev cX7_placeOf : ByteArray := prog_9_method_3_code
def yX7_placeOf : MethodName := ⟨RX7, "placeOf", "(I)I"⟩
abbrev cX7_weightAboard : ByteArray := prog_9_method_4_code
def yX7_weightAboard : MethodName := ⟨RX7, "weightAboard", "(I)I"⟩
abbrev cX7_sumOfPhases : ByteArray := prog_9_method_5_code
def yX7_sumOfPhases : MethodName := ⟨RX7, "sumOfPhases", "()I"⟩
abbrev cX7_increasePhases : ByteArray := prog_9_method_6_code
def yX7_increasePhases : MethodName := ⟨RX7, "increasePhases", "()V"⟩
abbrev cX7_moveAboard : ByteArray := prog_9_method_7_code
def yX7_moveAboard : MethodName := ⟨RX7, "moveAboard", "(II)V"⟩
abbrev cX7_moveAshore : ByteArray := prog_9_method_8_code
def yX7_moveAshore : MethodName := ⟨RX7, "moveAshore", "(II)V"⟩
abbrev cX7_dropMoon : ByteArray := prog_9_method_9_code
def yX7_dropMoon : MethodName := ⟨RX7, "dropMoon", "(I)V"⟩
def RX8 : String := "MoonFerryOffice$State"
def TX8 : u_T := fun k => match k with
  | 0 => ("MoonFerryOffice$State", "waters", "LMoonFerryOffice$Waters;", true)
  | 1 => ("MoonFerryOffice$State", "fleet", "LMoonFerryOffice$Fleet;", true)
  | 2 => ("MoonFerryOffice$State", "moons", "LMoonFerryOffice$Moons;", true)
  | 3 => ("MoonFerryOffice$State", "presentHour", "I", false)
  | 4 => ("MoonFerryOffice$State", "paidFares", "I", false)
  | _ => ("MoonFerryOffice$State", "purse", "J", false)
def tyX8 : Nat → FieldType := fun k => match k with
  | 0 => .object "MoonFerryOffice$Waters"
  | 1 => .object "MoonFerryOffice$Fleet"
  | 2 => .object "MoonFerryOffice$Moons"
  | 3 => .int
  | 4 => .int
  | _ => .long
abbrev wsX80 : List Cond := u_ws RX8 TX8 6
theorem nmX8 : ∀ a, a < 6 → ∀ b, b < 6 → a ≠ b → (TX8 a).2.1 ≠ (TX8 b).2.1 := by decide +kernel
theorem tyX8_ok : ∀ k, k < 6 → parseFieldDescriptor (TX8 k).2.2.1 = some (tyX8 k) := by decide +kernel
abbrev cX8_init : ByteArray := prog_10_method_1_code
def yX8_init : MethodName := ⟨RX8, "<init>", "()V"⟩
abbrev cX8_copyFrom : ByteArray := prog_10_method_2_code
def yX8_copyFrom : MethodName := ⟨RX8, "copyFrom", "(LMoonFerryOffice$State;)V"⟩
abbrev cX8_aground : ByteArray := prog_10_method_3_code
def yX8_aground : MethodName := ⟨RX8, "aground", "(I)Z"⟩
abbrev cX8_hoursUntilAshore : ByteArray := prog_10_method_4_code
def yX8_hoursUntilAshore : MethodName := ⟨RX8, "hoursUntilAshore", "(I)I"⟩
abbrev cX8_nextCrater : ByteArray := prog_10_method_5_code
def yX8_nextCrater : MethodName := ⟨RX8, "nextCrater", "(I)I"⟩
def RX9 : String := "MoonFerryOffice$Waters"
def TX9 : u_T := fun k => match k with
  | 0 => ("MoonFerryOffice$Waters", "craterTotal", "I", false)
  | 1 => ("MoonFerryOffice$Waters", "channelTotal", "I", false)
  | 2 => ("MoonFerryOffice$Waters", "depths", "[I", true)
  | 3 => ("MoonFerryOffice$Waters", "ones", "[I", true)
  | 4 => ("MoonFerryOffice$Waters", "others", "[I", true)
  | 5 => ("MoonFerryOffice$Waters", "lengths", "[I", true)
  | _ => ("MoonFerryOffice$Waters", "sills", "[I", true)
def tyX9 : Nat → FieldType := fun k => match k with
  | 0 => .int
  | 1 => .int
  | 2 => .array .int
  | 3 => .array .int
  | 4 => .array .int
  | 5 => .array .int
  | _ => .array .int
abbrev wsX90 : List Cond := u_ws RX9 TX9 7
theorem nmX9 : ∀ a, a < 7 → ∀ b, b < 7 → a ≠ b → (TX9 a).2.1 ≠ (TX9 b).2.1 := by decide +kernel
theorem tyX9_ok : ∀ k, k < 7 → parseFieldDescriptor (TX9 k).2.2.1 = some (tyX9 k) := by decide +kernel
abbrev cX9_init : ByteArray := prog_11_method_1_code
def yX9_init : MethodName := ⟨RX9, "<init>", "()V"⟩
abbrev cX9_copyFrom : ByteArray := prog_11_method_2_code
def yX9_copyFrom : MethodName := ⟨RX9, "copyFrom", "(LMoonFerryOffice$Waters;)V"⟩
abbrev cX9_hasCrater : ByteArray := prog_11_method_3_code
def yX9_hasCrater : MethodName := ⟨RX9, "hasCrater", "(I)Z"⟩
abbrev cX9_hasChannel : ByteArray := prog_11_method_4_code
def yX9_hasChannel : MethodName := ⟨RX9, "hasChannel", "(I)Z"⟩
abbrev cX9_findChannel : ByteArray := prog_11_method_5_code
def yX9_findChannel : MethodName := ⟨RX9, "findChannel", "(II)I"⟩
abbrev cX9_farEnd : ByteArray := prog_11_method_6_code
def yX9_farEnd : MethodName := ⟨RX9, "farEnd", "(II)I"⟩
abbrev cX9_dropChannel : ByteArray := prog_11_method_7_code
def yX9_dropChannel : MethodName := ⟨RX9, "dropChannel", "(I)V"⟩
def RX10 : String := "MoonFerryOffice$Ways"
def TX10 : u_T := fun k => match k with
  | 0 => ("MoonFerryOffice$Ways", "hoursTo", "[I", true)
  | 1 => ("MoonFerryOffice$Ways", "table", "[[I", true)
  | 2 => ("MoonFerryOffice$Ways", "byQueue", "[I", true)
  | 3 => ("MoonFerryOffice$Ways", "byHours", "[I", true)
  | 4 => ("MoonFerryOffice$Ways", "queue", "LMoonFerryOffice$CraterQueue;", true)
  | 5 => ("MoonFerryOffice$Ways", "order", "[I", true)
  | 6 => ("MoonFerryOffice$Ways", "groups", "[I", true)
  | _ => ("MoonFerryOffice$Ways", "arriving", "[I", true)
def tyX10 : Nat → FieldType := fun k => match k with
  | 0 => .array .int
  | 1 => .array (.array .int)
  | 2 => .array .int
  | 3 => .array .int
  | 4 => .object "MoonFerryOffice$CraterQueue"
  | 5 => .array .int
  | 6 => .array .int
  | _ => .array .int
abbrev wsX100 : List Cond := u_ws RX10 TX10 8
theorem nmX10 : ∀ a, a < 8 → ∀ b, b < 8 → a ≠ b → (TX10 a).2.1 ≠ (TX10 b).2.1 := by decide +kernel
theorem tyX10_ok : ∀ k, k < 8 → parseFieldDescriptor (TX10 k).2.2.1 = some (tyX10 k) := by decide +kernel
abbrev cX10_init : ByteArray := prog_12_method_1_code
def yX10_init : MethodName := ⟨RX10, "<init>", "()V"⟩
abbrev cX10_spreadFrom : ByteArray := prog_12_method_2_code
def yX10_spreadFrom : MethodName := ⟨RX10, "spreadFrom", "(LMoonFerryOffice$Waters;I)V"⟩
abbrev cX10_fillTable : ByteArray := prog_12_method_3_code
def yX10_fillTable : MethodName := ⟨RX10, "fillTable", "(LMoonFerryOffice$Waters;)V"⟩
abbrev cX10_shortenOver : ByteArray := prog_12_method_4_code
def yX10_shortenOver : MethodName := ⟨RX10, "shortenOver", "(LMoonFerryOffice$Waters;I)V"⟩
abbrev cX10_netByOrder : ByteArray := prog_12_method_5_code
def yX10_netByOrder : MethodName := ⟨RX10, "netByOrder", "(LMoonFerryOffice$Waters;)I"⟩
abbrev cX10_orderChannels : ByteArray := prog_12_method_6_code
def yX10_orderChannels : MethodName := ⟨RX10, "orderChannels", "(LMoonFerryOffice$Waters;)V"⟩
abbrev cX10_joinGroups : ByteArray := prog_12_method_7_code
def yX10_joinGroups : MethodName := ⟨RX10, "joinGroups", "(II)V"⟩
abbrev cX10_netByGrowing : ByteArray := prog_12_method_8_code
def yX10_netByGrowing : MethodName := ⟨RX10, "netByGrowing", "(LMoonFerryOffice$Waters;)I"⟩
abbrev cX10_shortestOutOf : ByteArray := prog_12_method_9_code
def yX10_shortestOutOf : MethodName := ⟨RX10, "shortestOutOf", "(LMoonFerryOffice$Waters;I)I"⟩
abbrev cX10_arriveByQueue : ByteArray := prog_12_method_10_code
def yX10_arriveByQueue : MethodName := ⟨RX10, "arriveByQueue", "(LMoonFerryOffice$State;I)V"⟩
abbrev cX10_queuePassages : ByteArray := prog_12_method_11_code
def yX10_queuePassages : MethodName := ⟨RX10, "queuePassages", "(LMoonFerryOffice$State;II)V"⟩
abbrev cX10_hoursToWait : ByteArray := prog_12_method_12_code
def yX10_hoursToWait : MethodName := ⟨RX10, "hoursToWait", "(II)I"⟩
abbrev cX10_arriveByHours : ByteArray := prog_12_method_13_code
def yX10_arriveByHours : MethodName := ⟨RX10, "arriveByHours", "(LMoonFerryOffice$State;I)V"⟩
abbrev cX10_noteArrivals : ByteArray := prog_12_method_14_code
def yX10_noteArrivals : MethodName := ⟨RX10, "noteArrivals", "(LMoonFerryOffice$State;I)V"⟩
abbrev cX10_sendThrough : ByteArray := prog_12_method_15_code
def yX10_sendThrough : MethodName := ⟨RX10, "sendThrough", "(LMoonFerryOffice$State;III)V"⟩
def RX11 : String := "MoonFerryOffice"
def TX11 : u_T := fun k => match k with
  | 0 => ("MoonFerryOffice", "clerk", "LMoonFerryOffice$Clerk;", true)
  | 1 => ("MoonFerryOffice", "state", "LMoonFerryOffice$State;", true)
  | 2 => ("MoonFerryOffice", "loads", "LMoonFerryOffice$Loads;", true)
  | 3 => ("MoonFerryOffice", "fares", "LMoonFerryOffice$Fares;", true)
  | 4 => ("MoonFerryOffice", "ways", "LMoonFerryOffice$Ways;", true)
  | 5 => ("MoonFerryOffice", "before", "LMoonFerryOffice$State;", true)
  | 6 => ("MoonFerryOffice", "snapshot", "LMoonFerryOffice$State;", true)
  | 7 => ("MoonFerryOffice", "history", "LMoonFerryOffice$History;", true)
  | 8 => ("MoonFerryOffice", "text", "LMoonFerryOffice$CommandText;", true)
  | 9 => ("MoonFerryOffice", "line", "Ljava/lang/StringBuilder;", true)
  | 10 => ("MoonFerryOffice", "hasSnapshot", "Z", false)
  | 11 => ("MoonFerryOffice", "errorAt", "I", false)
  | _ => ("MoonFerryOffice", "failedAt", "I", false)
def tyX11 : Nat → FieldType := fun k => match k with
  | 0 => .object "MoonFerryOffice$Clerk"
  | 1 => .object "MoonFerryOffice$State"
  | 2 => .object "MoonFerryOffice$Loads"
  | 3 => .object "MoonFerryOffice$Fares"
  | 4 => .object "MoonFerryOffice$Ways"
  | 5 => .object "MoonFerryOffice$State"
  | 6 => .object "MoonFerryOffice$State"
  | 7 => .object "MoonFerryOffice$History"
  | 8 => .object "MoonFerryOffice$CommandText"
  | 9 => .object "java/lang/StringBuilder"
  | 10 => .boolean
  | 11 => .int
  | _ => .int
abbrev wsX110 : List Cond := u_ws RX11 TX11 13
theorem nmX11 : ∀ a, a < 13 → ∀ b, b < 13 → a ≠ b → (TX11 a).2.1 ≠ (TX11 b).2.1 := by decide +kernel
theorem tyX11_ok : ∀ k, k < 13 → parseFieldDescriptor (TX11 k).2.2.1 = some (tyX11 k) := by decide +kernel
abbrev cX11_init : ByteArray := prog_1_method_1_code
def yX11_init : MethodName := ⟨RX11, "<init>", "()V"⟩
abbrev cX11_addCrater : ByteArray := prog_1_method_2_code
def yX11_addCrater : MethodName := ⟨RX11, "addCrater", "(I)I"⟩
abbrev cX11_addChannel : ByteArray := prog_1_method_3_code
def yX11_addChannel : MethodName := ⟨RX11, "addChannel", "(IIII)I"⟩
abbrev cX11_removeChannel : ByteArray := prog_1_method_4_code
def yX11_removeChannel : MethodName := ⟨RX11, "removeChannel", "(I)I"⟩
abbrev cX11_craterCount : ByteArray := prog_1_method_5_code
def yX11_craterCount : MethodName := ⟨RX11, "craterCount", "()I"⟩
abbrev cX11_channelCount : ByteArray := prog_1_method_6_code
def yX11_channelCount : MethodName := ⟨RX11, "channelCount", "()I"⟩
abbrev cX11_depthOf : ByteArray := prog_1_method_7_code
def yX11_depthOf : MethodName := ⟨RX11, "depthOf", "(I)I"⟩
abbrev cX11_channelBetween : ByteArray := prog_1_method_8_code
def yX11_channelBetween : MethodName := ⟨RX11, "channelBetween", "(II)I"⟩
abbrev cX11_tide : ByteArray := prog_1_method_9_code
def yX11_tide : MethodName := ⟨RX11, "tide", "(I)I"⟩
abbrev cX11_wayHours : ByteArray := prog_1_method_10_code
def yX11_wayHours : MethodName := ⟨RX11, "wayHours", "(II)I"⟩
abbrev cX11_wayHoursByTable : ByteArray := prog_1_method_11_code
def yX11_wayHoursByTable : MethodName := ⟨RX11, "wayHoursByTable", "(II)I"⟩
abbrev cX11_cheapestNet : ByteArray := prog_1_method_12_code
def yX11_cheapestNet : MethodName := ⟨RX11, "cheapestNet", "()I"⟩
abbrev cX11_cheapestNetByGrowing : ByteArray := prog_1_method_13_code
def yX11_cheapestNetByGrowing : MethodName := ⟨RX11, "cheapestNetByGrowing", "()I"⟩
abbrev cX11_addFerry : ByteArray := prog_1_method_14_code
def yX11_addFerry : MethodName := ⟨RX11, "addFerry", "(III)I"⟩
abbrev cX11_sail : ByteArray := prog_1_method_15_code
def yX11_sail : MethodName := ⟨RX11, "sail", "(II)I"⟩
abbrev cX11_craterOf : ByteArray := prog_1_method_17_code
def yX11_craterOf : MethodName := ⟨RX11, "craterOf", "(I)I"⟩
abbrev cX11_targetOf : ByteArray := prog_1_method_18_code
def yX11_targetOf : MethodName := ⟨RX11, "targetOf", "(I)I"⟩
abbrev cX11_hoursLeft : ByteArray := prog_1_method_19_code
def yX11_hoursLeft : MethodName := ⟨RX11, "hoursLeft", "(I)I"⟩
abbrev cX11_isStranded : ByteArray := prog_1_method_20_code
def yX11_isStranded : MethodName := ⟨RX11, "isStranded", "(I)Z"⟩
abbrev cX11_loadOf : ByteArray := prog_1_method_21_code
def yX11_loadOf : MethodName := ⟨RX11, "loadOf", "(I)I"⟩
abbrev cX11_earliestArrival : ByteArray := prog_1_method_22_code
def yX11_earliestArrival : MethodName := ⟨RX11, "earliestArrival", "(II)I"⟩
abbrev cX11_earliestArrivalByHours : ByteArray := prog_1_method_23_code
def yX11_earliestArrivalByHours : MethodName := ⟨RX11, "earliestArrivalByHours", "(II)I"⟩
abbrev cX11_addMoon : ByteArray := prog_1_method_24_code
def yX11_addMoon : MethodName := ⟨RX11, "addMoon", "(IIII)I"⟩
abbrev cX11_board : ByteArray := prog_1_method_25_code
def yX11_board : MethodName := ⟨RX11, "board", "(II)I"⟩
abbrev cX11_land : ByteArray := prog_1_method_26_code
def yX11_land : MethodName := ⟨RX11, "land", "(I)I"⟩
abbrev cX11_loadBest : ByteArray := prog_1_method_27_code
def yX11_loadBest : MethodName := ⟨RX11, "loadBest", "(I)I"⟩
abbrev cX11_bestLoad : ByteArray := prog_1_method_28_code
def yX11_bestLoad : MethodName := ⟨RX11, "bestLoad", "(I)I"⟩
abbrev cX11_bestLoadByTable : ByteArray := prog_1_method_29_code
def yX11_bestLoadByTable : MethodName := ⟨RX11, "bestLoadByTable", "(I)I"⟩
abbrev cX11_rescue : ByteArray := prog_1_method_30_code
def yX11_rescue : MethodName := ⟨RX11, "rescue", "(I)I"⟩
abbrev cX11_moonCount : ByteArray := prog_1_method_31_code
def yX11_moonCount : MethodName := ⟨RX11, "moonCount", "()I"⟩
abbrev cX11_moonAt : ByteArray := prog_1_method_32_code
def yX11_moonAt : MethodName := ⟨RX11, "moonAt", "(I)I"⟩
abbrev cX11_ferryOf : ByteArray := prog_1_method_33_code
def yX11_ferryOf : MethodName := ⟨RX11, "ferryOf", "(I)I"⟩
abbrev cX11_shoreOf : ByteArray := prog_1_method_34_code
def yX11_shoreOf : MethodName := ⟨RX11, "shoreOf", "(I)I"⟩
abbrev cX11_phaseOf : ByteArray := prog_1_method_35_code
def yX11_phaseOf : MethodName := ⟨RX11, "phaseOf", "(I)I"⟩
abbrev cX11_fareOf : ByteArray := prog_1_method_36_code
def yX11_fareOf : MethodName := ⟨RX11, "fareOf", "(I)I"⟩
abbrev cX11_moonAtRank : ByteArray := prog_1_method_37_code
def yX11_moonAtRank : MethodName := ⟨RX11, "moonAtRank", "(I)I"⟩
abbrev cX11_countBelow : ByteArray := prog_1_method_38_code
def yX11_countBelow : MethodName := ⟨RX11, "countBelow", "(I)I"⟩
abbrev cX11_countBelowByAsking : ByteArray := prog_1_method_39_code
def yX11_countBelowByAsking : MethodName := ⟨RX11, "countBelowByAsking", "(I)I"⟩
abbrev cX11_pass : ByteArray := prog_1_method_40_code
def yX11_pass : MethodName := ⟨RX11, "pass", "(I)I"⟩
abbrev cX11_hour : ByteArray := prog_1_method_41_code
def yX11_hour : MethodName := ⟨RX11, "hour", "()I"⟩
abbrev cX11_refusalReason : ByteArray := prog_1_method_42_code
def yX11_refusalReason : MethodName := ⟨RX11, "refusalReason", "()I"⟩
abbrev cX11_passageCount : ByteArray := prog_1_method_43_code
def yX11_passageCount : MethodName := ⟨RX11, "passageCount", "()I"⟩
abbrev cX11_passageFerry : ByteArray := prog_1_method_44_code
def yX11_passageFerry : MethodName := ⟨RX11, "passageFerry", "(I)I"⟩
abbrev cX11_passageCrater : ByteArray := prog_1_method_45_code
def yX11_passageCrater : MethodName := ⟨RX11, "passageCrater", "(I)I"⟩
abbrev cX11_passageHour : ByteArray := prog_1_method_46_code
def yX11_passageHour : MethodName := ⟨RX11, "passageHour", "(I)I"⟩
abbrev cX11_strandingCount : ByteArray := prog_1_method_47_code
def yX11_strandingCount : MethodName := ⟨RX11, "strandingCount", "()I"⟩
abbrev cX11_coins : ByteArray := prog_1_method_48_code
def yX11_coins : MethodName := ⟨RX11, "coins", "()J"⟩
abbrev cX11_fareTotal : ByteArray := prog_1_method_49_code
def yX11_fareTotal : MethodName := ⟨RX11, "fareTotal", "()I"⟩
abbrev cX11_append : ByteArray := prog_1_method_50_code
def yX11_append : MethodName := ⟨RX11, "append", "(C)I"⟩
abbrev cX11_run : ByteArray := prog_1_method_51_code
def yX11_run : MethodName := ⟨RX11, "run", "()I"⟩
abbrev cX11_errorPosition : ByteArray := prog_1_method_52_code
def yX11_errorPosition : MethodName := ⟨RX11, "errorPosition", "()I"⟩
abbrev cX11_failedCommand : ByteArray := prog_1_method_53_code
def yX11_failedCommand : MethodName := ⟨RX11, "failedCommand", "()I"⟩
abbrev cX11_describeFerry : ByteArray := prog_1_method_54_code
def yX11_describeFerry : MethodName := ⟨RX11, "describeFerry", "(I)I"⟩
abbrev cX11_lineAt : ByteArray := prog_1_method_55_code
def yX11_lineAt : MethodName := ⟨RX11, "lineAt", "(I)C"⟩
abbrev cX11_meanPhase : ByteArray := prog_1_method_56_code
def yX11_meanPhase : MethodName := ⟨RX11, "meanPhase", "()D"⟩
abbrev cX11_isConsistent : ByteArray := prog_1_method_58_code
def yX11_isConsistent : MethodName := ⟨RX11, "isConsistent", "()Z"⟩
abbrev cX11_undo : ByteArray := prog_1_method_59_code
def yX11_undo : MethodName := ⟨RX11, "undo", "()I"⟩
abbrev cX11_save : ByteArray := prog_1_method_60_code
def yX11_save : MethodName := ⟨RX11, "save", "()I"⟩
abbrev cX11_restore : ByteArray := prog_1_method_61_code
def yX11_restore : MethodName := ⟨RX11, "restore", "()I"⟩
abbrev cX11_tideIn : ByteArray := prog_1_method_62_code
def yX11_tideIn : MethodName := ⟨RX11, "tideIn", "(I)I"⟩
abbrev cX11_present : ByteArray := prog_1_method_63_code
def yX11_present : MethodName := ⟨RX11, "present", "(I)I"⟩
abbrev cX11_settle : ByteArray := prog_1_method_64_code
def yX11_settle : MethodName := ⟨RX11, "settle", "(I)I"⟩
abbrev cX11_needCrater : ByteArray := prog_1_method_65_code
def yX11_needCrater : MethodName := ⟨RX11, "needCrater", "(I)V"⟩
abbrev cX11_needFerry : ByteArray := prog_1_method_66_code
def yX11_needFerry : MethodName := ⟨RX11, "needFerry", "(I)V"⟩
abbrev cX11_needAshore : ByteArray := prog_1_method_67_code
def yX11_needAshore : MethodName := ⟨RX11, "needAshore", "(I)V"⟩
abbrev cX11_needPassage : ByteArray := prog_1_method_68_code
def yX11_needPassage : MethodName := ⟨RX11, "needPassage", "(I)V"⟩
abbrev cX11_placeOfMoon : ByteArray := prog_1_method_69_code
def yX11_placeOfMoon : MethodName := ⟨RX11, "placeOfMoon", "(I)I"⟩
abbrev cX11_carryOut : ByteArray := prog_1_method_70_code
def yX11_carryOut : MethodName := ⟨RX11, "carryOut", "(I)I"⟩
abbrev cX11_writePosition : ByteArray := prog_1_method_71_code
def yX11_writePosition : MethodName := ⟨RX11, "writePosition", "(I)V"⟩
abbrev cX11_writeMoonsAboard : ByteArray := prog_1_method_72_code
def yX11_writeMoonsAboard : MethodName := ⟨RX11, "writeMoonsAboard", "(I)V"⟩
abbrev cX11_waysAgree : ByteArray := prog_1_method_73_code
def yX11_waysAgree : MethodName := ⟨RX11, "waysAgree", "()Z"⟩
abbrev cX11_netsAgree : ByteArray := prog_1_method_74_code
def yX11_netsAgree : MethodName := ⟨RX11, "netsAgree", "()Z"⟩
abbrev cX11_arrivalsAgree : ByteArray := prog_1_method_75_code
def yX11_arrivalsAgree : MethodName := ⟨RX11, "arrivalsAgree", "()Z"⟩
abbrev cX11_loadsAgree : ByteArray := prog_1_method_76_code
def yX11_loadsAgree : MethodName := ⟨RX11, "loadsAgree", "()Z"⟩
abbrev cX11_countsAgree : ByteArray := prog_1_method_77_code
def yX11_countsAgree : MethodName := ⟨RX11, "countsAgree", "()Z"⟩
def RX12 : String := "MoonFerryOfficeModel"
def TX12 : u_T := fun k => match k with
  | _ => ("", "", "", false)
def tyX12 : Nat → FieldType := fun k => match k with
  | _ => .int
abbrev wsX120 : List Cond := u_ws RX12 TX12 0
theorem nmX12 : ∀ a, a < 0 → ∀ b, b < 0 → a ≠ b → (TX12 a).2.1 ≠ (TX12 b).2.1 := by decide +kernel
theorem tyX12_ok : ∀ k, k < 0 → parseFieldDescriptor (TX12 k).2.2.1 = some (tyX12 k) := by decide +kernel
def RJx145de : String := "java/io/Serializable"
def TJx145de : u_T := fun k => match k with
  | _ => ("", "", "", false)
def tyJx145de : Nat → FieldType := fun k => match k with
  | _ => .int
abbrev wsJx145de0 : List Cond := u_ws RJx145de TJx145de 0
theorem nmJx145de : ∀ a, a < 0 → ∀ b, b < 0 → a ≠ b → (TJx145de a).2.1 ≠ (TJx145de b).2.1 := by decide +kernel
theorem tyJx145de_ok : ∀ k, k < 0 → parseFieldDescriptor (TJx145de k).2.2.1 = some (tyJx145de k) := by decide +kernel
def RJ5 : String := "java/lang/AbstractStringBuilder"
def TJ5 : u_T := fun k => match k with
  | _ => ("", "", "", false)
def tyJ5 : Nat → FieldType := fun k => match k with
  | _ => .int
abbrev wsJ50 : List Cond := u_ws RJ5 TJ5 0
theorem nmJ5 : ∀ a, a < 0 → ∀ b, b < 0 → a ≠ b → (TJ5 a).2.1 ≠ (TJ5 b).2.1 := by decide +kernel
theorem tyJ5_ok : ∀ k, k < 0 → parseFieldDescriptor (TJ5 k).2.2.1 = some (tyJ5 k) := by decide +kernel
abbrev cJ5_init_d00df : ByteArray := prog_16_method_2_code
def yJ5_init_d00df : MethodName := ⟨RJ5, "<init>", "(I)V"⟩
abbrev cJ5_length_8abf5 : ByteArray := prog_16_method_6_code
def yJ5_length_8abf5 : MethodName := ⟨RJ5, "length", "()I"⟩
abbrev cJ5_ensureCapacityInternal_d00df : ByteArray := prog_16_method_9_code
def yJ5_ensureCapacityInternal_d00df : MethodName := ⟨RJ5, "ensureCapacityInternal", "(I)V"⟩
abbrev cJ5_newCapacity_0f7a4 : ByteArray := prog_16_method_10_code
def yJ5_newCapacity_0f7a4 : MethodName := ⟨RJ5, "newCapacity", "(I)I"⟩
abbrev cJ5_inflate_da8c8 : ByteArray := prog_16_method_11_code
def yJ5_inflate_da8c8 : MethodName := ⟨RJ5, "inflate", "()V"⟩
abbrev cJ5_setLength_d00df : ByteArray := prog_16_method_13_code
def yJ5_setLength_d00df : MethodName := ⟨RJ5, "setLength", "(I)V"⟩
abbrev cJ5_charAt_5068e : ByteArray := prog_16_method_14_code
def yJ5_charAt_5068e : MethodName := ⟨RJ5, "charAt", "(I)C"⟩
abbrev cJ5_append_cf1ce : ByteArray := prog_16_method_22_code
def yJ5_append_cf1ce : MethodName := ⟨RJ5, "append", "(Ljava/lang/String;)Ljava/lang/AbstractStringBuilder;"⟩
abbrev cJ5_appendNull_278bc : ByteArray := prog_16_method_26_code
def yJ5_appendNull_278bc : MethodName := ⟨RJ5, "appendNull", "()Ljava/lang/AbstractStringBuilder;"⟩
abbrev cJ5_append_3fe6f : ByteArray := prog_16_method_31_code
def yJ5_append_3fe6f : MethodName := ⟨RJ5, "append", "(C)Ljava/lang/AbstractStringBuilder;"⟩
abbrev cJ5_append_c97b9 : ByteArray := prog_16_method_32_code
def yJ5_append_c97b9 : MethodName := ⟨RJ5, "append", "(I)Ljava/lang/AbstractStringBuilder;"⟩
abbrev cJ5_getValue_6d5f1 : ByteArray := prog_16_method_64_code
def yJ5_getValue_6d5f1 : MethodName := ⟨RJ5, "getValue", "()[B"⟩
abbrev cJ5_isLatin1_aae02 : ByteArray := prog_16_method_68_code
def yJ5_isLatin1_aae02 : MethodName := ⟨RJ5, "isLatin1", "()Z"⟩
abbrev cJ5_inflateIfNeededFor_a7421 : ByteArray := prog_16_method_71_code
def yJ5_inflateIfNeededFor_a7421 : MethodName := ⟨RJ5, "inflateIfNeededFor", "(Ljava/lang/String;)V"⟩
abbrev cJ5_putStringAt_47b60 : ByteArray := prog_16_method_73_code
def yJ5_putStringAt_47b60 : MethodName := ⟨RJ5, "putStringAt", "(ILjava/lang/String;)V"⟩
def RJx2cfe8 : String := "java/lang/Appendable"
def TJx2cfe8 : u_T := fun k => match k with
  | _ => ("", "", "", false)
def tyJx2cfe8 : Nat → FieldType := fun k => match k with
  | _ => .int
abbrev wsJx2cfe80 : List Cond := u_ws RJx2cfe8 TJx2cfe8 0
theorem nmJx2cfe8 : ∀ a, a < 0 → ∀ b, b < 0 → a ≠ b → (TJx2cfe8 a).2.1 ≠ (TJx2cfe8 b).2.1 := by decide +kernel
theorem tyJx2cfe8_ok : ∀ k, k < 0 → parseFieldDescriptor (TJx2cfe8 k).2.2.1 = some (tyJx2cfe8 k) := by decide +kernel
def RJx00060 : String := "java/lang/ArrayIndexOutOfBoundsException"
def TJx00060 : u_T := fun k => match k with
  | 0 => ("java/lang/Throwable", "cause", "Ljava/lang/Throwable;", false)
  | 1 => ("java/lang/Throwable", "stackTrace", "[Ljava/lang/StackTraceElement;", false)
  | 2 => ("java/lang/Throwable", "suppressedExceptions", "Ljava/util/List;", false)
  | 3 => ("java/lang/Throwable", "detailMessage", "Ljava/lang/String;", false)
  | 4 => ("java/lang/Throwable", "backtrace", "Ljava/lang/Object;", false)
  | _ => ("java/lang/Throwable", "depth", "I", false)
def tyJx00060 : Nat → FieldType := fun k => match k with
  | 0 => .object "java/lang/Throwable"
  | 1 => .array (.object "java/lang/StackTraceElement")
  | 2 => .object "java/util/List"
  | 3 => .object "java/lang/String"
  | 4 => .object "java/lang/Object"
  | _ => .int
abbrev wsJx000600 : List Cond := u_ws RJx00060 TJx00060 6
theorem nmJx00060 : ∀ a, a < 6 → ∀ b, b < 6 → a ≠ b → (TJx00060 a).2.1 ≠ (TJx00060 b).2.1 := by decide +kernel
theorem tyJx00060_ok : ∀ k, k < 6 → parseFieldDescriptor (TJx00060 k).2.2.1 = some (tyJx00060 k) := by decide +kernel
abbrev cJx00060_init_a7421 : ByteArray := prog_19_method_2_code
def yJx00060_init_a7421 : MethodName := ⟨RJx00060, "<init>", "(Ljava/lang/String;)V"⟩
abbrev cJx00060_init_d00df : ByteArray := prog_19_method_3_code
def yJx00060_init_d00df : MethodName := ⟨RJx00060, "<init>", "(I)V"⟩
def RJx9f9b0 : String := "java/lang/CharSequence"
def TJx9f9b0 : u_T := fun k => match k with
  | _ => ("", "", "", false)
def tyJx9f9b0 : Nat → FieldType := fun k => match k with
  | _ => .int
abbrev wsJx9f9b00 : List Cond := u_ws RJx9f9b0 TJx9f9b0 0
theorem nmJx9f9b0 : ∀ a, a < 0 → ∀ b, b < 0 → a ≠ b → (TJx9f9b0 a).2.1 ≠ (TJx9f9b0 b).2.1 := by decide +kernel
theorem tyJx9f9b0_ok : ∀ k, k < 0 → parseFieldDescriptor (TJx9f9b0 k).2.2.1 = some (tyJx9f9b0 k) := by decide +kernel
def RJx8e188 : String := "java/lang/Cloneable"
def TJx8e188 : u_T := fun k => match k with
  | _ => ("", "", "", false)
def tyJx8e188 : Nat → FieldType := fun k => match k with
  | _ => .int
abbrev wsJx8e1880 : List Cond := u_ws RJx8e188 TJx8e188 0
theorem nmJx8e188 : ∀ a, a < 0 → ∀ b, b < 0 → a ≠ b → (TJx8e188 a).2.1 ≠ (TJx8e188 b).2.1 := by decide +kernel
theorem tyJx8e188_ok : ∀ k, k < 0 → parseFieldDescriptor (TJx8e188 k).2.2.1 = some (tyJx8e188 k) := by decide +kernel
def RJxb160c : String := "java/lang/Comparable"
def TJxb160c : u_T := fun k => match k with
  | _ => ("", "", "", false)
def tyJxb160c : Nat → FieldType := fun k => match k with
  | _ => .int
abbrev wsJxb160c0 : List Cond := u_ws RJxb160c TJxb160c 0
theorem nmJxb160c : ∀ a, a < 0 → ∀ b, b < 0 → a ≠ b → (TJxb160c a).2.1 ≠ (TJxb160c b).2.1 := by decide +kernel
theorem tyJxb160c_ok : ∀ k, k < 0 → parseFieldDescriptor (TJxb160c k).2.2.1 = some (tyJxb160c k) := by decide +kernel
def RJxabbfe : String := "java/lang/Integer$IntegerCache"
def TJxabbfe : u_T := fun k => match k with
  | _ => ("", "", "", false)
def tyJxabbfe : Nat → FieldType := fun k => match k with
  | _ => .int
abbrev wsJxabbfe0 : List Cond := u_ws RJxabbfe TJxabbfe 0
theorem nmJxabbfe : ∀ a, a < 0 → ∀ b, b < 0 → a ≠ b → (TJxabbfe a).2.1 ≠ (TJxabbfe b).2.1 := by decide +kernel
theorem tyJxabbfe_ok : ∀ k, k < 0 → parseFieldDescriptor (TJxabbfe k).2.2.1 = some (tyJxabbfe k) := by decide +kernel
def RJ6 : String := "java/lang/Integer"
def TJ6 : u_T := fun k => match k with
  | _ => ("java/lang/Integer", "value", "I", true)
def tyJ6 : Nat → FieldType := fun k => match k with
  | _ => .int
abbrev wsJ60 : List Cond := u_ws RJ6 TJ6 1
theorem nmJ6 : ∀ a, a < 1 → ∀ b, b < 1 → a ≠ b → (TJ6 a).2.1 ≠ (TJ6 b).2.1 := by decide +kernel
theorem tyJ6_ok : ∀ k, k < 1 → parseFieldDescriptor (TJ6 k).2.2.1 = some (tyJ6 k) := by decide +kernel
abbrev cJ6_getChars_ba4f3 : ByteArray := prog_27_method_12_code
def yJ6_getChars_ba4f3 : MethodName := ⟨RJ6, "getChars", "(II[B)I"⟩
abbrev cJ6_stringSize_0f7a4 : ByteArray := prog_27_method_13_code
def yJ6_stringSize_0f7a4 : MethodName := ⟨RJ6, "stringSize", "(I)I"⟩
abbrev cJ6_valueOf_2dffe : ByteArray := prog_27_method_22_code
def yJ6_valueOf_2dffe : MethodName := ⟨RJ6, "valueOf", "(I)Ljava/lang/Integer;"⟩
abbrev cJ6_init_d00df : ByteArray := prog_27_method_23_code
def yJ6_init_d00df : MethodName := ⟨RJ6, "<init>", "(I)V"⟩
abbrev cJ6_intValue_8abf5 : ByteArray := prog_27_method_27_code
def yJ6_intValue_8abf5 : MethodName := ⟨RJ6, "intValue", "()I"⟩
def RJxab1ab : String := "java/lang/Iterable"
def TJxab1ab : u_T := fun k => match k with
  | _ => ("", "", "", false)
def tyJxab1ab : Nat → FieldType := fun k => match k with
  | _ => .int
abbrev wsJxab1ab0 : List Cond := u_ws RJxab1ab TJxab1ab 0
theorem nmJxab1ab : ∀ a, a < 0 → ∀ b, b < 0 → a ≠ b → (TJxab1ab a).2.1 ≠ (TJxab1ab b).2.1 := by decide +kernel
theorem tyJxab1ab_ok : ∀ k, k < 0 → parseFieldDescriptor (TJxab1ab k).2.2.1 = some (tyJxab1ab k) := by decide +kernel
def RJ9 : String := "java/lang/Math"
def TJ9 : u_T := fun k => match k with
  | _ => ("", "", "", false)
def tyJ9 : Nat → FieldType := fun k => match k with
  | _ => .int
abbrev wsJ90 : List Cond := u_ws RJ9 TJ9 0
theorem nmJ9 : ∀ a, a < 0 → ∀ b, b < 0 → a ≠ b → (TJ9 a).2.1 ≠ (TJ9 b).2.1 := by decide +kernel
theorem tyJ9_ok : ∀ k, k < 0 → parseFieldDescriptor (TJ9 k).2.2.1 = some (tyJ9 k) := by decide +kernel
abbrev cJ9_floorMod_7cf53 : ByteArray := prog_30_method_50_code
def yJ9_floorMod_7cf53 : MethodName := ⟨RJ9, "floorMod", "(II)I"⟩
abbrev cJ9_max_7cf53 : ByteArray := prog_30_method_65_code
def yJ9_max_7cf53 : MethodName := ⟨RJ9, "max", "(II)I"⟩
abbrev cJ9_min_7cf53 : ByteArray := prog_30_method_69_code
def yJ9_min_7cf53 : MethodName := ⟨RJ9, "min", "(II)I"⟩
def RJxd2413 : String := "java/lang/Number"
def TJxd2413 : u_T := fun k => match k with
  | _ => ("", "", "", false)
def tyJxd2413 : Nat → FieldType := fun k => match k with
  | _ => .int
abbrev wsJxd24130 : List Cond := u_ws RJxd2413 TJxd2413 0
theorem nmJxd2413 : ∀ a, a < 0 → ∀ b, b < 0 → a ≠ b → (TJxd2413 a).2.1 ≠ (TJxd2413 b).2.1 := by decide +kernel
theorem tyJxd2413_ok : ∀ k, k < 0 → parseFieldDescriptor (TJxd2413 k).2.2.1 = some (tyJxd2413 k) := by decide +kernel
abbrev cJxd2413_init_da8c8 : ByteArray := prog_31_method_1_code
def yJxd2413_init_da8c8 : MethodName := ⟨RJxd2413, "<init>", "()V"⟩
def RJ0 : String := "java/lang/String"
def TJ0 : u_T := fun k => match k with
  | 0 => ("java/lang/String", "value", "[B", true)
  | 1 => ("java/lang/String", "coder", "B", true)
  | 2 => ("java/lang/String", "hash", "I", false)
  | _ => ("java/lang/String", "hashIsZero", "Z", false)
def tyJ0 : Nat → FieldType := fun k => match k with
  | 0 => .array .byte
  | 1 => .byte
  | 2 => .int
  | _ => .boolean
abbrev wsJ00 : List Cond := u_ws RJ0 TJ0 4
theorem nmJ0 : ∀ a, a < 4 → ∀ b, b < 4 → a ≠ b → (TJ0 a).2.1 ≠ (TJ0 b).2.1 := by decide +kernel
theorem tyJ0_ok : ∀ k, k < 4 → parseFieldDescriptor (TJ0 k).2.2.1 = some (tyJ0 k) := by decide +kernel
abbrev cJ0_init_81219 : ByteArray := prog_33_method_53_code
def yJ0_init_81219 : MethodName := ⟨RJ0, "<init>", "(Ljava/lang/StringBuilder;)V"⟩
abbrev cJ0_length_8abf5 : ByteArray := prog_33_method_54_code
def yJ0_length_8abf5 : MethodName := ⟨RJ0, "length", "()I"⟩
abbrev cJ0_charAt_5068e : ByteArray := prog_33_method_56_code
def yJ0_charAt_5068e : MethodName := ⟨RJ0, "charAt", "(I)C"⟩
abbrev cJ0_getBytes_840e7 : ByteArray := prog_33_method_147_code
def yJ0_getBytes_840e7 : MethodName := ⟨RJ0, "getBytes", "([BIB)V"⟩
abbrev cJ0_init_db425 : ByteArray := prog_33_method_150_code
def yJ0_init_db425 : MethodName := ⟨RJ0, "<init>", "(Ljava/lang/AbstractStringBuilder;Ljava/lang/Void;)V"⟩
abbrev cJ0_coder_7d493 : ByteArray := prog_33_method_152_code
def yJ0_coder_7d493 : MethodName := ⟨RJ0, "coder", "()B"⟩
abbrev cJ0_isLatin1_aae02 : ByteArray := prog_33_method_154_code
def yJ0_isLatin1_aae02 : MethodName := ⟨RJ0, "isLatin1", "()Z"⟩
abbrev cJ0_checkIndex_df160 : ByteArray := prog_33_method_155_code
def yJ0_checkIndex_df160 : MethodName := ⟨RJ0, "checkIndex", "(II)V"⟩
abbrev cJ0_checkBoundsOffCount_cabcc : ByteArray := prog_33_method_157_code
def yJ0_checkBoundsOffCount_cabcc : MethodName := ⟨RJ0, "checkBoundsOffCount", "(III)I"⟩
abbrev cJ0_checkBoundsBeginEnd_23922 : ByteArray := prog_33_method_158_code
def yJ0_checkBoundsBeginEnd_23922 : MethodName := ⟨RJ0, "checkBoundsBeginEnd", "(III)V"⟩
def RJ4 : String := "java/lang/StringBuilder"
def TJ4 : u_T := fun k => match k with
  | 0 => ("java/lang/AbstractStringBuilder", "value", "[B", false)
  | 1 => ("java/lang/AbstractStringBuilder", "coder", "B", false)
  | 2 => ("java/lang/AbstractStringBuilder", "maybeLatin1", "Z", false)
  | _ => ("java/lang/AbstractStringBuilder", "count", "I", false)
def tyJ4 : Nat → FieldType := fun k => match k with
  | 0 => .array .byte
  | 1 => .byte
  | 2 => .boolean
  | _ => .int
abbrev wsJ40 : List Cond := u_ws RJ4 TJ4 4
theorem nmJ4 : ∀ a, a < 4 → ∀ b, b < 4 → a ≠ b → (TJ4 a).2.1 ≠ (TJ4 b).2.1 := by decide +kernel
theorem tyJ4_ok : ∀ k, k < 4 → parseFieldDescriptor (TJ4 k).2.2.1 = some (tyJ4 k) := by decide +kernel
abbrev cJ4_init_da8c8 : ByteArray := prog_34_method_1_code
def yJ4_init_da8c8 : MethodName := ⟨RJ4, "<init>", "()V"⟩
abbrev cJ4_append_15ec4 : ByteArray := prog_34_method_7_code
def yJ4_append_15ec4 : MethodName := ⟨RJ4, "append", "(Ljava/lang/String;)Ljava/lang/StringBuilder;"⟩
abbrev cJ4_append_cf468 : ByteArray := prog_34_method_14_code
def yJ4_append_cf468 : MethodName := ⟨RJ4, "append", "(C)Ljava/lang/StringBuilder;"⟩
abbrev cJ4_append_bf812 : ByteArray := prog_34_method_15_code
def yJ4_append_bf812 : MethodName := ⟨RJ4, "append", "(I)Ljava/lang/StringBuilder;"⟩
abbrev cJ4_toString_0e30d : ByteArray := prog_34_method_42_code
def yJ4_toString_0e30d : MethodName := ⟨RJ4, "toString", "()Ljava/lang/String;"⟩
abbrev cJ4_charAt_5068e : ByteArray := prog_34_method_88_code
def yJ4_charAt_5068e : MethodName := ⟨RJ4, "charAt", "(I)C"⟩
abbrev cJ4_setLength_d00df : ByteArray := prog_34_method_89_code
def yJ4_setLength_d00df : MethodName := ⟨RJ4, "setLength", "(I)V"⟩
abbrev cJ4_length_8abf5 : ByteArray := prog_34_method_93_code
def yJ4_length_8abf5 : MethodName := ⟨RJ4, "length", "()I"⟩
def RJx7c733 : String := "java/lang/StringIndexOutOfBoundsException"
def TJx7c733 : u_T := fun k => match k with
  | 0 => ("java/lang/Throwable", "backtrace", "Ljava/lang/Object;", false)
  | 1 => ("java/lang/Throwable", "detailMessage", "Ljava/lang/String;", false)
  | 2 => ("java/lang/Throwable", "cause", "Ljava/lang/Throwable;", false)
  | 3 => ("java/lang/Throwable", "stackTrace", "[Ljava/lang/StackTraceElement;", false)
  | 4 => ("java/lang/Throwable", "depth", "I", false)
  | _ => ("java/lang/Throwable", "suppressedExceptions", "Ljava/util/List;", false)
def tyJx7c733 : Nat → FieldType := fun k => match k with
  | 0 => .object "java/lang/Object"
  | 1 => .object "java/lang/String"
  | 2 => .object "java/lang/Throwable"
  | 3 => .array (.object "java/lang/StackTraceElement")
  | 4 => .int
  | _ => .object "java/util/List"
abbrev wsJx7c7330 : List Cond := u_ws RJx7c733 TJx7c733 6
theorem nmJx7c733 : ∀ a, a < 6 → ∀ b, b < 6 → a ≠ b → (TJx7c733 a).2.1 ≠ (TJx7c733 b).2.1 := by decide +kernel
theorem tyJx7c733_ok : ∀ k, k < 6 → parseFieldDescriptor (TJx7c733 k).2.2.1 = some (tyJx7c733 k) := by decide +kernel
abbrev cJx7c733_init_d00df : ByteArray := prog_35_method_3_code
def yJx7c733_init_d00df : MethodName := ⟨RJx7c733, "<init>", "(I)V"⟩
def RJ1 : String := "java/lang/StringLatin1"
def TJ1 : u_T := fun k => match k with
  | _ => ("", "", "", false)
def tyJ1 : Nat → FieldType := fun k => match k with
  | _ => .int
abbrev wsJ10 : List Cond := u_ws RJ1 TJ1 0
theorem nmJ1 : ∀ a, a < 0 → ∀ b, b < 0 → a ≠ b → (TJ1 a).2.1 ≠ (TJ1 b).2.1 := by decide +kernel
theorem tyJ1_ok : ∀ k, k < 0 → parseFieldDescriptor (TJ1 k).2.2.1 = some (tyJ1 k) := by decide +kernel
abbrev cJ1_charAt_3b067 : ByteArray := prog_36_method_2_code
def yJ1_charAt_3b067 : MethodName := ⟨RJ1, "charAt", "([BI)C"⟩
abbrev cJ1_canEncode_fc78d : ByteArray := prog_36_method_3_code
def yJ1_canEncode_fc78d : MethodName := ⟨RJ1, "canEncode", "(C)Z"⟩
abbrev cJ1_fillNull_b72d1 : ByteArray := prog_36_method_48_code
def yJ1_fillNull_b72d1 : MethodName := ⟨RJ1, "fillNull", "([BII)V"⟩
abbrev cJ1_inflate_0e8fd : ByteArray := prog_36_method_50_code
def yJ1_inflate_0e8fd : MethodName := ⟨RJ1, "inflate", "([BI[BII)V"⟩
def RJ2 : String := "java/lang/StringUTF16"
def TJ2 : u_T := fun k => match k with
  | _ => ("", "", "", false)
def tyJ2 : Nat → FieldType := fun k => match k with
  | _ => .int
abbrev wsJ20 : List Cond := u_ws RJ2 TJ2 0
theorem nmJ2 : ∀ a, a < 0 → ∀ b, b < 0 → a ≠ b → (TJ2 a).2.1 ≠ (TJ2 b).2.1 := by decide +kernel
theorem tyJ2_ok : ∀ k, k < 0 → parseFieldDescriptor (TJ2 k).2.2.1 = some (tyJ2 k) := by decide +kernel
abbrev cJ2_newBytesFor_77867 : ByteArray := prog_37_method_2_code
def yJ2_newBytesFor_77867 : MethodName := ⟨RJ2, "newBytesFor", "(I)[B"⟩
abbrev cJ2_newBytesLength_0f7a4 : ByteArray := prog_37_method_3_code
def yJ2_newBytesLength_0f7a4 : MethodName := ⟨RJ2, "newBytesLength", "(I)I"⟩
abbrev cJ2_putChar_b72d1 : ByteArray := prog_37_method_4_code
def yJ2_putChar_b72d1 : MethodName := ⟨RJ2, "putChar", "([BII)V"⟩
abbrev cJ2_getChar_3b067 : ByteArray := prog_37_method_5_code
def yJ2_getChar_3b067 : MethodName := ⟨RJ2, "getChar", "([BI)C"⟩
abbrev cJ2_length_9d52b : ByteArray := prog_37_method_6_code
def yJ2_length_9d52b : MethodName := ⟨RJ2, "length", "([B)I"⟩
abbrev cJ2_coderFromArrayLen_85cad : ByteArray := prog_37_method_15_code
def yJ2_coderFromArrayLen_85cad : MethodName := ⟨RJ2, "coderFromArrayLen", "([BI)B"⟩
abbrev cJ2_compress_39247 : ByteArray := prog_37_method_17_code
def yJ2_compress_39247 : MethodName := ⟨RJ2, "compress", "([BII)[B"⟩
abbrev cJ2_compress_5af95 : ByteArray := prog_37_method_22_code
def yJ2_compress_5af95 : MethodName := ⟨RJ2, "compress", "([BI[BII)I"⟩
abbrev cJ2_fillNull_b72d1 : ByteArray := prog_37_method_70_code
def yJ2_fillNull_b72d1 : MethodName := ⟨RJ2, "fillNull", "([BII)V"⟩
abbrev cJ2_putCharSB_b72d1 : ByteArray := prog_37_method_71_code
def yJ2_putCharSB_b72d1 : MethodName := ⟨RJ2, "putCharSB", "([BII)V"⟩
abbrev cJ2_getChars_46870 : ByteArray := prog_37_method_77_code
def yJ2_getChars_46870 : MethodName := ⟨RJ2, "getChars", "(III[B)I"⟩
abbrev cJ2_putCharsAt_cd4e5 : ByteArray := prog_37_method_81_code
def yJ2_putCharsAt_cd4e5 : MethodName := ⟨RJ2, "putCharsAt", "([BICCCC)I"⟩
abbrev cJ2_charAt_3b067 : ByteArray := prog_37_method_83_code
def yJ2_charAt_3b067 : MethodName := ⟨RJ2, "charAt", "([BI)C"⟩
abbrev cJ2_inflate_0e8fd : ByteArray := prog_37_method_86_code
def yJ2_inflate_0e8fd : MethodName := ⟨RJ2, "inflate", "([BI[BII)V"⟩
abbrev cJ2_getChars_ba4f3 : ByteArray := prog_37_method_89_code
def yJ2_getChars_ba4f3 : MethodName := ⟨RJ2, "getChars", "(II[B)I"⟩
abbrev cJ2_checkIndex_2214a : ByteArray := prog_37_method_91_code
def yJ2_checkIndex_2214a : MethodName := ⟨RJ2, "checkIndex", "(I[B)V"⟩
abbrev cJ2_checkBoundsBeginEnd_d044e : ByteArray := prog_37_method_93_code
def yJ2_checkBoundsBeginEnd_d044e : MethodName := ⟨RJ2, "checkBoundsBeginEnd", "(II[B)V"⟩
abbrev cJ2_checkBoundsOffCount_d044e : ByteArray := prog_37_method_94_code
def yJ2_checkBoundsOffCount_d044e : MethodName := ⟨RJ2, "checkBoundsOffCount", "(II[B)V"⟩
def RJ10 : String := "java/lang/System"
def TJ10 : u_T := fun k => match k with
  | _ => ("", "", "", false)
def tyJ10 : Nat → FieldType := fun k => match k with
  | _ => .int
abbrev wsJ100 : List Cond := u_ws RJ10 TJ10 0
theorem nmJ10 : ∀ a, a < 0 → ∀ b, b < 0 → a ≠ b → (TJ10 a).2.1 ≠ (TJ10 b).2.1 := by decide +kernel
theorem tyJ10_ok : ∀ k, k < 0 → parseFieldDescriptor (TJ10 k).2.2.1 = some (tyJ10 k) := by decide +kernel
def RJxfd54e : String := "java/lang/constant/Constable"
def TJxfd54e : u_T := fun k => match k with
  | _ => ("", "", "", false)
def tyJxfd54e : Nat → FieldType := fun k => match k with
  | _ => .int
abbrev wsJxfd54e0 : List Cond := u_ws RJxfd54e TJxfd54e 0
theorem nmJxfd54e : ∀ a, a < 0 → ∀ b, b < 0 → a ≠ b → (TJxfd54e a).2.1 ≠ (TJxfd54e b).2.1 := by decide +kernel
theorem tyJxfd54e_ok : ∀ k, k < 0 → parseFieldDescriptor (TJxfd54e k).2.2.1 = some (tyJxfd54e k) := by decide +kernel
def RJx3cf43 : String := "java/lang/constant/ConstantDesc"
def TJx3cf43 : u_T := fun k => match k with
  | _ => ("", "", "", false)
def tyJx3cf43 : Nat → FieldType := fun k => match k with
  | _ => .int
abbrev wsJx3cf430 : List Cond := u_ws RJx3cf43 TJx3cf43 0
theorem nmJx3cf43 : ∀ a, a < 0 → ∀ b, b < 0 → a ≠ b → (TJx3cf43 a).2.1 ≠ (TJx3cf43 b).2.1 := by decide +kernel
theorem tyJx3cf43_ok : ∀ k, k < 0 → parseFieldDescriptor (TJx3cf43 k).2.2.1 = some (tyJx3cf43 k) := by decide +kernel
def RJxa1e45 : String := "java/util/AbstractCollection"
def TJxa1e45 : u_T := fun k => match k with
  | _ => ("", "", "", false)
def tyJxa1e45 : Nat → FieldType := fun k => match k with
  | _ => .int
abbrev wsJxa1e450 : List Cond := u_ws RJxa1e45 TJxa1e45 0
theorem nmJxa1e45 : ∀ a, a < 0 → ∀ b, b < 0 → a ≠ b → (TJxa1e45 a).2.1 ≠ (TJxa1e45 b).2.1 := by decide +kernel
theorem tyJxa1e45_ok : ∀ k, k < 0 → parseFieldDescriptor (TJxa1e45 k).2.2.1 = some (tyJxa1e45 k) := by decide +kernel
abbrev cJxa1e45_init_da8c8 : ByteArray := prog_43_method_1_code
def yJxa1e45_init_da8c8 : MethodName := ⟨RJxa1e45, "<init>", "()V"⟩
def RJxc12de : String := "java/util/AbstractList"
def TJxc12de : u_T := fun k => match k with
  | _ => ("", "", "", false)
def tyJxc12de : Nat → FieldType := fun k => match k with
  | _ => .int
abbrev wsJxc12de0 : List Cond := u_ws RJxc12de TJxc12de 0
theorem nmJxc12de : ∀ a, a < 0 → ∀ b, b < 0 → a ≠ b → (TJxc12de a).2.1 ≠ (TJxc12de b).2.1 := by decide +kernel
theorem tyJxc12de_ok : ∀ k, k < 0 → parseFieldDescriptor (TJxc12de k).2.2.1 = some (tyJxc12de k) := by decide +kernel
abbrev cJxc12de_init_da8c8 : ByteArray := prog_44_method_1_code
def yJxc12de_init_da8c8 : MethodName := ⟨RJxc12de, "<init>", "()V"⟩
def RJx35411 : String := "java/util/ArrayList$Itr"
def TJx35411 : u_T := fun k => match k with
  | 0 => ("java/util/ArrayList$Itr", "cursor", "I", false)
  | 1 => ("java/util/ArrayList$Itr", "lastRet", "I", false)
  | 2 => ("java/util/ArrayList$Itr", "expectedModCount", "I", false)
  | _ => ("java/util/ArrayList$Itr", "this$0", "Ljava/util/ArrayList;", true)
def tyJx35411 : Nat → FieldType := fun k => match k with
  | 0 => .int
  | 1 => .int
  | 2 => .int
  | _ => .object "java/util/ArrayList"
abbrev wsJx354110 : List Cond := u_ws RJx35411 TJx35411 4
theorem nmJx35411 : ∀ a, a < 4 → ∀ b, b < 4 → a ≠ b → (TJx35411 a).2.1 ≠ (TJx35411 b).2.1 := by decide +kernel
theorem tyJx35411_ok : ∀ k, k < 4 → parseFieldDescriptor (TJx35411 k).2.2.1 = some (tyJx35411 k) := by decide +kernel
abbrev cJx35411_init_45d68 : ByteArray := prog_46_method_1_code
def yJx35411_init_45d68 : MethodName := ⟨RJx35411, "<init>", "(Ljava/util/ArrayList;)V"⟩
abbrev cJx35411_hasNext_aae02 : ByteArray := prog_46_method_2_code
def yJx35411_hasNext_aae02 : MethodName := ⟨RJx35411, "hasNext", "()Z"⟩
abbrev cJx35411_next_0502b : ByteArray := prog_46_method_3_code
def yJx35411_next_0502b : MethodName := ⟨RJx35411, "next", "()Ljava/lang/Object;"⟩
abbrev cJx35411_checkForComodification_da8c8 : ByteArray := prog_46_method_6_code
def yJx35411_checkForComodification_da8c8 : MethodName := ⟨RJx35411, "checkForComodification", "()V"⟩
def RJx4a65c : String := "java/util/ArrayList"
def TJx4a65c : u_T := fun k => match k with
  | 0 => ("java/util/AbstractList", "modCount", "I", false)
  | 1 => ("java/util/ArrayList", "elementData", "[Ljava/lang/Object;", false)
  | _ => ("java/util/ArrayList", "size", "I", false)
def tyJx4a65c : Nat → FieldType := fun k => match k with
  | 0 => .int
  | 1 => .array (.object "java/lang/Object")
  | _ => .int
abbrev wsJx4a65c0 : List Cond := u_ws RJx4a65c TJx4a65c 3
theorem nmJx4a65c : ∀ a, a < 3 → ∀ b, b < 3 → a ≠ b → (TJx4a65c a).2.1 ≠ (TJx4a65c b).2.1 := by decide +kernel
theorem tyJx4a65c_ok : ∀ k, k < 3 → parseFieldDescriptor (TJx4a65c k).2.2.1 = some (tyJx4a65c k) := by decide +kernel
abbrev cJx4a65c_init_da8c8 : ByteArray := prog_45_method_2_code
def yJx4a65c_init_da8c8 : MethodName := ⟨RJx4a65c, "<init>", "()V"⟩
abbrev cJx4a65c_grow_92f84 : ByteArray := prog_45_method_6_code
def yJx4a65c_grow_92f84 : MethodName := ⟨RJx4a65c, "grow", "(I)[Ljava/lang/Object;"⟩
abbrev cJx4a65c_grow_d5877 : ByteArray := prog_45_method_7_code
def yJx4a65c_grow_d5877 : MethodName := ⟨RJx4a65c, "grow", "()[Ljava/lang/Object;"⟩
abbrev cJx4a65c_add_72be8 : ByteArray := prog_45_method_24_code
def yJx4a65c_add_72be8 : MethodName := ⟨RJx4a65c, "add", "(Ljava/lang/Object;[Ljava/lang/Object;I)V"⟩
abbrev cJx4a65c_add_9ea2d : ByteArray := prog_45_method_25_code
def yJx4a65c_add_9ea2d : MethodName := ⟨RJx4a65c, "add", "(Ljava/lang/Object;)Z"⟩
abbrev cJx4a65c_iterator_32c93 : ByteArray := prog_45_method_55_code
def yJx4a65c_iterator_32c93 : MethodName := ⟨RJx4a65c, "iterator", "()Ljava/util/Iterator;"⟩
def RJ7 : String := "java/util/Arrays"
def TJ7 : u_T := fun k => match k with
  | _ => ("", "", "", false)
def tyJ7 : Nat → FieldType := fun k => match k with
  | _ => .int
abbrev wsJ70 : List Cond := u_ws RJ7 TJ7 0
theorem nmJ7 : ∀ a, a < 0 → ∀ b, b < 0 → a ≠ b → (TJ7 a).2.1 ≠ (TJ7 b).2.1 := by decide +kernel
theorem tyJ7_ok : ∀ k, k < 0 → parseFieldDescriptor (TJ7 k).2.2.1 = some (tyJ7 k) := by decide +kernel
abbrev cJ7_rangeCheck_23922 : ByteArray := prog_47_method_30_code
def yJ7_rangeCheck_23922 : MethodName := ⟨RJ7, "rangeCheck", "(III)V"⟩
abbrev cJ7_fill_53178 : ByteArray := prog_47_method_103_code
def yJ7_fill_53178 : MethodName := ⟨RJ7, "fill", "([II)V"⟩
abbrev cJ7_fill_eb02e : ByteArray := prog_47_method_110_code
def yJ7_fill_eb02e : MethodName := ⟨RJ7, "fill", "([BIIB)V"⟩
abbrev cJ7_copyOf_1904c : ByteArray := prog_47_method_119_code
def yJ7_copyOf_1904c : MethodName := ⟨RJ7, "copyOf", "([Ljava/lang/Object;I)[Ljava/lang/Object;"⟩
abbrev cJ7_copyOf_6403c : ByteArray := prog_47_method_120_code
def yJ7_copyOf_6403c : MethodName := ⟨RJ7, "copyOf", "([Ljava/lang/Object;ILjava/lang/Class;)[Ljava/lang/Object;"⟩
abbrev cJ7_copyOf_9075b : ByteArray := prog_47_method_121_code
def yJ7_copyOf_9075b : MethodName := ⟨RJ7, "copyOf", "([BI)[B"⟩
abbrev cJ7_checkLength_df160 : ByteArray := prog_47_method_131_code
def yJ7_checkLength_df160 : MethodName := ⟨RJ7, "checkLength", "(II)V"⟩
abbrev cJ7_copyOfRange_39247 : ByteArray := prog_47_method_132_code
def yJ7_copyOfRange_39247 : MethodName := ⟨RJ7, "copyOfRange", "([BII)[B"⟩
abbrev cJ7_copyOfRangeByte_39247 : ByteArray := prog_47_method_133_code
def yJ7_copyOfRangeByte_39247 : MethodName := ⟨RJ7, "copyOfRangeByte", "([BII)[B"⟩
def RJx5ef63 : String := "java/util/Collection"
def TJx5ef63 : u_T := fun k => match k with
  | _ => ("", "", "", false)
def tyJx5ef63 : Nat → FieldType := fun k => match k with
  | _ => .int
abbrev wsJx5ef630 : List Cond := u_ws RJx5ef63 TJx5ef63 0
theorem nmJx5ef63 : ∀ a, a < 0 → ∀ b, b < 0 → a ≠ b → (TJx5ef63 a).2.1 ≠ (TJx5ef63 b).2.1 := by decide +kernel
theorem tyJx5ef63_ok : ∀ k, k < 0 → parseFieldDescriptor (TJx5ef63 k).2.2.1 = some (tyJx5ef63 k) := by decide +kernel
def RJx4d0d8 : String := "java/util/Iterator"
def TJx4d0d8 : u_T := fun k => match k with
  | _ => ("", "", "", false)
def tyJx4d0d8 : Nat → FieldType := fun k => match k with
  | _ => .int
abbrev wsJx4d0d80 : List Cond := u_ws RJx4d0d8 TJx4d0d8 0
theorem nmJx4d0d8 : ∀ a, a < 0 → ∀ b, b < 0 → a ≠ b → (TJx4d0d8 a).2.1 ≠ (TJx4d0d8 b).2.1 := by decide +kernel
theorem tyJx4d0d8_ok : ∀ k, k < 0 → parseFieldDescriptor (TJx4d0d8 k).2.2.1 = some (tyJx4d0d8 k) := by decide +kernel
def RJxbd725 : String := "java/util/List"
def TJxbd725 : u_T := fun k => match k with
  | _ => ("", "", "", false)
def tyJxbd725 : Nat → FieldType := fun k => match k with
  | _ => .int
abbrev wsJxbd7250 : List Cond := u_ws RJxbd725 TJxbd725 0
theorem nmJxbd725 : ∀ a, a < 0 → ∀ b, b < 0 → a ≠ b → (TJxbd725 a).2.1 ≠ (TJxbd725 b).2.1 := by decide +kernel
theorem tyJxbd725_ok : ∀ k, k < 0 → parseFieldDescriptor (TJxbd725 k).2.2.1 = some (tyJxbd725 k) := by decide +kernel
def RJxf0a74 : String := "java/util/RandomAccess"
def TJxf0a74 : u_T := fun k => match k with
  | _ => ("", "", "", false)
def tyJxf0a74 : Nat → FieldType := fun k => match k with
  | _ => .int
abbrev wsJxf0a740 : List Cond := u_ws RJxf0a74 TJxf0a74 0
theorem nmJxf0a74 : ∀ a, a < 0 → ∀ b, b < 0 → a ≠ b → (TJxf0a74 a).2.1 ≠ (TJxf0a74 b).2.1 := by decide +kernel
theorem tyJxf0a74_ok : ∀ k, k < 0 → parseFieldDescriptor (TJxf0a74 k).2.2.1 = some (tyJxf0a74 k) := by decide +kernel
def RJxa66e6 : String := "java/util/SequencedCollection"
def TJxa66e6 : u_T := fun k => match k with
  | _ => ("", "", "", false)
def tyJxa66e6 : Nat → FieldType := fun k => match k with
  | _ => .int
abbrev wsJxa66e60 : List Cond := u_ws RJxa66e6 TJxa66e6 0
theorem nmJxa66e6 : ∀ a, a < 0 → ∀ b, b < 0 → a ≠ b → (TJxa66e6 a).2.1 ≠ (TJxa66e6 b).2.1 := by decide +kernel
theorem tyJxa66e6_ok : ∀ k, k < 0 → parseFieldDescriptor (TJxa66e6 k).2.2.1 = some (tyJxa66e6 k) := by decide +kernel
def RJ8 : String := "jdk/internal/util/ArraysSupport"
def TJ8 : u_T := fun k => match k with
  | _ => ("", "", "", false)
def tyJ8 : Nat → FieldType := fun k => match k with
  | _ => .int
abbrev wsJ80 : List Cond := u_ws RJ8 TJ8 0
theorem nmJ8 : ∀ a, a < 0 → ∀ b, b < 0 → a ≠ b → (TJ8 a).2.1 ≠ (TJ8 b).2.1 := by decide +kernel
theorem tyJ8_ok : ∀ k, k < 0 → parseFieldDescriptor (TJ8 k).2.2.1 = some (tyJ8 k) := by decide +kernel
abbrev cJ8_newLength_cabcc : ByteArray := prog_54_method_27_code
def yJ8_newLength_cabcc : MethodName := ⟨RJ8, "newLength", "(III)I"⟩
abbrev cJ8_hugeLength_7cf53 : ByteArray := prog_54_method_28_code
def yJ8_hugeLength_7cf53 : MethodName := ⟨RJ8, "hugeLength", "(II)I"⟩
def RJ3 : String := "jdk/internal/util/Preconditions"
def TJ3 : u_T := fun k => match k with
  | _ => ("", "", "", false)
def tyJ3 : Nat → FieldType := fun k => match k with
  | _ => .int
abbrev wsJ30 : List Cond := u_ws RJ3 TJ3 0
theorem nmJ3 : ∀ a, a < 0 → ∀ b, b < 0 → a ≠ b → (TJ3 a).2.1 ≠ (TJ3 b).2.1 := by decide +kernel
theorem tyJ3_ok : ∀ k, k < 0 → parseFieldDescriptor (TJ3 k).2.2.1 = some (tyJ3 k) := by decide +kernel
abbrev cJ3_checkIndex_8e157 : ByteArray := prog_55_method_11_code
def yJ3_checkIndex_8e157 : MethodName := ⟨RJ3, "checkIndex", "(IILjava/util/function/BiFunction;)I"⟩
abbrev cJ3_checkFromToIndex_8c36e : ByteArray := prog_55_method_12_code
def yJ3_checkFromToIndex_8c36e : MethodName := ⟨RJ3, "checkFromToIndex", "(IIILjava/util/function/BiFunction;)I"⟩
abbrev cJ3_checkFromIndexSize_8c36e : ByteArray := prog_55_method_13_code
def yJ3_checkFromIndexSize_8c36e : MethodName := ⟨RJ3, "checkFromIndexSize", "(IIILjava/util/function/BiFunction;)I"⟩
def RL : String := "MoonFerryOfficeLaw"
abbrev cL_at : ByteArray := method_2_code
def yL_at : MethodName := ⟨RL, "at", "([II)I"⟩
abbrev cL_put : ByteArray := method_3_code
def yL_put : MethodName := ⟨RL, "put", "(LMoonFerryOffice;Ljava/lang/String;)V"⟩
abbrev cL_build : ByteArray := method_4_code
def yL_build : MethodName := ⟨RL, "build", "([I)LMoonFerryOffice;"⟩
abbrev cL_channel : ByteArray := method_5_code
def yL_channel : MethodName := ⟨RL, "channel", "(LMoonFerryOffice;IIII)I"⟩
abbrev cL_moon : ByteArray := method_6_code
def yL_moon : MethodName := ⟨RL, "moon", "(LMoonFerryOffice;IIII)I"⟩
abbrev cL_act : ByteArray := method_7_code
def yL_act : MethodName := ⟨RL, "act", "(LMoonFerryOffice;IIII)I"⟩
abbrev cL_moons : ByteArray := method_8_code
def yL_moons : MethodName := ⟨RL, "moons", "(LMoonFerryOffice;)Ljava/util/ArrayList;"⟩
abbrev cL_ferries : ByteArray := method_9_code
def yL_ferries : MethodName := ⟨RL, "ferries", "(LMoonFerryOffice;)I"⟩
abbrev cL_state : ByteArray := method_11_code
def yL_state : MethodName := ⟨RL, "state", "(LMoonFerryOffice;)I"⟩
abbrev cL_law : ByteArray := code
def yL_law : MethodName := ⟨RL, "law", "([I)Z"⟩
abbrev cL_isLine : ByteArray := method_13_code
def yL_isLine : MethodName := ⟨RL, "isLine", "(LMoonFerryOffice;ILjava/lang/String;)Z"⟩
abbrev cL_runs : ByteArray := method_14_code
def yL_runs : MethodName := ⟨RL, "runs", "(LMoonFerryOffice;)I"⟩
abbrev cL_fails : ByteArray := method_15_code
def yL_fails : MethodName := ⟨RL, "fails", "(LMoonFerryOffice;Ljava/lang/String;I)Z"⟩
abbrev vwCl : List vw_C := [(RJ0, TJ0, 4), (RJ4, TJ4, 4), (RJx00060, TJx00060, 6), (RJx7c733, TJx7c733, 6), (RX0, TX0, 6), (RX1, TX1, 5), (RX2, TX2, 4), (RX3, TX3, 9), (RX4, TX4, 11), (RX5, TX5, 2), (RX6, TX6, 9), (RX7, TX7, 9), (RX8, TX8, 6), (RX9, TX9, 7), (RX10, TX10, 8), (RX11, TX11, 13), (RJx4a65c, TJx4a65c, 3), (RJx35411, TJx35411, 4), (RJ6, TJ6, 1)]
