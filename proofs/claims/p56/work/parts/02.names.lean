
/-! ===== BEGIN printed: names, fields, word lists, decode rows ===== -/
def RX0 : String := "CanalLocks$EventLog"
def TX0 : u_T := fun k => match k with
  | 0 => ("CanalLocks$EventLog", "kinds", "[C", true)
  | 1 => ("CanalLocks$EventLog", "numbers", "[I", true)
  | 2 => ("CanalLocks$EventLog", "next", "I", false)
  | _ => ("CanalLocks$EventLog", "count", "I", false)
def tyX0 : Nat → FieldType := fun k => match k with
  | 0 => .array .char
  | 1 => .array .int
  | 2 => .int
  | _ => .int
abbrev wsX00 : List Cond := u_ws RX0 TX0 4
theorem nmX0 : ∀ a, a < 4 → ∀ b, b < 4 → a ≠ b → (TX0 a).2.1 ≠ (TX0 b).2.1 := by decide +kernel
theorem tyX0_ok : ∀ k, k < 4 → parseFieldDescriptor (TX0 k).2.2.1 = some (tyX0 k) := by decide +kernel
abbrev cX0_init : ByteArray := prog_2_method_1_code
def yX0_init : MethodName := ⟨RX0, "<init>", "()V"⟩
abbrev cX0_copyEvents : ByteArray := prog_2_method_2_code
def yX0_copyEvents : MethodName := ⟨RX0, "copyEvents", "(LCanalLocks$EventLog;)V"⟩
abbrev cX0_note : ByteArray := prog_2_method_3_code
def yX0_note : MethodName := ⟨RX0, "note", "(CI)V"⟩
abbrev cX0_placeOf : ByteArray := prog_2_method_4_code
def yX0_placeOf : MethodName := ⟨RX0, "placeOf", "(I)I"⟩
def RX1 : String := "CanalLocks$Fleet"
def TX1 : u_T := fun k => match k with
  | 0 => ("CanalLocks$Fleet", "count", "I", false)
  | 1 => ("CanalLocks$Fleet", "added", "I", false)
  | 2 => ("CanalLocks$Fleet", "colours", "[I", true)
  | 3 => ("CanalLocks$Fleet", "draughts", "[I", true)
  | 4 => ("CanalLocks$Fleet", "goesDown", "[Z", true)
  | 5 => ("CanalLocks$Fleet", "basins", "[I", true)
  | 6 => ("CanalLocks$Fleet", "serials", "[I", true)
  | _ => ("CanalLocks$Fleet", "left", "[I", true)
def tyX1 : Nat → FieldType := fun k => match k with
  | 0 => .int
  | 1 => .int
  | 2 => .array .int
  | 3 => .array .int
  | 4 => .array .boolean
  | 5 => .array .int
  | 6 => .array .int
  | _ => .array .int
abbrev wsX10 : List Cond := u_ws RX1 TX1 8
theorem nmX1 : ∀ a, a < 8 → ∀ b, b < 8 → a ≠ b → (TX1 a).2.1 ≠ (TX1 b).2.1 := by decide +kernel
theorem tyX1_ok : ∀ k, k < 8 → parseFieldDescriptor (TX1 k).2.2.1 = some (tyX1 k) := by decide +kernel
abbrev cX1_init : ByteArray := prog_3_method_1_code
def yX1_init : MethodName := ⟨RX1, "<init>", "()V"⟩
abbrev cX1_copyFleet : ByteArray := prog_3_method_2_code
def yX1_copyFleet : MethodName := ⟨RX1, "copyFleet", "(LCanalLocks$Fleet;)V"⟩
abbrev cX1_put : ByteArray := prog_3_method_3_code
def yX1_put : MethodName := ⟨RX1, "put", "(IIZ)I"⟩
abbrev cX1_signOf : ByteArray := prog_3_method_4_code
def yX1_signOf : MethodName := ⟨RX1, "signOf", "(I)C"⟩
abbrev cX1_countIn : ByteArray := prog_3_method_5_code
def yX1_countIn : MethodName := ⟨RX1, "countIn", "(I)I"⟩
abbrev cX1_hasRoom : ByteArray := prog_3_method_6_code
def yX1_hasRoom : MethodName := ⟨RX1, "hasRoom", "(I)Z"⟩
abbrev cX1_isWithinRoom : ByteArray := prog_3_method_7_code
def yX1_isWithinRoom : MethodName := ⟨RX1, "isWithinRoom", "()Z"⟩
abbrev cX1_rankOfBoat : ByteArray := prog_3_method_8_code
def yX1_rankOfBoat : MethodName := ⟨RX1, "rankOfBoat", "(I)I"⟩
abbrev cX1_gateAhead : ByteArray := prog_3_method_10_code
def yX1_gateAhead : MethodName := ⟨RX1, "gateAhead", "(I)I"⟩
abbrev cX1_basinAhead : ByteArray := prog_3_method_11_code
def yX1_basinAhead : MethodName := ⟨RX1, "basinAhead", "(I)I"⟩
abbrev cX1_hasArrived : ByteArray := prog_3_method_12_code
def yX1_hasArrived : MethodName := ⟨RX1, "hasArrived", "(I)Z"⟩
abbrev cX1_removeArrived : ByteArray := prog_3_method_13_code
def yX1_removeArrived : MethodName := ⟨RX1, "removeArrived", "()I"⟩
abbrev cX1_copyBoat : ByteArray := prog_3_method_14_code
def yX1_copyBoat : MethodName := ⟨RX1, "copyBoat", "(LCanalLocks$Fleet;II)V"⟩
def RX2 : String := "CanalLocks$Flight"
def TX2 : u_T := fun k => match k with
  | 0 => ("CanalLocks$Flight", "water", "LCanalLocks$Water;", true)
  | 1 => ("CanalLocks$Flight", "fleet", "LCanalLocks$Fleet;", true)
  | 2 => ("CanalLocks$Flight", "events", "LCanalLocks$EventLog;", true)
  | _ => ("CanalLocks$Flight", "time", "I", false)
def tyX2 : Nat → FieldType := fun k => match k with
  | 0 => .object "CanalLocks$Water"
  | 1 => .object "CanalLocks$Fleet"
  | 2 => .object "CanalLocks$EventLog"
  | _ => .int
abbrev wsX20 : List Cond := u_ws RX2 TX2 4
theorem nmX2 : ∀ a, a < 4 → ∀ b, b < 4 → a ≠ b → (TX2 a).2.1 ≠ (TX2 b).2.1 := by decide +kernel
theorem tyX2_ok : ∀ k, k < 4 → parseFieldDescriptor (TX2 k).2.2.1 = some (tyX2 k) := by decide +kernel
abbrev cX2_init : ByteArray := prog_4_method_1_code
def yX2_init : MethodName := ⟨RX2, "<init>", "()V"⟩
abbrev cX2_copyFrom : ByteArray := prog_4_method_2_code
def yX2_copyFrom : MethodName := ⟨RX2, "copyFrom", "(LCanalLocks$Flight;)V"⟩
abbrev cX2_faultOf : ByteArray := prog_4_method_3_code
def yX2_faultOf : MethodName := ⟨RX2, "faultOf", "(III)I"⟩
abbrev cX2_faultOfBoat : ByteArray := prog_4_method_4_code
def yX2_faultOfBoat : MethodName := ⟨RX2, "faultOfBoat", "(II)I"⟩
abbrev cX2_faultOfValve : ByteArray := prog_4_method_5_code
def yX2_faultOfValve : MethodName := ⟨RX2, "faultOfValve", "(II)I"⟩
abbrev cX2_faultOfOpening : ByteArray := prog_4_method_6_code
def yX2_faultOfOpening : MethodName := ⟨RX2, "faultOfOpening", "(I)I"⟩
abbrev cX2_faultOfShutting : ByteArray := prog_4_method_7_code
def yX2_faultOfShutting : MethodName := ⟨RX2, "faultOfShutting", "(I)I"⟩
abbrev cX2_act : ByteArray := prog_4_method_8_code
def yX2_act : MethodName := ⟨RX2, "act", "(IIII)I"⟩
abbrev cX2_turnValve : ByteArray := prog_4_method_9_code
def yX2_turnValve : MethodName := ⟨RX2, "turnValve", "(II)I"⟩
abbrev cX2_moveGate : ByteArray := prog_4_method_10_code
def yX2_moveGate : MethodName := ⟨RX2, "moveGate", "(IZ)I"⟩
abbrev cX2_changeRain : ByteArray := prog_4_method_11_code
def yX2_changeRain : MethodName := ⟨RX2, "changeRain", "(I)I"⟩
abbrev cX2_changeDrain : ByteArray := prog_4_method_12_code
def yX2_changeDrain : MethodName := ⟨RX2, "changeDrain", "(I)I"⟩
abbrev cX2_passMinutes : ByteArray := prog_4_method_13_code
def yX2_passMinutes : MethodName := ⟨RX2, "passMinutes", "(I)I"⟩
abbrev cX2_passWeather : ByteArray := prog_4_method_14_code
def yX2_passWeather : MethodName := ⟨RX2, "passWeather", "()V"⟩
abbrev cX2_passGates : ByteArray := prog_4_method_15_code
def yX2_passGates : MethodName := ⟨RX2, "passGates", "()V"⟩
abbrev cX2_mayPass : ByteArray := prog_4_method_16_code
def yX2_mayPass : MethodName := ⟨RX2, "mayPass", "(II)Z"⟩
abbrev cX2_pass : ByteArray := prog_4_method_17_code
def yX2_pass : MethodName := ⟨RX2, "pass", "(I)V"⟩
def RX3 : String := "CanalLocks$History"
def TX3 : u_T := fun k => match k with
  | 0 => ("CanalLocks$History", "flights", "[LCanalLocks$Flight;", true)
  | 1 => ("CanalLocks$History", "next", "I", false)
  | _ => ("CanalLocks$History", "count", "I", false)
def tyX3 : Nat → FieldType := fun k => match k with
  | 0 => .array (.object "CanalLocks$Flight")
  | 1 => .int
  | _ => .int
abbrev wsX30 : List Cond := u_ws RX3 TX3 3
theorem nmX3 : ∀ a, a < 3 → ∀ b, b < 3 → a ≠ b → (TX3 a).2.1 ≠ (TX3 b).2.1 := by decide +kernel
theorem tyX3_ok : ∀ k, k < 3 → parseFieldDescriptor (TX3 k).2.2.1 = some (tyX3 k) := by decide +kernel
abbrev cX3_init : ByteArray := prog_5_method_1_code
def yX3_init : MethodName := ⟨RX3, "<init>", "()V"⟩
abbrev cX3_push : ByteArray := prog_5_method_2_code
def yX3_push : MethodName := ⟨RX3, "push", "(LCanalLocks$Flight;)V"⟩
def RX4 : String := "CanalLocks$Script"
def TX4 : u_T := fun k => match k with
  | 0 => ("CanalLocks$Script", "text", "[C", true)
  | 1 => ("CanalLocks$Script", "length", "I", false)
  | 2 => ("CanalLocks$Script", "position", "I", false)
  | 3 => ("CanalLocks$Script", "latest", "C", false)
  | 4 => ("CanalLocks$Script", "count", "I", false)
  | 5 => ("CanalLocks$Script", "kinds", "[I", true)
  | 6 => ("CanalLocks$Script", "firsts", "[I", true)
  | 7 => ("CanalLocks$Script", "seconds", "[I", true)
  | _ => ("CanalLocks$Script", "thirds", "[I", true)
def tyX4 : Nat → FieldType := fun k => match k with
  | 0 => .array .char
  | 1 => .int
  | 2 => .int
  | 3 => .char
  | 4 => .int
  | 5 => .array .int
  | 6 => .array .int
  | 7 => .array .int
  | _ => .array .int
abbrev wsX40 : List Cond := u_ws RX4 TX4 9
theorem nmX4 : ∀ a, a < 9 → ∀ b, b < 9 → a ≠ b → (TX4 a).2.1 ≠ (TX4 b).2.1 := by decide +kernel
theorem tyX4_ok : ∀ k, k < 9 → parseFieldDescriptor (TX4 k).2.2.1 = some (tyX4 k) := by decide +kernel
abbrev cX4_init : ByteArray := prog_6_method_1_code
def yX4_init : MethodName := ⟨RX4, "<init>", "()V"⟩
def RX5 : String := "CanalLocks$Water"
def TX5 : u_T := fun k => match k with
  | 0 => ("CanalLocks$Water", "volumes", "[I", true)
  | 1 => ("CanalLocks$Water", "openings", "[I", true)
  | 2 => ("CanalLocks$Water", "gates", "[Z", true)
  | 3 => ("CanalLocks$Water", "rain", "I", false)
  | 4 => ("CanalLocks$Water", "drain", "I", false)
  | 5 => ("CanalLocks$Water", "rained", "I", false)
  | 6 => ("CanalLocks$Water", "drained", "I", false)
  | _ => ("CanalLocks$Water", "spilled", "I", false)
def tyX5 : Nat → FieldType := fun k => match k with
  | 0 => .array .int
  | 1 => .array .int
  | 2 => .array .boolean
  | 3 => .int
  | 4 => .int
  | 5 => .int
  | 6 => .int
  | _ => .int
abbrev wsX50 : List Cond := u_ws RX5 TX5 8
theorem nmX5 : ∀ a, a < 8 → ∀ b, b < 8 → a ≠ b → (TX5 a).2.1 ≠ (TX5 b).2.1 := by decide +kernel
theorem tyX5_ok : ∀ k, k < 8 → parseFieldDescriptor (TX5 k).2.2.1 = some (tyX5 k) := by decide +kernel
abbrev cX5_init : ByteArray := prog_7_method_1_code
def yX5_init : MethodName := ⟨RX5, "<init>", "()V"⟩
abbrev cX5_copyWater : ByteArray := prog_7_method_2_code
def yX5_copyWater : MethodName := ⟨RX5, "copyWater", "(LCanalLocks$Water;)V"⟩
abbrev cX5_roundedLevel : ByteArray := prog_7_method_3_code
def yX5_roundedLevel : MethodName := ⟨RX5, "roundedLevel", "(I)I"⟩
abbrev cX5_difference : ByteArray := prog_7_method_4_code
def yX5_difference : MethodName := ⟨RX5, "difference", "(II)I"⟩
abbrev cX5_reaches : ByteArray := prog_7_method_5_code
def yX5_reaches : MethodName := ⟨RX5, "reaches", "(II)Z"⟩
abbrev cX5_amountByDivision : ByteArray := prog_7_method_6_code
def yX5_amountByDivision : MethodName := ⟨RX5, "amountByDivision", "(I)I"⟩
abbrev cX5_amountByLitres : ByteArray := prog_7_method_7_code
def yX5_amountByLitres : MethodName := ⟨RX5, "amountByLitres", "(I)I"⟩
abbrev cX5_staysBelow : ByteArray := prog_7_method_8_code
def yX5_staysBelow : MethodName := ⟨RX5, "staysBelow", "(III)Z"⟩
abbrev cX5_flowDown : ByteArray := prog_7_method_9_code
def yX5_flowDown : MethodName := ⟨RX5, "flowDown", "(I)I"⟩
abbrev cX5_moveDown : ByteArray := prog_7_method_10_code
def yX5_moveDown : MethodName := ⟨RX5, "moveDown", "(II)V"⟩
abbrev cX5_letRain : ByteArray := prog_7_method_11_code
def yX5_letRain : MethodName := ⟨RX5, "letRain", "()I"⟩
abbrev cX5_letDrain : ByteArray := prog_7_method_12_code
def yX5_letDrain : MethodName := ⟨RX5, "letDrain", "()V"⟩
abbrev cX5_sumOfVolumes : ByteArray := prog_7_method_13_code
def yX5_sumOfVolumes : MethodName := ⟨RX5, "sumOfVolumes", "()I"⟩
abbrev cX5_sumByAccounts : ByteArray := prog_7_method_14_code
def yX5_sumByAccounts : MethodName := ⟨RX5, "sumByAccounts", "()I"⟩
abbrev cX5_openGateCount : ByteArray := prog_7_method_15_code
def yX5_openGateCount : MethodName := ⟨RX5, "openGateCount", "()I"⟩
abbrev cX5_rankOfBasin : ByteArray := prog_7_method_16_code
def yX5_rankOfBasin : MethodName := ⟨RX5, "rankOfBasin", "(I)I"⟩
abbrev cX5_amountsAgree : ByteArray := prog_7_method_17_code
def yX5_amountsAgree : MethodName := ⟨RX5, "amountsAgree", "()Z"⟩
abbrev cX5_isWithinLimits : ByteArray := prog_7_method_18_code
def yX5_isWithinLimits : MethodName := ⟨RX5, "isWithinLimits", "()Z"⟩
def RX6 : String := "CanalLocks"
def TX6 : u_T := fun k => match k with
  | 0 => ("CanalLocks", "now", "LCanalLocks$Flight;", true)
  | 1 => ("CanalLocks", "trial", "LCanalLocks$Flight;", true)
  | 2 => ("CanalLocks", "snapshot", "LCanalLocks$Flight;", true)
  | 3 => ("CanalLocks", "hasSnapshot", "Z", false)
  | 4 => ("CanalLocks", "history", "LCanalLocks$History;", true)
  | 5 => ("CanalLocks", "script", "LCanalLocks$Script;", true)
  | 6 => ("CanalLocks", "output", "Ljava/lang/StringBuilder;", true)
  | 7 => ("CanalLocks", "latestErrorPosition", "I", false)
  | _ => ("CanalLocks", "latestFailedCommand", "I", false)
def tyX6 : Nat → FieldType := fun k => match k with
  | 0 => .object "CanalLocks$Flight"
  | 1 => .object "CanalLocks$Flight"
  | 2 => .object "CanalLocks$Flight"
  | 3 => .boolean
  | 4 => .object "CanalLocks$History"
  | 5 => .object "CanalLocks$Script"
  | 6 => .object "java/lang/StringBuilder"
  | 7 => .int
  | _ => .int
abbrev wsX60 : List Cond := u_ws RX6 TX6 9
theorem nmX6 : ∀ a, a < 9 → ∀ b, b < 9 → a ≠ b → (TX6 a).2.1 ≠ (TX6 b).2.1 := by decide +kernel
theorem tyX6_ok : ∀ k, k < 9 → parseFieldDescriptor (TX6 k).2.2.1 = some (tyX6 k) := by decide +kernel
abbrev cX6_init : ByteArray := prog_1_method_1_code
def yX6_init : MethodName := ⟨RX6, "<init>", "()V"⟩
abbrev cX6_addBoat : ByteArray := prog_1_method_2_code
def yX6_addBoat : MethodName := ⟨RX6, "addBoat", "(CIZ)I"⟩
abbrev cX6_setValve : ByteArray := prog_1_method_3_code
def yX6_setValve : MethodName := ⟨RX6, "setValve", "(II)I"⟩
abbrev cX6_openGate : ByteArray := prog_1_method_4_code
def yX6_openGate : MethodName := ⟨RX6, "openGate", "(I)I"⟩
abbrev cX6_shutGate : ByteArray := prog_1_method_5_code
def yX6_shutGate : MethodName := ⟨RX6, "shutGate", "(I)I"⟩
abbrev cX6_setRain : ByteArray := prog_1_method_6_code
def yX6_setRain : MethodName := ⟨RX6, "setRain", "(I)I"⟩
abbrev cX6_setDrain : ByteArray := prog_1_method_7_code
def yX6_setDrain : MethodName := ⟨RX6, "setDrain", "(I)I"⟩
abbrev cX6_advance : ByteArray := prog_1_method_8_code
def yX6_advance : MethodName := ⟨RX6, "advance", "(I)I"⟩
abbrev cX6_area : ByteArray := prog_1_method_9_code
def yX6_area : MethodName := ⟨RX6, "area", "(I)I"⟩
abbrev cX6_volume : ByteArray := prog_1_method_10_code
def yX6_volume : MethodName := ⟨RX6, "volume", "(I)I"⟩
abbrev cX6_level : ByteArray := prog_1_method_11_code
def yX6_level : MethodName := ⟨RX6, "level", "(I)I"⟩
abbrev cX6_exactLevel : ByteArray := prog_1_method_12_code
def yX6_exactLevel : MethodName := ⟨RX6, "exactLevel", "(I)D"⟩
abbrev cX6_isHigher : ByteArray := prog_1_method_13_code
def yX6_isHigher : MethodName := ⟨RX6, "isHigher", "(II)Z"⟩
abbrev cX6_equalizingAmount : ByteArray := prog_1_method_14_code
def yX6_equalizingAmount : MethodName := ⟨RX6, "equalizingAmount", "(I)I"⟩
abbrev cX6_equalizingAmountByLitres : ByteArray := prog_1_method_15_code
def yX6_equalizingAmountByLitres : MethodName := ⟨RX6, "equalizingAmountByLitres", "(I)I"⟩
abbrev cX6_opening : ByteArray := prog_1_method_16_code
def yX6_opening : MethodName := ⟨RX6, "opening", "(I)I"⟩
abbrev cX6_isOpen : ByteArray := prog_1_method_17_code
def yX6_isOpen : MethodName := ⟨RX6, "isOpen", "(I)Z"⟩
abbrev cX6_flow : ByteArray := prog_1_method_18_code
def yX6_flow : MethodName := ⟨RX6, "flow", "(I)I"⟩
abbrev cX6_totalVolume : ByteArray := prog_1_method_21_code
def yX6_totalVolume : MethodName := ⟨RX6, "totalVolume", "()I"⟩
abbrev cX6_totalVolumeByAccounts : ByteArray := prog_1_method_22_code
def yX6_totalVolumeByAccounts : MethodName := ⟨RX6, "totalVolumeByAccounts", "()I"⟩
abbrev cX6_rainTotal : ByteArray := prog_1_method_23_code
def yX6_rainTotal : MethodName := ⟨RX6, "rainTotal", "()I"⟩
abbrev cX6_drainTotal : ByteArray := prog_1_method_24_code
def yX6_drainTotal : MethodName := ⟨RX6, "drainTotal", "()I"⟩
abbrev cX6_spilledTotal : ByteArray := prog_1_method_25_code
def yX6_spilledTotal : MethodName := ⟨RX6, "spilledTotal", "()I"⟩
abbrev cX6_basinByLevel : ByteArray := prog_1_method_26_code
def yX6_basinByLevel : MethodName := ⟨RX6, "basinByLevel", "(I)I"⟩
abbrev cX6_boatCount : ByteArray := prog_1_method_27_code
def yX6_boatCount : MethodName := ⟨RX6, "boatCount", "()I"⟩
abbrev cX6_colour : ByteArray := prog_1_method_28_code
def yX6_colour : MethodName := ⟨RX6, "colour", "(I)C"⟩
abbrev cX6_draught : ByteArray := prog_1_method_29_code
def yX6_draught : MethodName := ⟨RX6, "draught", "(I)I"⟩
abbrev cX6_isGoingDown : ByteArray := prog_1_method_30_code
def yX6_isGoingDown : MethodName := ⟨RX6, "isGoingDown", "(I)Z"⟩
abbrev cX6_basinOf : ByteArray := prog_1_method_31_code
def yX6_basinOf : MethodName := ⟨RX6, "basinOf", "(I)I"⟩
abbrev cX6_boatsIn : ByteArray := prog_1_method_32_code
def yX6_boatsIn : MethodName := ⟨RX6, "boatsIn", "(I)I"⟩
abbrev cX6_boatInOrder : ByteArray := prog_1_method_33_code
def yX6_boatInOrder : MethodName := ⟨RX6, "boatInOrder", "(I)I"⟩
abbrev cX6_floats : ByteArray := prog_1_method_34_code
def yX6_floats : MethodName := ⟨RX6, "floats", "(II)Z"⟩
abbrev cX6_minutesUntilEqual : ByteArray := prog_1_method_37_code
def yX6_minutesUntilEqual : MethodName := ⟨RX6, "minutesUntilEqual", "(I)I"⟩
abbrev cX6_eventCount : ByteArray := prog_1_method_39_code
def yX6_eventCount : MethodName := ⟨RX6, "eventCount", "()I"⟩
abbrev cX6_eventKind : ByteArray := prog_1_method_40_code
def yX6_eventKind : MethodName := ⟨RX6, "eventKind", "(I)C"⟩
abbrev cX6_eventNumber : ByteArray := prog_1_method_41_code
def yX6_eventNumber : MethodName := ⟨RX6, "eventNumber", "(I)I"⟩
abbrev cX6_meanLevel : ByteArray := prog_1_method_43_code
def yX6_meanLevel : MethodName := ⟨RX6, "meanLevel", "()F"⟩
abbrev cX6_isConsistent : ByteArray := prog_1_method_44_code
def yX6_isConsistent : MethodName := ⟨RX6, "isConsistent", "()Z"⟩
abbrev cX6_renderLevels : ByteArray := prog_1_method_45_code
def yX6_renderLevels : MethodName := ⟨RX6, "renderLevels", "()I"⟩
abbrev cX6_renderBoat : ByteArray := prog_1_method_46_code
def yX6_renderBoat : MethodName := ⟨RX6, "renderBoat", "(I)I"⟩
abbrev cX6_outputAt : ByteArray := prog_1_method_47_code
def yX6_outputAt : MethodName := ⟨RX6, "outputAt", "(I)C"⟩
abbrev cX6_beginChange : ByteArray := prog_1_method_55_code
def yX6_beginChange : MethodName := ⟨RX6, "beginChange", "(III)V"⟩
abbrev cX6_refuse : ByteArray := prog_1_method_56_code
def yX6_refuse : MethodName := ⟨RX6, "refuse", "(I)V"⟩
abbrev cX6_needBasin : ByteArray := prog_1_method_57_code
def yX6_needBasin : MethodName := ⟨RX6, "needBasin", "(I)V"⟩
abbrev cX6_needGate : ByteArray := prog_1_method_58_code
def yX6_needGate : MethodName := ⟨RX6, "needGate", "(I)V"⟩
abbrev cX6_needBoat : ByteArray := prog_1_method_59_code
def yX6_needBoat : MethodName := ⟨RX6, "needBoat", "(I)V"⟩
abbrev cX6_needEvent : ByteArray := prog_1_method_60_code
def yX6_needEvent : MethodName := ⟨RX6, "needEvent", "(I)V"⟩
abbrev cX6_isGate : ByteArray := prog_1_method_61_code
def yX6_isGate : MethodName := ⟨RX6, "isGate", "(I)Z"⟩
abbrev cX6_areaOf : ByteArray := prog_1_method_62_code
def yX6_areaOf : MethodName := ⟨RX6, "areaOf", "(I)I"⟩
abbrev cX6_colourNumber : ByteArray := prog_1_method_63_code
def yX6_colourNumber : MethodName := ⟨RX6, "colourNumber", "(I)I"⟩
def RX7 : String := "CanalLocksModel"
def TX7 : u_T := fun k => match k with
  | _ => ("", "", "", false)
def tyX7 : Nat → FieldType := fun k => match k with
  | _ => .int
abbrev wsX70 : List Cond := u_ws RX7 TX7 0
theorem nmX7 : ∀ a, a < 0 → ∀ b, b < 0 → a ≠ b → (TX7 a).2.1 ≠ (TX7 b).2.1 := by decide +kernel
theorem tyX7_ok : ∀ k, k < 0 → parseFieldDescriptor (TX7 k).2.2.1 = some (tyX7 k) := by decide +kernel
def RJx145de : String := "java/io/Serializable"
def TJx145de : u_T := fun k => match k with
  | _ => ("", "", "", false)
def tyJx145de : Nat → FieldType := fun k => match k with
  | _ => .int
abbrev wsJx145de0 : List Cond := u_ws RJx145de TJx145de 0
theorem nmJx145de : ∀ a, a < 0 → ∀ b, b < 0 → a ≠ b → (TJx145de a).2.1 ≠ (TJx145de b).2.1 := by decide +kernel
theorem tyJx145de_ok : ∀ k, k < 0 → parseFieldDescriptor (TJx145de k).2.2.1 = some (tyJx145de k) := by decide +kernel
def RJ5 : String := "java/lang/AbstractStringBuilder"
def TJ5 : u_T := fun k => match k with
  | _ => ("", "", "", false)
def tyJ5 : Nat → FieldType := fun k => match k with
  | _ => .int
abbrev wsJ50 : List Cond := u_ws RJ5 TJ5 0
theorem nmJ5 : ∀ a, a < 0 → ∀ b, b < 0 → a ≠ b → (TJ5 a).2.1 ≠ (TJ5 b).2.1 := by decide +kernel
theorem tyJ5_ok : ∀ k, k < 0 → parseFieldDescriptor (TJ5 k).2.2.1 = some (tyJ5 k) := by decide +kernel
abbrev cJ5_init_d00df : ByteArray := prog_11_method_2_code
def yJ5_init_d00df : MethodName := ⟨RJ5, "<init>", "(I)V"⟩
abbrev cJ5_length_8abf5 : ByteArray := prog_11_method_6_code
def yJ5_length_8abf5 : MethodName := ⟨RJ5, "length", "()I"⟩
abbrev cJ5_ensureCapacityInternal_d00df : ByteArray := prog_11_method_9_code
def yJ5_ensureCapacityInternal_d00df : MethodName := ⟨RJ5, "ensureCapacityInternal", "(I)V"⟩
abbrev cJ5_newCapacity_0f7a4 : ByteArray := prog_11_method_10_code
def yJ5_newCapacity_0f7a4 : MethodName := ⟨RJ5, "newCapacity", "(I)I"⟩
abbrev cJ5_inflate_da8c8 : ByteArray := prog_11_method_11_code
def yJ5_inflate_da8c8 : MethodName := ⟨RJ5, "inflate", "()V"⟩
abbrev cJ5_setLength_d00df : ByteArray := prog_11_method_13_code
def yJ5_setLength_d00df : MethodName := ⟨RJ5, "setLength", "(I)V"⟩
abbrev cJ5_charAt_5068e : ByteArray := prog_11_method_14_code
def yJ5_charAt_5068e : MethodName := ⟨RJ5, "charAt", "(I)C"⟩
abbrev cJ5_append_cf1ce : ByteArray := prog_11_method_22_code
def yJ5_append_cf1ce : MethodName := ⟨RJ5, "append", "(Ljava/lang/String;)Ljava/lang/AbstractStringBuilder;"⟩
abbrev cJ5_appendNull_278bc : ByteArray := prog_11_method_26_code
def yJ5_appendNull_278bc : MethodName := ⟨RJ5, "appendNull", "()Ljava/lang/AbstractStringBuilder;"⟩
abbrev cJ5_append_3fe6f : ByteArray := prog_11_method_31_code
def yJ5_append_3fe6f : MethodName := ⟨RJ5, "append", "(C)Ljava/lang/AbstractStringBuilder;"⟩
abbrev cJ5_append_c97b9 : ByteArray := prog_11_method_32_code
def yJ5_append_c97b9 : MethodName := ⟨RJ5, "append", "(I)Ljava/lang/AbstractStringBuilder;"⟩
abbrev cJ5_getValue_6d5f1 : ByteArray := prog_11_method_64_code
def yJ5_getValue_6d5f1 : MethodName := ⟨RJ5, "getValue", "()[B"⟩
abbrev cJ5_isLatin1_aae02 : ByteArray := prog_11_method_68_code
def yJ5_isLatin1_aae02 : MethodName := ⟨RJ5, "isLatin1", "()Z"⟩
abbrev cJ5_inflateIfNeededFor_a7421 : ByteArray := prog_11_method_71_code
def yJ5_inflateIfNeededFor_a7421 : MethodName := ⟨RJ5, "inflateIfNeededFor", "(Ljava/lang/String;)V"⟩
abbrev cJ5_putStringAt_47b60 : ByteArray := prog_11_method_73_code
def yJ5_putStringAt_47b60 : MethodName := ⟨RJ5, "putStringAt", "(ILjava/lang/String;)V"⟩
def RJx2cfe8 : String := "java/lang/Appendable"
def TJx2cfe8 : u_T := fun k => match k with
  | _ => ("", "", "", false)
def tyJx2cfe8 : Nat → FieldType := fun k => match k with
  | _ => .int
abbrev wsJx2cfe80 : List Cond := u_ws RJx2cfe8 TJx2cfe8 0
theorem nmJx2cfe8 : ∀ a, a < 0 → ∀ b, b < 0 → a ≠ b → (TJx2cfe8 a).2.1 ≠ (TJx2cfe8 b).2.1 := by decide +kernel
theorem tyJx2cfe8_ok : ∀ k, k < 0 → parseFieldDescriptor (TJx2cfe8 k).2.2.1 = some (tyJx2cfe8 k) := by decide +kernel
def RJx00060 : String := "java/lang/ArrayIndexOutOfBoundsException"
def TJx00060 : u_T := fun k => match k with
  | 0 => ("java/lang/Throwable", "cause", "Ljava/lang/Throwable;", false)
  | 1 => ("java/lang/Throwable", "stackTrace", "[Ljava/lang/StackTraceElement;", false)
  | 2 => ("java/lang/Throwable", "suppressedExceptions", "Ljava/util/List;", false)
  | 3 => ("java/lang/Throwable", "detailMessage", "Ljava/lang/String;", false)
  | 4 => ("java/lang/Throwable", "backtrace", "Ljava/lang/Object;", false)
  | _ => ("java/lang/Throwable", "depth", "I", false)
def tyJx00060 : Nat → FieldType := fun k => match k with
  | 0 => .object "java/lang/Throwable"
  | 1 => .array (.object "java/lang/StackTraceElement")
  | 2 => .object "java/util/List"
  | 3 => .object "java/lang/String"
  | 4 => .object "java/lang/Object"
  | _ => .int
abbrev wsJx000600 : List Cond := u_ws RJx00060 TJx00060 6
theorem nmJx00060 : ∀ a, a < 6 → ∀ b, b < 6 → a ≠ b → (TJx00060 a).2.1 ≠ (TJx00060 b).2.1 := by decide +kernel
theorem tyJx00060_ok : ∀ k, k < 6 → parseFieldDescriptor (TJx00060 k).2.2.1 = some (tyJx00060 k) := by decide +kernel
abbrev cJx00060_init_d00df : ByteArray := prog_13_method_3_code
def yJx00060_init_d00df : MethodName := ⟨RJx00060, "<init>", "(I)V"⟩
def RJx9f9b0 : String := "java/lang/CharSequence"
def TJx9f9b0 : u_T := fun k => match k with
  | _ => ("", "", "", false)
def tyJx9f9b0 : Nat → FieldType := fun k => match k with
  | _ => .int
abbrev wsJx9f9b00 : List Cond := u_ws RJx9f9b0 TJx9f9b0 0
theorem nmJx9f9b0 : ∀ a, a < 0 → ∀ b, b < 0 → a ≠ b → (TJx9f9b0 a).2.1 ≠ (TJx9f9b0 b).2.1 := by decide +kernel
theorem tyJx9f9b0_ok : ∀ k, k < 0 → parseFieldDescriptor (TJx9f9b0 k).2.2.1 = some (tyJx9f9b0 k) := by decide +kernel
def RJx8e188 : String := "java/lang/Cloneable"
def TJx8e188 : u_T := fun k => match k with
  | _ => ("", "", "", false)
def tyJx8e188 : Nat → FieldType := fun k => match k with
  | _ => .int
abbrev wsJx8e1880 : List Cond := u_ws RJx8e188 TJx8e188 0
theorem nmJx8e188 : ∀ a, a < 0 → ∀ b, b < 0 → a ≠ b → (TJx8e188 a).2.1 ≠ (TJx8e188 b).2.1 := by decide +kernel
theorem tyJx8e188_ok : ∀ k, k < 0 → parseFieldDescriptor (TJx8e188 k).2.2.1 = some (tyJx8e188 k) := by decide +kernel
def RJxb160c : String := "java/lang/Comparable"
def TJxb160c : u_T := fun k => match k with
  | _ => ("", "", "", false)
def tyJxb160c : Nat → FieldType := fun k => match k with
  | _ => .int
abbrev wsJxb160c0 : List Cond := u_ws RJxb160c TJxb160c 0
theorem nmJxb160c : ∀ a, a < 0 → ∀ b, b < 0 → a ≠ b → (TJxb160c a).2.1 ≠ (TJxb160c b).2.1 := by decide +kernel
theorem tyJxb160c_ok : ∀ k, k < 0 → parseFieldDescriptor (TJxb160c k).2.2.1 = some (tyJxb160c k) := by decide +kernel
def RJ6 : String := "java/lang/Integer"
def TJ6 : u_T := fun k => match k with
  | _ => ("", "", "", false)
def tyJ6 : Nat → FieldType := fun k => match k with
  | _ => .int
abbrev wsJ60 : List Cond := u_ws RJ6 TJ6 0
theorem nmJ6 : ∀ a, a < 0 → ∀ b, b < 0 → a ≠ b → (TJ6 a).2.1 ≠ (TJ6 b).2.1 := by decide +kernel
theorem tyJ6_ok : ∀ k, k < 0 → parseFieldDescriptor (TJ6 k).2.2.1 = some (tyJ6 k) := by decide +kernel
abbrev cJ6_getChars_ba4f3 : ByteArray := prog_21_method_12_code
def yJ6_getChars_ba4f3 : MethodName := ⟨RJ6, "getChars", "(II[B)I"⟩
abbrev cJ6_stringSize_0f7a4 : ByteArray := prog_21_method_13_code
def yJ6_stringSize_0f7a4 : MethodName := ⟨RJ6, "stringSize", "(I)I"⟩
def RJ9 : String := "java/lang/Math"
def TJ9 : u_T := fun k => match k with
  | _ => ("", "", "", false)
def tyJ9 : Nat → FieldType := fun k => match k with
  | _ => .int
abbrev wsJ90 : List Cond := u_ws RJ9 TJ9 0
theorem nmJ9 : ∀ a, a < 0 → ∀ b, b < 0 → a ≠ b → (TJ9 a).2.1 ≠ (TJ9 b).2.1 := by decide +kernel
theorem tyJ9_ok : ∀ k, k < 0 → parseFieldDescriptor (TJ9 k).2.2.1 = some (tyJ9 k) := by decide +kernel
abbrev cJ9_floorMod_7cf53 : ByteArray := prog_22_method_50_code
def yJ9_floorMod_7cf53 : MethodName := ⟨RJ9, "floorMod", "(II)I"⟩
abbrev cJ9_abs_0f7a4 : ByteArray := prog_22_method_59_code
def yJ9_abs_0f7a4 : MethodName := ⟨RJ9, "abs", "(I)I"⟩
abbrev cJ9_max_7cf53 : ByteArray := prog_22_method_65_code
def yJ9_max_7cf53 : MethodName := ⟨RJ9, "max", "(II)I"⟩
abbrev cJ9_min_7cf53 : ByteArray := prog_22_method_69_code
def yJ9_min_7cf53 : MethodName := ⟨RJ9, "min", "(II)I"⟩
def RJxd2413 : String := "java/lang/Number"
def TJxd2413 : u_T := fun k => match k with
  | _ => ("", "", "", false)
def tyJxd2413 : Nat → FieldType := fun k => match k with
  | _ => .int
abbrev wsJxd24130 : List Cond := u_ws RJxd2413 TJxd2413 0
theorem nmJxd2413 : ∀ a, a < 0 → ∀ b, b < 0 → a ≠ b → (TJxd2413 a).2.1 ≠ (TJxd2413 b).2.1 := by decide +kernel
theorem tyJxd2413_ok : ∀ k, k < 0 → parseFieldDescriptor (TJxd2413 k).2.2.1 = some (tyJxd2413 k) := by decide +kernel
def RJ0 : String := "java/lang/String"
def TJ0 : u_T := fun k => match k with
  | 0 => ("java/lang/String", "value", "[B", true)
  | 1 => ("java/lang/String", "coder", "B", true)
  | 2 => ("java/lang/String", "hash", "I", false)
  | _ => ("java/lang/String", "hashIsZero", "Z", false)
def tyJ0 : Nat → FieldType := fun k => match k with
  | 0 => .array .byte
  | 1 => .byte
  | 2 => .int
  | _ => .boolean
abbrev wsJ00 : List Cond := u_ws RJ0 TJ0 4
theorem nmJ0 : ∀ a, a < 4 → ∀ b, b < 4 → a ≠ b → (TJ0 a).2.1 ≠ (TJ0 b).2.1 := by decide +kernel
theorem tyJ0_ok : ∀ k, k < 4 → parseFieldDescriptor (TJ0 k).2.2.1 = some (tyJ0 k) := by decide +kernel
abbrev cJ0_init_81219 : ByteArray := prog_25_method_53_code
def yJ0_init_81219 : MethodName := ⟨RJ0, "<init>", "(Ljava/lang/StringBuilder;)V"⟩
abbrev cJ0_length_8abf5 : ByteArray := prog_25_method_54_code
def yJ0_length_8abf5 : MethodName := ⟨RJ0, "length", "()I"⟩
abbrev cJ0_charAt_5068e : ByteArray := prog_25_method_56_code
def yJ0_charAt_5068e : MethodName := ⟨RJ0, "charAt", "(I)C"⟩
abbrev cJ0_getBytes_840e7 : ByteArray := prog_25_method_147_code
def yJ0_getBytes_840e7 : MethodName := ⟨RJ0, "getBytes", "([BIB)V"⟩
abbrev cJ0_init_db425 : ByteArray := prog_25_method_150_code
def yJ0_init_db425 : MethodName := ⟨RJ0, "<init>", "(Ljava/lang/AbstractStringBuilder;Ljava/lang/Void;)V"⟩
abbrev cJ0_coder_7d493 : ByteArray := prog_25_method_152_code
def yJ0_coder_7d493 : MethodName := ⟨RJ0, "coder", "()B"⟩
abbrev cJ0_isLatin1_aae02 : ByteArray := prog_25_method_154_code
def yJ0_isLatin1_aae02 : MethodName := ⟨RJ0, "isLatin1", "()Z"⟩
abbrev cJ0_checkIndex_df160 : ByteArray := prog_25_method_155_code
def yJ0_checkIndex_df160 : MethodName := ⟨RJ0, "checkIndex", "(II)V"⟩
abbrev cJ0_checkBoundsOffCount_cabcc : ByteArray := prog_25_method_157_code
def yJ0_checkBoundsOffCount_cabcc : MethodName := ⟨RJ0, "checkBoundsOffCount", "(III)I"⟩
abbrev cJ0_checkBoundsBeginEnd_23922 : ByteArray := prog_25_method_158_code
def yJ0_checkBoundsBeginEnd_23922 : MethodName := ⟨RJ0, "checkBoundsBeginEnd", "(III)V"⟩
def RJ4 : String := "java/lang/StringBuilder"
def TJ4 : u_T := fun k => match k with
  | 0 => ("java/lang/AbstractStringBuilder", "value", "[B", false)
  | 1 => ("java/lang/AbstractStringBuilder", "coder", "B", false)
  | 2 => ("java/lang/AbstractStringBuilder", "maybeLatin1", "Z", false)
  | _ => ("java/lang/AbstractStringBuilder", "count", "I", false)
def tyJ4 : Nat → FieldType := fun k => match k with
  | 0 => .array .byte
  | 1 => .byte
  | 2 => .boolean
  | _ => .int
abbrev wsJ40 : List Cond := u_ws RJ4 TJ4 4
theorem nmJ4 : ∀ a, a < 4 → ∀ b, b < 4 → a ≠ b → (TJ4 a).2.1 ≠ (TJ4 b).2.1 := by decide +kernel
theorem tyJ4_ok : ∀ k, k < 4 → parseFieldDescriptor (TJ4 k).2.2.1 = some (tyJ4 k) := by decide +kernel
abbrev cJ4_init_da8c8 : ByteArray := prog_26_method_1_code
def yJ4_init_da8c8 : MethodName := ⟨RJ4, "<init>", "()V"⟩
abbrev cJ4_append_15ec4 : ByteArray := prog_26_method_7_code
def yJ4_append_15ec4 : MethodName := ⟨RJ4, "append", "(Ljava/lang/String;)Ljava/lang/StringBuilder;"⟩
abbrev cJ4_append_cf468 : ByteArray := prog_26_method_14_code
def yJ4_append_cf468 : MethodName := ⟨RJ4, "append", "(C)Ljava/lang/StringBuilder;"⟩
abbrev cJ4_append_bf812 : ByteArray := prog_26_method_15_code
def yJ4_append_bf812 : MethodName := ⟨RJ4, "append", "(I)Ljava/lang/StringBuilder;"⟩
abbrev cJ4_toString_0e30d : ByteArray := prog_26_method_42_code
def yJ4_toString_0e30d : MethodName := ⟨RJ4, "toString", "()Ljava/lang/String;"⟩
abbrev cJ4_charAt_5068e : ByteArray := prog_26_method_88_code
def yJ4_charAt_5068e : MethodName := ⟨RJ4, "charAt", "(I)C"⟩
abbrev cJ4_setLength_d00df : ByteArray := prog_26_method_89_code
def yJ4_setLength_d00df : MethodName := ⟨RJ4, "setLength", "(I)V"⟩
abbrev cJ4_length_8abf5 : ByteArray := prog_26_method_93_code
def yJ4_length_8abf5 : MethodName := ⟨RJ4, "length", "()I"⟩
def RJx7c733 : String := "java/lang/StringIndexOutOfBoundsException"
def TJx7c733 : u_T := fun k => match k with
  | 0 => ("java/lang/Throwable", "backtrace", "Ljava/lang/Object;", false)
  | 1 => ("java/lang/Throwable", "detailMessage", "Ljava/lang/String;", false)
  | 2 => ("java/lang/Throwable", "cause", "Ljava/lang/Throwable;", false)
  | 3 => ("java/lang/Throwable", "stackTrace", "[Ljava/lang/StackTraceElement;", false)
  | 4 => ("java/lang/Throwable", "depth", "I", false)
  | _ => ("java/lang/Throwable", "suppressedExceptions", "Ljava/util/List;", false)
def tyJx7c733 : Nat → FieldType := fun k => match k with
  | 0 => .object "java/lang/Object"
  | 1 => .object "java/lang/String"
  | 2 => .object "java/lang/Throwable"
  | 3 => .array (.object "java/lang/StackTraceElement")
  | 4 => .int
  | _ => .object "java/util/List"
abbrev wsJx7c7330 : List Cond := u_ws RJx7c733 TJx7c733 6
theorem nmJx7c733 : ∀ a, a < 6 → ∀ b, b < 6 → a ≠ b → (TJx7c733 a).2.1 ≠ (TJx7c733 b).2.1 := by decide +kernel
theorem tyJx7c733_ok : ∀ k, k < 6 → parseFieldDescriptor (TJx7c733 k).2.2.1 = some (tyJx7c733 k) := by decide +kernel
abbrev cJx7c733_init_d00df : ByteArray := prog_27_method_3_code
def yJx7c733_init_d00df : MethodName := ⟨RJx7c733, "<init>", "(I)V"⟩
def RJ1 : String := "java/lang/StringLatin1"
def TJ1 : u_T := fun k => match k with
  | _ => ("", "", "", false)
def tyJ1 : Nat → FieldType := fun k => match k with
  | _ => .int
abbrev wsJ10 : List Cond := u_ws RJ1 TJ1 0
theorem nmJ1 : ∀ a, a < 0 → ∀ b, b < 0 → a ≠ b → (TJ1 a).2.1 ≠ (TJ1 b).2.1 := by decide +kernel
theorem tyJ1_ok : ∀ k, k < 0 → parseFieldDescriptor (TJ1 k).2.2.1 = some (tyJ1 k) := by decide +kernel
abbrev cJ1_charAt_3b067 : ByteArray := prog_28_method_2_code
def yJ1_charAt_3b067 : MethodName := ⟨RJ1, "charAt", "([BI)C"⟩
abbrev cJ1_canEncode_fc78d : ByteArray := prog_28_method_3_code
def yJ1_canEncode_fc78d : MethodName := ⟨RJ1, "canEncode", "(C)Z"⟩
abbrev cJ1_fillNull_b72d1 : ByteArray := prog_28_method_48_code
def yJ1_fillNull_b72d1 : MethodName := ⟨RJ1, "fillNull", "([BII)V"⟩
abbrev cJ1_inflate_0e8fd : ByteArray := prog_28_method_50_code
def yJ1_inflate_0e8fd : MethodName := ⟨RJ1, "inflate", "([BI[BII)V"⟩
def RJ2 : String := "java/lang/StringUTF16"
def TJ2 : u_T := fun k => match k with
  | _ => ("", "", "", false)
def tyJ2 : Nat → FieldType := fun k => match k with
  | _ => .int
abbrev wsJ20 : List Cond := u_ws RJ2 TJ2 0
theorem nmJ2 : ∀ a, a < 0 → ∀ b, b < 0 → a ≠ b → (TJ2 a).2.1 ≠ (TJ2 b).2.1 := by decide +kernel
theorem tyJ2_ok : ∀ k, k < 0 → parseFieldDescriptor (TJ2 k).2.2.1 = some (tyJ2 k) := by decide +kernel
abbrev cJ2_newBytesFor_77867 : ByteArray := prog_29_method_2_code
def yJ2_newBytesFor_77867 : MethodName := ⟨RJ2, "newBytesFor", "(I)[B"⟩
abbrev cJ2_newBytesLength_0f7a4 : ByteArray := prog_29_method_3_code
def yJ2_newBytesLength_0f7a4 : MethodName := ⟨RJ2, "newBytesLength", "(I)I"⟩
abbrev cJ2_putChar_b72d1 : ByteArray := prog_29_method_4_code
def yJ2_putChar_b72d1 : MethodName := ⟨RJ2, "putChar", "([BII)V"⟩
abbrev cJ2_getChar_3b067 : ByteArray := prog_29_method_5_code
def yJ2_getChar_3b067 : MethodName := ⟨RJ2, "getChar", "([BI)C"⟩
abbrev cJ2_length_9d52b : ByteArray := prog_29_method_6_code
def yJ2_length_9d52b : MethodName := ⟨RJ2, "length", "([B)I"⟩
abbrev cJ2_coderFromArrayLen_85cad : ByteArray := prog_29_method_15_code
def yJ2_coderFromArrayLen_85cad : MethodName := ⟨RJ2, "coderFromArrayLen", "([BI)B"⟩
abbrev cJ2_compress_39247 : ByteArray := prog_29_method_17_code
def yJ2_compress_39247 : MethodName := ⟨RJ2, "compress", "([BII)[B"⟩
abbrev cJ2_compress_5af95 : ByteArray := prog_29_method_22_code
def yJ2_compress_5af95 : MethodName := ⟨RJ2, "compress", "([BI[BII)I"⟩
abbrev cJ2_fillNull_b72d1 : ByteArray := prog_29_method_70_code
def yJ2_fillNull_b72d1 : MethodName := ⟨RJ2, "fillNull", "([BII)V"⟩
abbrev cJ2_putCharSB_b72d1 : ByteArray := prog_29_method_71_code
def yJ2_putCharSB_b72d1 : MethodName := ⟨RJ2, "putCharSB", "([BII)V"⟩
abbrev cJ2_getChars_46870 : ByteArray := prog_29_method_77_code
def yJ2_getChars_46870 : MethodName := ⟨RJ2, "getChars", "(III[B)I"⟩
abbrev cJ2_putCharsAt_cd4e5 : ByteArray := prog_29_method_81_code
def yJ2_putCharsAt_cd4e5 : MethodName := ⟨RJ2, "putCharsAt", "([BICCCC)I"⟩
abbrev cJ2_charAt_3b067 : ByteArray := prog_29_method_83_code
def yJ2_charAt_3b067 : MethodName := ⟨RJ2, "charAt", "([BI)C"⟩
abbrev cJ2_inflate_0e8fd : ByteArray := prog_29_method_86_code
def yJ2_inflate_0e8fd : MethodName := ⟨RJ2, "inflate", "([BI[BII)V"⟩
abbrev cJ2_getChars_ba4f3 : ByteArray := prog_29_method_89_code
def yJ2_getChars_ba4f3 : MethodName := ⟨RJ2, "getChars", "(II[B)I"⟩
abbrev cJ2_checkIndex_2214a : ByteArray := prog_29_method_91_code
def yJ2_checkIndex_2214a : MethodName := ⟨RJ2, "checkIndex", "(I[B)V"⟩
abbrev cJ2_checkBoundsBeginEnd_d044e : ByteArray := prog_29_method_93_code
def yJ2_checkBoundsBeginEnd_d044e : MethodName := ⟨RJ2, "checkBoundsBeginEnd", "(II[B)V"⟩
abbrev cJ2_checkBoundsOffCount_d044e : ByteArray := prog_29_method_94_code
def yJ2_checkBoundsOffCount_d044e : MethodName := ⟨RJ2, "checkBoundsOffCount", "(II[B)V"⟩
def RJ10 : String := "java/lang/System"
def TJ10 : u_T := fun k => match k with
  | _ => ("", "", "", false)
def tyJ10 : Nat → FieldType := fun k => match k with
  | _ => .int
abbrev wsJ100 : List Cond := u_ws RJ10 TJ10 0
theorem nmJ10 : ∀ a, a < 0 → ∀ b, b < 0 → a ≠ b → (TJ10 a).2.1 ≠ (TJ10 b).2.1 := by decide +kernel
theorem tyJ10_ok : ∀ k, k < 0 → parseFieldDescriptor (TJ10 k).2.2.1 = some (tyJ10 k) := by decide +kernel
def RJxfd54e : String := "java/lang/constant/Constable"
def TJxfd54e : u_T := fun k => match k with
  | _ => ("", "", "", false)
def tyJxfd54e : Nat → FieldType := fun k => match k with
  | _ => .int
abbrev wsJxfd54e0 : List Cond := u_ws RJxfd54e TJxfd54e 0
theorem nmJxfd54e : ∀ a, a < 0 → ∀ b, b < 0 → a ≠ b → (TJxfd54e a).2.1 ≠ (TJxfd54e b).2.1 := by decide +kernel
theorem tyJxfd54e_ok : ∀ k, k < 0 → parseFieldDescriptor (TJxfd54e k).2.2.1 = some (tyJxfd54e k) := by decide +kernel
def RJx3cf43 : String := "java/lang/constant/ConstantDesc"
def TJx3cf43 : u_T := fun k => match k with
  | _ => ("", "", "", false)
def tyJx3cf43 : Nat → FieldType := fun k => match k with
  | _ => .int
abbrev wsJx3cf430 : List Cond := u_ws RJx3cf43 TJx3cf43 0
theorem nmJx3cf43 : ∀ a, a < 0 → ∀ b, b < 0 → a ≠ b → (TJx3cf43 a).2.1 ≠ (TJx3cf43 b).2.1 := by decide +kernel
theorem tyJx3cf43_ok : ∀ k, k < 0 → parseFieldDescriptor (TJx3cf43 k).2.2.1 = some (tyJx3cf43 k) := by decide +kernel
def RJ7 : String := "java/util/Arrays"
def TJ7 : u_T := fun k => match k with
  | _ => ("", "", "", false)
def tyJ7 : Nat → FieldType := fun k => match k with
  | _ => .int
abbrev wsJ70 : List Cond := u_ws RJ7 TJ7 0
theorem nmJ7 : ∀ a, a < 0 → ∀ b, b < 0 → a ≠ b → (TJ7 a).2.1 ≠ (TJ7 b).2.1 := by decide +kernel
theorem tyJ7_ok : ∀ k, k < 0 → parseFieldDescriptor (TJ7 k).2.2.1 = some (tyJ7 k) := by decide +kernel
abbrev cJ7_rangeCheck_23922 : ByteArray := prog_35_method_30_code
def yJ7_rangeCheck_23922 : MethodName := ⟨RJ7, "rangeCheck", "(III)V"⟩
abbrev cJ7_fill_eb02e : ByteArray := prog_35_method_110_code
def yJ7_fill_eb02e : MethodName := ⟨RJ7, "fill", "([BIIB)V"⟩
abbrev cJ7_copyOf_9075b : ByteArray := prog_35_method_121_code
def yJ7_copyOf_9075b : MethodName := ⟨RJ7, "copyOf", "([BI)[B"⟩
abbrev cJ7_checkLength_df160 : ByteArray := prog_35_method_131_code
def yJ7_checkLength_df160 : MethodName := ⟨RJ7, "checkLength", "(II)V"⟩
abbrev cJ7_copyOfRange_39247 : ByteArray := prog_35_method_132_code
def yJ7_copyOfRange_39247 : MethodName := ⟨RJ7, "copyOfRange", "([BII)[B"⟩
abbrev cJ7_copyOfRangeByte_39247 : ByteArray := prog_35_method_133_code
def yJ7_copyOfRangeByte_39247 : MethodName := ⟨RJ7, "copyOfRangeByte", "([BII)[B"⟩
def RJ8 : String := "jdk/internal/util/ArraysSupport"
def TJ8 : u_T := fun k => match k with
  | _ => ("", "", "", false)
def tyJ8 : Nat → FieldType := fun k => match k with
  | _ => .int
abbrev wsJ80 : List Cond := u_ws RJ8 TJ8 0
theorem nmJ8 : ∀ a, a < 0 → ∀ b, b < 0 → a ≠ b → (TJ8 a).2.1 ≠ (TJ8 b).2.1 := by decide +kernel
theorem tyJ8_ok : ∀ k, k < 0 → parseFieldDescriptor (TJ8 k).2.2.1 = some (tyJ8 k) := by decide +kernel
abbrev cJ8_newLength_cabcc : ByteArray := prog_37_method_27_code
def yJ8_newLength_cabcc : MethodName := ⟨RJ8, "newLength", "(III)I"⟩
abbrev cJ8_hugeLength_7cf53 : ByteArray := prog_37_method_28_code
def yJ8_hugeLength_7cf53 : MethodName := ⟨RJ8, "hugeLength", "(II)I"⟩
def RJ3 : String := "jdk/internal/util/Preconditions"
def TJ3 : u_T := fun k => match k with
  | _ => ("", "", "", false)
def tyJ3 : Nat → FieldType := fun k => match k with
  | _ => .int
abbrev wsJ30 : List Cond := u_ws RJ3 TJ3 0
theorem nmJ3 : ∀ a, a < 0 → ∀ b, b < 0 → a ≠ b → (TJ3 a).2.1 ≠ (TJ3 b).2.1 := by decide +kernel
theorem tyJ3_ok : ∀ k, k < 0 → parseFieldDescriptor (TJ3 k).2.2.1 = some (tyJ3 k) := by decide +kernel
abbrev cJ3_checkIndex_8e157 : ByteArray := prog_38_method_11_code
def yJ3_checkIndex_8e157 : MethodName := ⟨RJ3, "checkIndex", "(IILjava/util/function/BiFunction;)I"⟩
abbrev cJ3_checkFromToIndex_8c36e : ByteArray := prog_38_method_12_code
def yJ3_checkFromToIndex_8c36e : MethodName := ⟨RJ3, "checkFromToIndex", "(IIILjava/util/function/BiFunction;)I"⟩
abbrev cJ3_checkFromIndexSize_8c36e : ByteArray := prog_38_method_13_code
def yJ3_checkFromIndexSize_8c36e : MethodName := ⟨RJ3, "checkFromIndexSize", "(IIILjava/util/function/BiFunction;)I"⟩
def RL : String := "CanalLocksLaw"
abbrev cL_cell : ByteArray := method_2_code
def yL_cell : MethodName := ⟨RL, "cell", "([II)I"⟩
abbrev cL_some : ByteArray := method_3_code
def yL_some : MethodName := ⟨RL, "some", "([III)I"⟩
abbrev cL_addBoat : ByteArray := method_4_code
def yL_addBoat : MethodName := ⟨RL, "addBoat", "(LCanalLocks;CIZ)I"⟩
abbrev cL_setValve : ByteArray := method_5_code
def yL_setValve : MethodName := ⟨RL, "setValve", "(LCanalLocks;II)I"⟩
abbrev cL_openGate : ByteArray := method_6_code
def yL_openGate : MethodName := ⟨RL, "openGate", "(LCanalLocks;I)I"⟩
abbrev cL_shutGate : ByteArray := method_7_code
def yL_shutGate : MethodName := ⟨RL, "shutGate", "(LCanalLocks;I)I"⟩
abbrev cL_setRain : ByteArray := method_8_code
def yL_setRain : MethodName := ⟨RL, "setRain", "(LCanalLocks;I)I"⟩
abbrev cL_setDrain : ByteArray := method_9_code
def yL_setDrain : MethodName := ⟨RL, "setDrain", "(LCanalLocks;I)I"⟩
abbrev cL_advance : ByteArray := method_10_code
def yL_advance : MethodName := ⟨RL, "advance", "(LCanalLocks;I)I"⟩
abbrev cL_basinByLevel : ByteArray := method_11_code
def yL_basinByLevel : MethodName := ⟨RL, "basinByLevel", "(LCanalLocks;I)I"⟩
abbrev cL_boatInOrder : ByteArray := method_12_code
def yL_boatInOrder : MethodName := ⟨RL, "boatInOrder", "(LCanalLocks;I)I"⟩
abbrev cL_minutesUntilEqual : ByteArray := method_13_code
def yL_minutesUntilEqual : MethodName := ⟨RL, "minutesUntilEqual", "(LCanalLocks;I)I"⟩
abbrev cL_eventKind : ByteArray := method_14_code
def yL_eventKind : MethodName := ⟨RL, "eventKind", "(LCanalLocks;I)I"⟩
abbrev cL_eventNumber : ByteArray := method_15_code
def yL_eventNumber : MethodName := ⟨RL, "eventNumber", "(LCanalLocks;I)I"⟩
abbrev cL_sign : ByteArray := method_16_code
def yL_sign : MethodName := ⟨RL, "sign", "(I)C"⟩
abbrev cL_build : ByteArray := method_17_code
def yL_build : MethodName := ⟨RL, "build", "(LCanalLocks;[I)V"⟩
abbrev cL_acts : ByteArray := method_18_code
def yL_acts : MethodName := ⟨RL, "acts", "(LCanalLocks;[II)V"⟩
abbrev cL_litres : ByteArray := method_19_code
def yL_litres : MethodName := ⟨RL, "litres", "(IIII)I"⟩
abbrev cL_isLine : ByteArray := method_20_code
def yL_isLine : MethodName := ⟨RL, "isLine", "(LCanalLocks;ILjava/lang/String;)Z"⟩
abbrev cL_law : ByteArray := code
def yL_law : MethodName := ⟨RL, "law", "([I)Z"⟩
theorem inX0 : ∀ w ∈ wsX00, w ∈ lw_tbl := by decide +kernel
theorem inX1 : ∀ w ∈ wsX10, w ∈ lw_tbl := by decide +kernel
theorem inX2 : ∀ w ∈ wsX20, w ∈ lw_tbl := by decide +kernel
theorem inX3 : ∀ w ∈ wsX30, w ∈ lw_tbl := by decide +kernel
theorem inX4 : ∀ w ∈ wsX40, w ∈ lw_tbl := by decide +kernel
theorem inX5 : ∀ w ∈ wsX50, w ∈ lw_tbl := by decide +kernel
theorem inX6 : ∀ w ∈ wsX60, w ∈ lw_tbl := by decide +kernel
theorem inX7 : ∀ w ∈ wsX70, w ∈ lw_tbl := by decide +kernel
theorem inJx145de : ∀ w ∈ wsJx145de0, w ∈ lw_tbl := by decide +kernel
theorem inJ5 : ∀ w ∈ wsJ50, w ∈ lw_tbl := by decide +kernel
theorem inJx2cfe8 : ∀ w ∈ wsJx2cfe80, w ∈ lw_tbl := by decide +kernel
theorem inJx00060 : ∀ w ∈ wsJx000600, w ∈ lw_tbl := by decide +kernel
theorem inJx9f9b0 : ∀ w ∈ wsJx9f9b00, w ∈ lw_tbl := by decide +kernel
theorem inJx8e188 : ∀ w ∈ wsJx8e1880, w ∈ lw_tbl := by decide +kernel
theorem inJxb160c : ∀ w ∈ wsJxb160c0, w ∈ lw_tbl := by decide +kernel
theorem inJ6 : ∀ w ∈ wsJ60, w ∈ lw_tbl := by decide +kernel
theorem inJ9 : ∀ w ∈ wsJ90, w ∈ lw_tbl := by decide +kernel
theorem inJxd2413 : ∀ w ∈ wsJxd24130, w ∈ lw_tbl := by decide +kernel
theorem inJ0 : ∀ w ∈ wsJ00, w ∈ lw_tbl := by decide +kernel
theorem inJ4 : ∀ w ∈ wsJ40, w ∈ lw_tbl := by decide +kernel
theorem inJx7c733 : ∀ w ∈ wsJx7c7330, w ∈ lw_tbl := by decide +kernel
theorem inJ1 : ∀ w ∈ wsJ10, w ∈ lw_tbl := by decide +kernel
theorem inJ2 : ∀ w ∈ wsJ20, w ∈ lw_tbl := by decide +kernel
theorem inJ10 : ∀ w ∈ wsJ100, w ∈ lw_tbl := by decide +kernel
theorem inJxfd54e : ∀ w ∈ wsJxfd54e0, w ∈ lw_tbl := by decide +kernel
theorem inJx3cf43 : ∀ w ∈ wsJx3cf430, w ∈ lw_tbl := by decide +kernel
theorem inJ7 : ∀ w ∈ wsJ70, w ∈ lw_tbl := by decide +kernel
theorem inJ8 : ∀ w ∈ wsJ80, w ∈ lw_tbl := by decide +kernel
theorem inJ3 : ∀ w ∈ wsJ30, w ∈ lw_tbl := by decide +kernel
abbrev vwCl : List vw_C := [(RJ0, TJ0, 4), (RJ4, TJ4, 4), (RJx00060, TJx00060, 6), (RJx7c733, TJx7c733, 6), (RX0, TX0, 4), (RX1, TX1, 8), (RX2, TX2, 4), (RX3, TX3, 3), (RX4, TX4, 9), (RX5, TX5, 8), (RX6, TX6, 9)]
