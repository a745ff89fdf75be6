def RX0 : String := "WheatRun$Combine"
def TX0 : u_T := fun k => match k with
  | 0 => ("WheatRun$Combine", "number", "I", false)
  | 1 => ("WheatRun$Combine", "mile", "I", false)
  | 2 => ("WheatRun$Combine", "pace", "I", false)
  | 3 => ("WheatRun$Combine", "tank", "I", false)
  | 4 => ("WheatRun$Combine", "tankField", "I", false)
  | 5 => ("WheatRun$Combine", "tankDamp", "I", false)
  | 6 => ("WheatRun$Combine", "wear", "I", false)
  | 7 => ("WheatRun$Combine", "isBroken", "Z", false)
  | 8 => ("WheatRun$Combine", "idle", "I", false)
  | 9 => ("WheatRun$Combine", "goal", "I", false)
  | 10 => ("WheatRun$Combine", "acresCut", "I", false)
  | _ => ("WheatRun$Combine", "bushelsCut", "I", false)
def tyX0 : Nat → FieldType := fun k => match k with
  | 0 => .int
  | 1 => .int
  | 2 => .int
  | 3 => .int
  | 4 => .int
  | 5 => .int
  | 6 => .int
  | 7 => .boolean
  | 8 => .int
  | 9 => .int
  | 10 => .int
  | _ => .int
abbrev wsX00 : List Cond := u_ws RX0 TX0 12
theorem nmX0 : ∀ a, a < 12 → ∀ b, b < 12 → a ≠ b → (TX0 a).2.1 ≠ (TX0 b).2.1 := by decide +kernel
theorem tyX0_ok : ∀ k, k < 12 → parseFieldDescriptor (TX0 k).2.2.1 = some (tyX0 k) := by decide +kernel
abbrev cX0_init : ByteArray := prog_2_method_1_code
def yX0_init : MethodName := ⟨RX0, "<init>", "(III)V"⟩
abbrev cX0_copyFrom : ByteArray := prog_2_method_2_code
def yX0_copyFrom : MethodName := ⟨RX0, "copyFrom", "(LWheatRun$Combine;)V"⟩
abbrev cX0_passHour : ByteArray := prog_2_method_3_code
def yX0_passHour : MethodName := ⟨RX0, "passHour", "(LWheatRun$Field;II)V"⟩
abbrev cX0_holdsAnother : ByteArray := prog_2_method_4_code
def yX0_holdsAnother : MethodName := ⟨RX0, "holdsAnother", "()Z"⟩
abbrev cX0_acresAtOnce : ByteArray := prog_2_method_5_code
def yX0_acresAtOnce : MethodName := ⟨RX0, "acresAtOnce", "(LWheatRun$Field;)I"⟩
abbrev cX0_harvest : ByteArray := prog_2_method_6_code
def yX0_harvest : MethodName := ⟨RX0, "harvest", "(LWheatRun$Field;I)V"⟩
abbrev cX0_metered : ByteArray := prog_2_method_7_code
def yX0_metered : MethodName := ⟨RX0, "metered", "(I)I"⟩
def RX1 : String := "WheatRun$Elevator"
def TX1 : u_T := fun k => match k with
  | 0 => ("WheatRun$Elevator", "mile", "I", false)
  | 1 => ("WheatRun$Elevator", "room", "I", false)
  | 2 => ("WheatRun$Elevator", "from", "I", false)
  | 3 => ("WheatRun$Elevator", "to", "I", false)
  | 4 => ("WheatRun$Elevator", "least", "I", false)
  | _ => ("WheatRun$Elevator", "greatest", "I", false)
def tyX1 : Nat → FieldType := fun k => match k with
  | 0 => .int
  | 1 => .int
  | 2 => .int
  | 3 => .int
  | 4 => .int
  | _ => .int
abbrev wsX10 : List Cond := u_ws RX1 TX1 6
theorem nmX1 : ∀ a, a < 6 → ∀ b, b < 6 → a ≠ b → (TX1 a).2.1 ≠ (TX1 b).2.1 := by decide +kernel
theorem tyX1_ok : ∀ k, k < 6 → parseFieldDescriptor (TX1 k).2.2.1 = some (tyX1 k) := by decide +kernel
abbrev cX1_init : ByteArray := prog_3_method_1_code
def yX1_init : MethodName := ⟨RX1, "<init>", "(IIIIII)V"⟩
abbrev cX1_copyFrom : ByteArray := prog_3_method_2_code
def yX1_copyFrom : MethodName := ⟨RX1, "copyFrom", "(LWheatRun$Elevator;)V"⟩
abbrev cX1_takes : ByteArray := prog_3_method_3_code
def yX1_takes : MethodName := ⟨RX1, "takes", "(LWheatRun$Truck;I)Z"⟩
abbrev cX1_isOpen : ByteArray := prog_3_method_4_code
def yX1_isOpen : MethodName := ⟨RX1, "isOpen", "(I)Z"⟩
abbrev cX1_discount : ByteArray := prog_3_method_5_code
def yX1_discount : MethodName := ⟨RX1, "discount", "(I)I"⟩
def RX2 : String := "WheatRun$Field"
def TX2 : u_T := fun k => match k with
  | 0 => ("WheatRun$Field", "farmer", "I", false)
  | 1 => ("WheatRun$Field", "mile", "I", false)
  | 2 => ("WheatRun$Field", "acres", "I", false)
  | 3 => ("WheatRun$Field", "bushels", "I", false)
  | 4 => ("WheatRun$Field", "share", "I", false)
  | 5 => ("WheatRun$Field", "acresCut", "I", false)
  | 6 => ("WheatRun$Field", "ripe", "I", false)
  | 7 => ("WheatRun$Field", "damp", "I", false)
  | 8 => ("WheatRun$Field", "lost", "I", false)
  | 9 => ("WheatRun$Field", "map", "I", false)
  | 10 => ("WheatRun$Field", "sold", "I", false)
  | 11 => ("WheatRun$Field", "forFarmer", "I", false)
  | _ => ("WheatRun$Field", "forLandlord", "I", false)
def tyX2 : Nat → FieldType := fun k => match k with
  | 0 => .int
  | 1 => .int
  | 2 => .int
  | 3 => .int
  | 4 => .int
  | 5 => .int
  | 6 => .int
  | 7 => .int
  | 8 => .int
  | 9 => .int
  | 10 => .int
  | 11 => .int
  | _ => .int
abbrev wsX20 : List Cond := u_ws RX2 TX2 13
theorem nmX2 : ∀ a, a < 13 → ∀ b, b < 13 → a ≠ b → (TX2 a).2.1 ≠ (TX2 b).2.1 := by decide +kernel
theorem tyX2_ok : ∀ k, k < 13 → parseFieldDescriptor (TX2 k).2.2.1 = some (tyX2 k) := by decide +kernel
abbrev cX2_init : ByteArray := prog_4_method_1_code
def yX2_init : MethodName := ⟨RX2, "<init>", "(IIIII)V"⟩
abbrev cX2_copyFrom : ByteArray := prog_4_method_2_code
def yX2_copyFrom : MethodName := ⟨RX2, "copyFrom", "(LWheatRun$Field;)V"⟩
abbrev cX2_passHour : ByteArray := prog_4_method_3_code
def yX2_passHour : MethodName := ⟨RX2, "passHour", "(IIII)V"⟩
abbrev cX2_ripen : ByteArray := prog_4_method_4_code
def yX2_ripen : MethodName := ⟨RX2, "ripen", "(I)V"⟩
abbrev cX2_soakOrDry : ByteArray := prog_4_method_5_code
def yX2_soakOrDry : MethodName := ⟨RX2, "soakOrDry", "(II)V"⟩
abbrev cX2_shatter : ByteArray := prog_4_method_6_code
def yX2_shatter : MethodName := ⟨RX2, "shatter", "(II)V"⟩
abbrev cX2_isFit : ByteArray := prog_4_method_7_code
def yX2_isFit : MethodName := ⟨RX2, "isFit", "(I)Z"⟩
abbrev cX2_uncut : ByteArray := prog_4_method_8_code
def yX2_uncut : MethodName := ⟨RX2, "uncut", "()I"⟩
abbrev cX2_brings : ByteArray := prog_4_method_9_code
def yX2_brings : MethodName := ⟨RX2, "brings", "()I"⟩
abbrev cX2_correction : ByteArray := prog_4_method_10_code
def yX2_correction : MethodName := ⟨RX2, "correction", "(I)I"⟩
abbrev cX2_credit : ByteArray := prog_4_method_11_code
def yX2_credit : MethodName := ⟨RX2, "credit", "(II)V"⟩
def RX3 : String := "WheatRun$Land"
def TX3 : u_T := fun k => match k with
  | 0 => ("WheatRun$Land", "fields", "Ljava/util/ArrayList;", true)
  | 1 => ("WheatRun$Land", "combines", "Ljava/util/ArrayList;", true)
  | 2 => ("WheatRun$Land", "trucks", "Ljava/util/ArrayList;", true)
  | 3 => ("WheatRun$Land", "elevators", "Ljava/util/ArrayList;", true)
  | 4 => ("WheatRun$Land", "tickets", "Ljava/util/ArrayList;", true)
  | 5 => ("WheatRun$Land", "isTrial", "Z", true)
  | 6 => ("WheatRun$Land", "now", "I", false)
  | 7 => ("WheatRun$Land", "price", "I", false)
  | _ => ("WheatRun$Land", "money", "I", false)
def tyX3 : Nat → FieldType := fun k => match k with
  | 0 => .object "java/util/ArrayList"
  | 1 => .object "java/util/ArrayList"
  | 2 => .object "java/util/ArrayList"
  | 3 => .object "java/util/ArrayList"
  | 4 => .object "java/util/ArrayList"
  | 5 => .boolean
  | 6 => .int
  | 7 => .int
  | _ => .int
abbrev wsX30 : List Cond := u_ws RX3 TX3 9
theorem nmX3 : ∀ a, a < 9 → ∀ b, b < 9 → a ≠ b → (TX3 a).2.1 ≠ (TX3 b).2.1 := by decide +kernel
theorem tyX3_ok : ∀ k, k < 9 → parseFieldDescriptor (TX3 k).2.2.1 = some (tyX3 k) := by decide +kernel
abbrev cX3_init : ByteArray := prog_5_method_1_code
def yX3_init : MethodName := ⟨RX3, "<init>", "(Z)V"⟩
abbrev cX3_copyFrom : ByteArray := prog_5_method_2_code
def yX3_copyFrom : MethodName := ⟨RX3, "copyFrom", "(LWheatRun$Land;)V"⟩
abbrev cX3_addRowsAs : ByteArray := prog_5_method_3_code
def yX3_addRowsAs : MethodName := ⟨RX3, "addRowsAs", "(LWheatRun$Land;)V"⟩
abbrev cX3_fieldAt : ByteArray := prog_5_method_4_code
def yX3_fieldAt : MethodName := ⟨RX3, "fieldAt", "(I)LWheatRun$Field;"⟩
abbrev cX3_combineAt : ByteArray := prog_5_method_5_code
def yX3_combineAt : MethodName := ⟨RX3, "combineAt", "(I)LWheatRun$Combine;"⟩
abbrev cX3_truckAt : ByteArray := prog_5_method_6_code
def yX3_truckAt : MethodName := ⟨RX3, "truckAt", "(I)LWheatRun$Truck;"⟩
abbrev cX3_elevatorAt : ByteArray := prog_5_method_7_code
def yX3_elevatorAt : MethodName := ⟨RX3, "elevatorAt", "(I)LWheatRun$Elevator;"⟩
abbrev cX3_ticketAt : ByteArray := prog_5_method_8_code
def yX3_ticketAt : MethodName := ⟨RX3, "ticketAt", "(I)LWheatRun$Ticket;"⟩
abbrev cX3_clock : ByteArray := prog_5_method_9_code
def yX3_clock : MethodName := ⟨RX3, "clock", "()I"⟩
abbrev cX3_passHour : ByteArray := prog_5_method_10_code
def yX3_passHour : MethodName := ⟨RX3, "passHour", "(III)V"⟩
abbrev cX3_passTruckHour : ByteArray := prog_5_method_11_code
def yX3_passTruckHour : MethodName := ⟨RX3, "passTruckHour", "(LWheatRun$Truck;)V"⟩
abbrev cX3_unload : ByteArray := prog_5_method_12_code
def yX3_unload : MethodName := ⟨RX3, "unload", "(LWheatRun$Truck;LWheatRun$Elevator;)V"⟩
abbrev cX3_writeTicket : ByteArray := prog_5_method_13_code
def yX3_writeTicket : MethodName := ⟨RX3, "writeTicket", "(LWheatRun$Truck;LWheatRun$Elevator;)V"⟩
abbrev cX3_combinesSentTo : ByteArray := prog_5_method_14_code
def yX3_combinesSentTo : MethodName := ⟨RX3, "combinesSentTo", "(I)I"⟩
abbrev cX3_onTheWay : ByteArray := prog_5_method_15_code
def yX3_onTheWay : MethodName := ⟨RX3, "onTheWay", "(I)I"⟩
abbrev cX3_allOnTheWay : ByteArray := prog_5_method_16_code
def yX3_allOnTheWay : MethodName := ⟨RX3, "allOnTheWay", "()I"⟩
abbrev cX3_uncutAcres : ByteArray := prog_5_method_17_code
def yX3_uncutAcres : MethodName := ⟨RX3, "uncutAcres", "()I"⟩
abbrev cX3_brokenCombines : ByteArray := prog_5_method_18_code
def yX3_brokenCombines : MethodName := ⟨RX3, "brokenCombines", "()I"⟩
abbrev cX3_allRoom : ByteArray := prog_5_method_19_code
def yX3_allRoom : MethodName := ⟨RX3, "allRoom", "()I"⟩
abbrev cX3_allIdle : ByteArray := prog_5_method_20_code
def yX3_allIdle : MethodName := ⟨RX3, "allIdle", "()I"⟩
abbrev cX3_allQueued : ByteArray := prog_5_method_21_code
def yX3_allQueued : MethodName := ⟨RX3, "allQueued", "()I"⟩
def RX4 : String := "WheatRun$Ticket"
def TX4 : u_T := fun k => match k with
  | 0 => ("WheatRun$Ticket", "field", "I", true)
  | 1 => ("WheatRun$Ticket", "bushels", "I", true)
  | 2 => ("WheatRun$Ticket", "damp", "I", true)
  | 3 => ("WheatRun$Ticket", "discount", "I", true)
  | 4 => ("WheatRun$Ticket", "elevator", "I", true)
  | 5 => ("WheatRun$Ticket", "hour", "I", true)
  | _ => ("WheatRun$Ticket", "worth", "I", true)
def tyX4 : Nat → FieldType := fun k => match k with
  | 0 => .int
  | 1 => .int
  | 2 => .int
  | 3 => .int
  | 4 => .int
  | 5 => .int
  | _ => .int
abbrev wsX40 : List Cond := u_ws RX4 TX4 7
theorem nmX4 : ∀ a, a < 7 → ∀ b, b < 7 → a ≠ b → (TX4 a).2.1 ≠ (TX4 b).2.1 := by decide +kernel
theorem tyX4_ok : ∀ k, k < 7 → parseFieldDescriptor (TX4 k).2.2.1 = some (tyX4 k) := by decide +kernel
abbrev cX4_init : ByteArray := prog_6_method_1_code
def yX4_init : MethodName := ⟨RX4, "<init>", "(LWheatRun$Truck;III)V"⟩
def RX5 : String := "WheatRun$Truck"
def TX5 : u_T := fun k => match k with
  | 0 => ("WheatRun$Truck", "mile", "I", false)
  | 1 => ("WheatRun$Truck", "hours", "I", false)
  | 2 => ("WheatRun$Truck", "load", "I", false)
  | 3 => ("WheatRun$Truck", "loadField", "I", false)
  | 4 => ("WheatRun$Truck", "damp", "I", false)
  | 5 => ("WheatRun$Truck", "rest", "I", false)
  | 6 => ("WheatRun$Truck", "queued", "I", false)
  | 7 => ("WheatRun$Truck", "toCombine", "I", false)
  | 8 => ("WheatRun$Truck", "toElevator", "I", false)
  | _ => ("WheatRun$Truck", "driven", "I", false)
def tyX5 : Nat → FieldType := fun k => match k with
  | 0 => .int
  | 1 => .int
  | 2 => .int
  | 3 => .int
  | 4 => .int
  | 5 => .int
  | 6 => .int
  | 7 => .int
  | 8 => .int
  | _ => .int
abbrev wsX50 : List Cond := u_ws RX5 TX5 10
theorem nmX5 : ∀ a, a < 10 → ∀ b, b < 10 → a ≠ b → (TX5 a).2.1 ≠ (TX5 b).2.1 := by decide +kernel
theorem tyX5_ok : ∀ k, k < 10 → parseFieldDescriptor (TX5 k).2.2.1 = some (tyX5 k) := by decide +kernel
abbrev cX5_init : ByteArray := prog_7_method_1_code
def yX5_init : MethodName := ⟨RX5, "<init>", "(I)V"⟩
abbrev cX5_copyFrom : ByteArray := prog_7_method_2_code
def yX5_copyFrom : MethodName := ⟨RX5, "copyFrom", "(LWheatRun$Truck;)V"⟩
abbrev cX5_mustRest : ByteArray := prog_7_method_3_code
def yX5_mustRest : MethodName := ⟨RX5, "mustRest", "()Z"⟩
abbrev cX5_sleepHour : ByteArray := prog_7_method_4_code
def yX5_sleepHour : MethodName := ⟨RX5, "sleepHour", "()V"⟩
abbrev cX5_drive : ByteArray := prog_7_method_5_code
def yX5_drive : MethodName := ⟨RX5, "drive", "(I)V"⟩
abbrev cX5_takeFrom : ByteArray := prog_7_method_6_code
def yX5_takeFrom : MethodName := ⟨RX5, "takeFrom", "(LWheatRun$Combine;)V"⟩
def RX6 : String := "WheatRun"
def TX6 : u_T := fun k => match k with
  | 0 => ("WheatRun", "land", "LWheatRun$Land;", true)
  | 1 => ("WheatRun", "trial", "LWheatRun$Land;", true)
  | _ => ("WheatRun", "trialField", "LWheatRun$Field;", true)
def tyX6 : Nat → FieldType := fun k => match k with
  | 0 => .object "WheatRun$Land"
  | 1 => .object "WheatRun$Land"
  | _ => .object "WheatRun$Field"
abbrev wsX60 : List Cond := u_ws RX6 TX6 3
theorem nmX6 : ∀ a, a < 3 → ∀ b, b < 3 → a ≠ b → (TX6 a).2.1 ≠ (TX6 b).2.1 := by decide +kernel
theorem tyX6_ok : ∀ k, k < 3 → parseFieldDescriptor (TX6 k).2.2.1 = some (tyX6 k) := by decide +kernel
abbrev cX6_init : ByteArray := prog_1_method_1_code
def yX6_init : MethodName := ⟨RX6, "<init>", "()V"⟩
abbrev cX6_field : ByteArray := prog_1_method_2_code
def yX6_field : MethodName := ⟨RX6, "field", "(IIIII)I"⟩
abbrev cX6_crop : ByteArray := prog_1_method_3_code
def yX6_crop : MethodName := ⟨RX6, "crop", "(III)I"⟩
abbrev cX6_combine : ByteArray := prog_1_method_4_code
def yX6_combine : MethodName := ⟨RX6, "combine", "(II)I"⟩
abbrev cX6_truck : ByteArray := prog_1_method_5_code
def yX6_truck : MethodName := ⟨RX6, "truck", "(I)I"⟩
abbrev cX6_elevator : ByteArray := prog_1_method_6_code
def yX6_elevator : MethodName := ⟨RX6, "elevator", "(IIIIII)I"⟩
abbrev cX6_price : ByteArray := prog_1_method_7_code
def yX6_price : MethodName := ⟨RX6, "price", "(I)I"⟩
abbrev cX6_cut : ByteArray := prog_1_method_8_code
def yX6_cut : MethodName := ⟨RX6, "cut", "(II)I"⟩
abbrev cX6_fetch : ByteArray := prog_1_method_9_code
def yX6_fetch : MethodName := ⟨RX6, "fetch", "(II)I"⟩
abbrev cX6_haul : ByteArray := prog_1_method_10_code
def yX6_haul : MethodName := ⟨RX6, "haul", "(II)I"⟩
abbrev cX6_stop : ByteArray := prog_1_method_11_code
def yX6_stop : MethodName := ⟨RX6, "stop", "(I)I"⟩
abbrev cX6_mend : ByteArray := prog_1_method_12_code
def yX6_mend : MethodName := ⟨RX6, "mend", "(I)I"⟩
abbrev cX6_train : ByteArray := prog_1_method_13_code
def yX6_train : MethodName := ⟨RX6, "train", "(II)I"⟩
abbrev cX6_pass : ByteArray := prog_1_method_14_code
def yX6_pass : MethodName := ⟨RX6, "pass", "(IIII)I"⟩
abbrev cX6_ofField : ByteArray := prog_1_method_15_code
def yX6_ofField : MethodName := ⟨RX6, "ofField", "(II)I"⟩
abbrev cX6_ofCombine : ByteArray := prog_1_method_16_code
def yX6_ofCombine : MethodName := ⟨RX6, "ofCombine", "(II)I"⟩
abbrev cX6_ofTruck : ByteArray := prog_1_method_17_code
def yX6_ofTruck : MethodName := ⟨RX6, "ofTruck", "(II)I"⟩
abbrev cX6_ofTicket : ByteArray := prog_1_method_18_code
def yX6_ofTicket : MethodName := ⟨RX6, "ofTicket", "(II)I"⟩
abbrev cX6_owed : ByteArray := prog_1_method_19_code
def yX6_owed : MethodName := ⟨RX6, "owed", "(IZ)I"⟩
abbrev cX6_many : ByteArray := prog_1_method_20_code
def yX6_many : MethodName := ⟨RX6, "many", "(I)I"⟩
abbrev cX6_meanDamp : ByteArray := prog_1_method_21_code
def yX6_meanDamp : MethodName := ⟨RX6, "meanDamp", "()D"⟩
abbrev cX6_readyIn : ByteArray := prog_1_method_22_code
def yX6_readyIn : MethodName := ⟨RX6, "readyIn", "(III)I"⟩
abbrev cX6_nextField : ByteArray := prog_1_method_23_code
def yX6_nextField : MethodName := ⟨RX6, "nextField", "(IIII)I"⟩
abbrev cX6_waiting : ByteArray := prog_1_method_24_code
def yX6_waiting : MethodName := ⟨RX6, "waiting", "(IIIII)I"⟩
abbrev cX6_digest : ByteArray := prog_1_method_25_code
def yX6_digest : MethodName := ⟨RX6, "digest", "()J"⟩
abbrev cX6_isOutside : ByteArray := prog_1_method_26_code
def yX6_isOutside : MethodName := ⟨RX6, "isOutside", "(III)Z"⟩
abbrev cX6_isNoWeather : ByteArray := prog_1_method_27_code
def yX6_isNoWeather : MethodName := ⟨RX6, "isNoWeather", "(III)Z"⟩
abbrev cX6_isNoForecast : ByteArray := prog_1_method_28_code
def yX6_isNoForecast : MethodName := ⟨RX6, "isNoForecast", "(IIII)Z"⟩
abbrev cX6_towards : ByteArray := prog_1_method_29_code
def yX6_towards : MethodName := ⟨RX6, "towards", "(III)I"⟩
abbrev cX6_bushelsIfSent : ByteArray := prog_1_method_30_code
def yX6_bushelsIfSent : MethodName := ⟨RX6, "bushelsIfSent", "(IIIII)I"⟩
def RX7 : String := "WheatRunModel$Land"
def TX7 : u_T := fun k => match k with
  | 0 => ("WheatRunModel$Land", "fields", "[[I", true)
  | 1 => ("WheatRunModel$Land", "combines", "[[I", true)
  | 2 => ("WheatRunModel$Land", "trucks", "[[I", true)
  | 3 => ("WheatRunModel$Land", "elevators", "[[I", true)
  | 4 => ("WheatRunModel$Land", "tickets", "Ljava/util/List;", true)
  | 5 => ("WheatRunModel$Land", "now", "I", false)
  | 6 => ("WheatRunModel$Land", "fieldCount", "I", false)
  | 7 => ("WheatRunModel$Land", "combineCount", "I", false)
  | 8 => ("WheatRunModel$Land", "truckCount", "I", false)
  | _ => ("WheatRunModel$Land", "elevatorCount", "I", false)
def tyX7 : Nat → FieldType := fun k => match k with
  | 0 => .array (.array .int)
  | 1 => .array (.array .int)
  | 2 => .array (.array .int)
  | 3 => .array (.array .int)
  | 4 => .object "java/util/List"
  | 5 => .int
  | 6 => .int
  | 7 => .int
  | 8 => .int
  | _ => .int
abbrev wsX70 : List Cond := u_ws RX7 TX7 10
theorem nmX7 : ∀ a, a < 10 → ∀ b, b < 10 → a ≠ b → (TX7 a).2.1 ≠ (TX7 b).2.1 := by decide +kernel
theorem tyX7_ok : ∀ k, k < 10 → parseFieldDescriptor (TX7 k).2.2.1 = some (tyX7 k) := by decide +kernel
abbrev cX7_init : ByteArray := prog_10_method_1_code
def yX7_init : MethodName := ⟨RX7, "<init>", "()V"⟩
abbrev cX7_copy : ByteArray := prog_10_method_2_code
def yX7_copy : MethodName := ⟨RX7, "copy", "()LWheatRunModel$Land;"⟩
abbrev cX7_clock : ByteArray := prog_10_method_3_code
def yX7_clock : MethodName := ⟨RX7, "clock", "()I"⟩
abbrev cX7_brings : ByteArray := prog_10_method_4_code
def yX7_brings : MethodName := ⟨RX7, "brings", "([I)I"⟩
abbrev cX7_ripen : ByteArray := prog_10_method_5_code
def yX7_ripen : MethodName := ⟨RX7, "ripen", "([IIIII)V"⟩
abbrev cX7_go : ByteArray := prog_10_method_6_code
def yX7_go : MethodName := ⟨RX7, "go", "(III)I"⟩
abbrev cX7_towards : ByteArray := prog_10_method_7_code
def yX7_towards : MethodName := ⟨RX7, "towards", "([III)V"⟩
abbrev cX7_work : ByteArray := prog_10_method_8_code
def yX7_work : MethodName := ⟨RX7, "work", "(I[II)V"⟩
abbrev cX7_drive : ByteArray := prog_10_method_9_code
def yX7_drive : MethodName := ⟨RX7, "drive", "([I)V"⟩
abbrev cX7_load : ByteArray := prog_10_method_10_code
def yX7_load : MethodName := ⟨RX7, "load", "([I[I)V"⟩
abbrev cX7_isOpen : ByteArray := prog_10_method_11_code
def yX7_isOpen : MethodName := ⟨RX7, "isOpen", "([I)Z"⟩
abbrev cX7_sell : ByteArray := prog_10_method_12_code
def yX7_sell : MethodName := ⟨RX7, "sell", "([I[I)V"⟩
abbrev cX7_between : ByteArray := prog_10_method_13_code
def yX7_between : MethodName := ⟨RX7, "between", "(I)I"⟩
abbrev cX7_sentTo : ByteArray := prog_10_method_14_code
def yX7_sentTo : MethodName := ⟨RX7, "sentTo", "(I)I"⟩
def RX8 : String := "WheatRunModel"
def TX8 : u_T := fun k => match k with
  | 0 => ("WheatRunModel", "thrown", "I", false)
  | 1 => ("WheatRunModel", "land", "LWheatRunModel$Land;", true)
  | 2 => ("WheatRunModel", "farmers", "[I", true)
  | 3 => ("WheatRunModel", "landlords", "[I", true)
  | 4 => ("WheatRunModel", "price", "I", false)
  | _ => ("WheatRunModel", "money", "I", false)
def tyX8 : Nat → FieldType := fun k => match k with
  | 0 => .int
  | 1 => .object "WheatRunModel$Land"
  | 2 => .array .int
  | 3 => .array .int
  | 4 => .int
  | _ => .int
abbrev wsX80 : List Cond := u_ws RX8 TX8 6
theorem nmX8 : ∀ a, a < 6 → ∀ b, b < 6 → a ≠ b → (TX8 a).2.1 ≠ (TX8 b).2.1 := by decide +kernel
theorem tyX8_ok : ∀ k, k < 6 → parseFieldDescriptor (TX8 k).2.2.1 = some (tyX8 k) := by decide +kernel
abbrev cX8_init : ByteArray := prog_9_method_1_code
def yX8_init : MethodName := ⟨RX8, "<init>", "()V"⟩
abbrev cX8_thrown : ByteArray := prog_9_method_2_code
def yX8_thrown : MethodName := ⟨RX8, "thrown", "()I"⟩
abbrev cX8_no : ByteArray := prog_9_method_3_code
def yX8_no : MethodName := ⟨RX8, "no", "(I)I"⟩
abbrev cX8_in : ByteArray := prog_9_method_4_code
def yX8_in : MethodName := ⟨RX8, "in", "(III)Z"⟩
abbrev cX8_isField : ByteArray := prog_9_method_5_code
def yX8_isField : MethodName := ⟨RX8, "isField", "(I)Z"⟩
abbrev cX8_isCombine : ByteArray := prog_9_method_6_code
def yX8_isCombine : MethodName := ⟨RX8, "isCombine", "(I)Z"⟩
abbrev cX8_isTruck : ByteArray := prog_9_method_7_code
def yX8_isTruck : MethodName := ⟨RX8, "isTruck", "(I)Z"⟩
abbrev cX8_isElevator : ByteArray := prog_9_method_8_code
def yX8_isElevator : MethodName := ⟨RX8, "isElevator", "(I)Z"⟩
abbrev cX8_isMile : ByteArray := prog_9_method_9_code
def yX8_isMile : MethodName := ⟨RX8, "isMile", "(I)Z"⟩
abbrev cX8_field : ByteArray := prog_9_method_10_code
def yX8_field : MethodName := ⟨RX8, "field", "(IIIII)I"⟩
abbrev cX8_crop : ByteArray := prog_9_method_11_code
def yX8_crop : MethodName := ⟨RX8, "crop", "(III)I"⟩
abbrev cX8_combine : ByteArray := prog_9_method_12_code
def yX8_combine : MethodName := ⟨RX8, "combine", "(II)I"⟩
abbrev cX8_truck : ByteArray := prog_9_method_13_code
def yX8_truck : MethodName := ⟨RX8, "truck", "(I)I"⟩
abbrev cX8_elevator : ByteArray := prog_9_method_14_code
def yX8_elevator : MethodName := ⟨RX8, "elevator", "(IIIIII)I"⟩
abbrev cX8_price : ByteArray := prog_9_method_15_code
def yX8_price : MethodName := ⟨RX8, "price", "(I)I"⟩
abbrev cX8_cut : ByteArray := prog_9_method_16_code
def yX8_cut : MethodName := ⟨RX8, "cut", "(II)I"⟩
abbrev cX8_send : ByteArray := prog_9_method_17_code
def yX8_send : MethodName := ⟨RX8, "send", "(IIII)I"⟩
abbrev cX8_fetch : ByteArray := prog_9_method_18_code
def yX8_fetch : MethodName := ⟨RX8, "fetch", "(II)I"⟩
abbrev cX8_haul : ByteArray := prog_9_method_19_code
def yX8_haul : MethodName := ⟨RX8, "haul", "(II)I"⟩
abbrev cX8_stop : ByteArray := prog_9_method_20_code
def yX8_stop : MethodName := ⟨RX8, "stop", "(I)I"⟩
abbrev cX8_mend : ByteArray := prog_9_method_21_code
def yX8_mend : MethodName := ⟨RX8, "mend", "(I)I"⟩
abbrev cX8_train : ByteArray := prog_9_method_22_code
def yX8_train : MethodName := ⟨RX8, "train", "(II)I"⟩
abbrev cX8_isWeather : ByteArray := prog_9_method_23_code
def yX8_isWeather : MethodName := ⟨RX8, "isWeather", "(III)Z"⟩
abbrev cX8_pass : ByteArray := prog_9_method_24_code
def yX8_pass : MethodName := ⟨RX8, "pass", "(IIII)I"⟩
abbrev cX8_pay : ByteArray := prog_9_method_25_code
def yX8_pay : MethodName := ⟨RX8, "pay", "([I)V"⟩
abbrev cX8_fieldNow : ByteArray := prog_9_method_26_code
def yX8_fieldNow : MethodName := ⟨RX8, "fieldNow", "(II)I"⟩
abbrev cX8_ofField : ByteArray := prog_9_method_27_code
def yX8_ofField : MethodName := ⟨RX8, "ofField", "(II)I"⟩
abbrev cX8_combineNow : ByteArray := prog_9_method_28_code
def yX8_combineNow : MethodName := ⟨RX8, "combineNow", "(II)I"⟩
abbrev cX8_ofCombine : ByteArray := prog_9_method_29_code
def yX8_ofCombine : MethodName := ⟨RX8, "ofCombine", "(II)I"⟩
abbrev cX8_truckNow : ByteArray := prog_9_method_30_code
def yX8_truckNow : MethodName := ⟨RX8, "truckNow", "(II)I"⟩
abbrev cX8_ofTruck : ByteArray := prog_9_method_31_code
def yX8_ofTruck : MethodName := ⟨RX8, "ofTruck", "(II)I"⟩
abbrev cX8_ofTicket : ByteArray := prog_9_method_32_code
def yX8_ofTicket : MethodName := ⟨RX8, "ofTicket", "(II)I"⟩
abbrev cX8_owed : ByteArray := prog_9_method_33_code
def yX8_owed : MethodName := ⟨RX8, "owed", "(IZ)I"⟩
abbrev cX8_manyNow : ByteArray := prog_9_method_34_code
def yX8_manyNow : MethodName := ⟨RX8, "manyNow", "(I)I"⟩
abbrev cX8_many : ByteArray := prog_9_method_35_code
def yX8_many : MethodName := ⟨RX8, "many", "(I)I"⟩
abbrev cX8_meanDamp : ByteArray := prog_9_method_36_code
def yX8_meanDamp : MethodName := ⟨RX8, "meanDamp", "()D"⟩
abbrev cX8_readyNow : ByteArray := prog_9_method_37_code
def yX8_readyNow : MethodName := ⟨RX8, "readyNow", "(III)I"⟩
abbrev cX8_readyIn : ByteArray := prog_9_method_38_code
def yX8_readyIn : MethodName := ⟨RX8, "readyIn", "(III)I"⟩
abbrev cX8_nextNow : ByteArray := prog_9_method_39_code
def yX8_nextNow : MethodName := ⟨RX8, "nextNow", "(IIII)I"⟩
abbrev cX8_nextField : ByteArray := prog_9_method_40_code
def yX8_nextField : MethodName := ⟨RX8, "nextField", "(IIII)I"⟩
abbrev cX8_waitingNow : ByteArray := prog_9_method_41_code
def yX8_waitingNow : MethodName := ⟨RX8, "waitingNow", "(IIIII)I"⟩
abbrev cX8_waiting : ByteArray := prog_9_method_42_code
def yX8_waiting : MethodName := ⟨RX8, "waiting", "(IIIII)I"⟩
abbrev cX8_digest : ByteArray := prog_9_method_43_code
def yX8_digest : MethodName := ⟨RX8, "digest", "()J"⟩
def RJx145de : String := "java/io/Serializable"
def TJx145de : u_T := fun k => match k with
  | _ => ("", "", "", false)
def tyJx145de : Nat → FieldType := fun k => match k with
  | _ => .int
abbrev wsJx145de0 : List Cond := u_ws RJx145de TJx145de 0
theorem nmJx145de : ∀ a, a < 0 → ∀ b, b < 0 → a ≠ b → (TJx145de a).2.1 ≠ (TJx145de b).2.1 := by decide +kernel
theorem tyJx145de_ok : ∀ k, k < 0 → parseFieldDescriptor (TJx145de k).2.2.1 = some (tyJx145de k) := by decide +kernel
def RJx8e188 : String := "java/lang/Cloneable"
def TJx8e188 : u_T := fun k => match k with
  | _ => ("", "", "", false)
def tyJx8e188 : Nat → FieldType := fun k => match k with
  | _ => .int
abbrev wsJx8e1880 : List Cond := u_ws RJx8e188 TJx8e188 0
theorem nmJx8e188 : ∀ a, a < 0 → ∀ b, b < 0 → a ≠ b → (TJx8e188 a).2.1 ≠ (TJx8e188 b).2.1 := by decide +kernel
theorem tyJx8e188_ok : ∀ k, k < 0 → parseFieldDescriptor (TJx8e188 k).2.2.1 = some (tyJx8e188 k) := by decide +kernel
def RJxab1ab : String := "java/lang/Iterable"
def TJxab1ab : u_T := fun k => match k with
  | _ => ("", "", "", false)
def tyJxab1ab : Nat → FieldType := fun k => match k with
  | _ => .int
abbrev wsJxab1ab0 : List Cond := u_ws RJxab1ab TJxab1ab 0
theorem nmJxab1ab : ∀ a, a < 0 → ∀ b, b < 0 → a ≠ b → (TJxab1ab a).2.1 ≠ (TJxab1ab b).2.1 := by decide +kernel
theorem tyJxab1ab_ok : ∀ k, k < 0 → parseFieldDescriptor (TJxab1ab k).2.2.1 = some (tyJxab1ab k) := by decide +kernel
def RJ9 : String := "java/lang/Math"
def TJ9 : u_T := fun k => match k with
  | _ => ("", "", "", false)
def tyJ9 : Nat → FieldType := fun k => match k with
  | _ => .int
abbrev wsJ90 : List Cond := u_ws RJ9 TJ9 0
theorem nmJ9 : ∀ a, a < 0 → ∀ b, b < 0 → a ≠ b → (TJ9 a).2.1 ≠ (TJ9 b).2.1 := by decide +kernel
theorem tyJ9_ok : ∀ k, k < 0 → parseFieldDescriptor (TJ9 k).2.2.1 = some (tyJ9 k) := by decide +kernel
abbrev cJ9_abs_0f7a4 : ByteArray := prog_18_method_59_code
def yJ9_abs_0f7a4 : MethodName := ⟨RJ9, "abs", "(I)I"⟩
abbrev cJ9_max_7cf53 : ByteArray := prog_18_method_65_code
def yJ9_max_7cf53 : MethodName := ⟨RJ9, "max", "(II)I"⟩
abbrev cJ9_min_7cf53 : ByteArray := prog_18_method_69_code
def yJ9_min_7cf53 : MethodName := ⟨RJ9, "min", "(II)I"⟩
def RJ0 : String := "java/lang/String"
def TJ0 : u_T := fun k => match k with
  | _ => ("", "", "", false)
def tyJ0 : Nat → FieldType := fun k => match k with
  | _ => .int
abbrev wsJ00 : List Cond := u_ws RJ0 TJ0 0
theorem nmJ0 : ∀ a, a < 0 → ∀ b, b < 0 → a ≠ b → (TJ0 a).2.1 ≠ (TJ0 b).2.1 := by decide +kernel
theorem tyJ0_ok : ∀ k, k < 0 → parseFieldDescriptor (TJ0 k).2.2.1 = some (tyJ0 k) := by decide +kernel
def RJ10 : String := "java/lang/System"
def TJ10 : u_T := fun k => match k with
  | _ => ("", "", "", false)
def tyJ10 : Nat → FieldType := fun k => match k with
  | _ => .int
abbrev wsJ100 : List Cond := u_ws RJ10 TJ10 0
theorem nmJ10 : ∀ a, a < 0 → ∀ b, b < 0 → a ≠ b → (TJ10 a).2.1 ≠ (TJ10 b).2.1 := by decide +kernel
theorem tyJ10_ok : ∀ k, k < 0 → parseFieldDescriptor (TJ10 k).2.2.1 = some (tyJ10 k) := by decide +kernel
def RJxa1e45 : String := "java/util/AbstractCollection"
def TJxa1e45 : u_T := fun k => match k with
  | _ => ("", "", "", false)
def tyJxa1e45 : Nat → FieldType := fun k => match k with
  | _ => .int
abbrev wsJxa1e450 : List Cond := u_ws RJxa1e45 TJxa1e45 0
theorem nmJxa1e45 : ∀ a, a < 0 → ∀ b, b < 0 → a ≠ b → (TJxa1e45 a).2.1 ≠ (TJxa1e45 b).2.1 := by decide +kernel
theorem tyJxa1e45_ok : ∀ k, k < 0 → parseFieldDescriptor (TJxa1e45 k).2.2.1 = some (tyJxa1e45 k) := by decide +kernel
abbrev cJxa1e45_init_da8c8 : ByteArray := prog_23_method_1_code
def yJxa1e45_init_da8c8 : MethodName := ⟨RJxa1e45, "<init>", "()V"⟩
def RJxc12de : String := "java/util/AbstractList"
def TJxc12de : u_T := fun k => match k with
  | _ => ("", "", "", false)
def tyJxc12de : Nat → FieldType := fun k => match k with
  | _ => .int
abbrev wsJxc12de0 : List Cond := u_ws RJxc12de TJxc12de 0
theorem nmJxc12de : ∀ a, a < 0 → ∀ b, b < 0 → a ≠ b → (TJxc12de a).2.1 ≠ (TJxc12de b).2.1 := by decide +kernel
theorem tyJxc12de_ok : ∀ k, k < 0 → parseFieldDescriptor (TJxc12de k).2.2.1 = some (tyJxc12de k) := by decide +kernel
abbrev cJxc12de_init_da8c8 : ByteArray := prog_24_method_1_code
def yJxc12de_init_da8c8 : MethodName := ⟨RJxc12de, "<init>", "()V"⟩
def RJx4a65c : String := "java/util/ArrayList"
def TJx4a65c : u_T := fun k => match k with
  | 0 => ("java/util/AbstractList", "modCount", "I", false)
  | 1 => ("java/util/ArrayList", "elementData", "[Ljava/lang/Object;", false)
  | _ => ("java/util/ArrayList", "size", "I", false)
def tyJx4a65c : Nat → FieldType := fun k => match k with
  | 0 => .int
  | 1 => .array (.object "java/lang/Object")
  | _ => .int
abbrev wsJx4a65c0 : List Cond := u_ws RJx4a65c TJx4a65c 3
theorem nmJx4a65c : ∀ a, a < 3 → ∀ b, b < 3 → a ≠ b → (TJx4a65c a).2.1 ≠ (TJx4a65c b).2.1 := by decide +kernel
theorem tyJx4a65c_ok : ∀ k, k < 3 → parseFieldDescriptor (TJx4a65c k).2.2.1 = some (tyJx4a65c k) := by decide +kernel
abbrev cJx4a65c_init_da8c8 : ByteArray := prog_25_method_2_code
def yJx4a65c_init_da8c8 : MethodName := ⟨RJx4a65c, "<init>", "()V"⟩
abbrev cJx4a65c_grow_92f84 : ByteArray := prog_25_method_6_code
def yJx4a65c_grow_92f84 : MethodName := ⟨RJx4a65c, "grow", "(I)[Ljava/lang/Object;"⟩
abbrev cJx4a65c_grow_d5877 : ByteArray := prog_25_method_7_code
def yJx4a65c_grow_d5877 : MethodName := ⟨RJx4a65c, "grow", "()[Ljava/lang/Object;"⟩
abbrev cJx4a65c_size_8abf5 : ByteArray := prog_25_method_8_code
def yJx4a65c_size_8abf5 : MethodName := ⟨RJx4a65c, "size", "()I"⟩
abbrev cJx4a65c_elementData_915e3 : ByteArray := prog_25_method_18_code
def yJx4a65c_elementData_915e3 : MethodName := ⟨RJx4a65c, "elementData", "(I)Ljava/lang/Object;"⟩
abbrev cJx4a65c_get_915e3 : ByteArray := prog_25_method_20_code
def yJx4a65c_get_915e3 : MethodName := ⟨RJx4a65c, "get", "(I)Ljava/lang/Object;"⟩
abbrev cJx4a65c_add_72be8 : ByteArray := prog_25_method_24_code
def yJx4a65c_add_72be8 : MethodName := ⟨RJx4a65c, "add", "(Ljava/lang/Object;[Ljava/lang/Object;I)V"⟩
abbrev cJx4a65c_add_9ea2d : ByteArray := prog_25_method_25_code
def yJx4a65c_add_9ea2d : MethodName := ⟨RJx4a65c, "add", "(Ljava/lang/Object;)Z"⟩
def RJ7 : String := "java/util/Arrays"
def TJ7 : u_T := fun k => match k with
  | _ => ("", "", "", false)
def tyJ7 : Nat → FieldType := fun k => match k with
  | _ => .int
abbrev wsJ70 : List Cond := u_ws RJ7 TJ7 0
theorem nmJ7 : ∀ a, a < 0 → ∀ b, b < 0 → a ≠ b → (TJ7 a).2.1 ≠ (TJ7 b).2.1 := by decide +kernel
theorem tyJ7_ok : ∀ k, k < 0 → parseFieldDescriptor (TJ7 k).2.2.1 = some (tyJ7 k) := by decide +kernel
abbrev cJ7_copyOf_1904c : ByteArray := prog_26_method_119_code
def yJ7_copyOf_1904c : MethodName := ⟨RJ7, "copyOf", "([Ljava/lang/Object;I)[Ljava/lang/Object;"⟩
abbrev cJ7_copyOf_6403c : ByteArray := prog_26_method_120_code
def yJ7_copyOf_6403c : MethodName := ⟨RJ7, "copyOf", "([Ljava/lang/Object;ILjava/lang/Class;)[Ljava/lang/Object;"⟩
def RJx5ef63 : String := "java/util/Collection"
def TJx5ef63 : u_T := fun k => match k with
  | _ => ("", "", "", false)
def tyJx5ef63 : Nat → FieldType := fun k => match k with
  | _ => .int
abbrev wsJx5ef630 : List Cond := u_ws RJx5ef63 TJx5ef63 0
theorem nmJx5ef63 : ∀ a, a < 0 → ∀ b, b < 0 → a ≠ b → (TJx5ef63 a).2.1 ≠ (TJx5ef63 b).2.1 := by decide +kernel
theorem tyJx5ef63_ok : ∀ k, k < 0 → parseFieldDescriptor (TJx5ef63 k).2.2.1 = some (tyJx5ef63 k) := by decide +kernel
def RJxbd725 : String := "java/util/List"
def TJxbd725 : u_T := fun k => match k with
  | _ => ("", "", "", false)
def tyJxbd725 : Nat → FieldType := fun k => match k with
  | _ => .int
abbrev wsJxbd7250 : List Cond := u_ws RJxbd725 TJxbd725 0
theorem nmJxbd725 : ∀ a, a < 0 → ∀ b, b < 0 → a ≠ b → (TJxbd725 a).2.1 ≠ (TJxbd725 b).2.1 := by decide +kernel
theorem tyJxbd725_ok : ∀ k, k < 0 → parseFieldDescriptor (TJxbd725 k).2.2.1 = some (tyJxbd725 k) := by decide +kernel
def RJ15 : String := "java/util/Objects"
def TJ15 : u_T := fun k => match k with
  | _ => ("", "", "", false)
def tyJ15 : Nat → FieldType := fun k => match k with
  | _ => .int
abbrev wsJ150 : List Cond := u_ws RJ15 TJ15 0
theorem nmJ15 : ∀ a, a < 0 → ∀ b, b < 0 → a ≠ b → (TJ15 a).2.1 ≠ (TJ15 b).2.1 := by decide +kernel
theorem tyJ15_ok : ∀ k, k < 0 → parseFieldDescriptor (TJ15 k).2.2.1 = some (tyJ15 k) := by decide +kernel
abbrev cJ15_checkIndex_7cf53 : ByteArray := prog_29_method_17_code
def yJ15_checkIndex_7cf53 : MethodName := ⟨RJ15, "checkIndex", "(II)I"⟩
def RJxf0a74 : String := "java/util/RandomAccess"
def TJxf0a74 : u_T := fun k => match k with
  | _ => ("", "", "", false)
def tyJxf0a74 : Nat → FieldType := fun k => match k with
  | _ => .int
abbrev wsJxf0a740 : List Cond := u_ws RJxf0a74 TJxf0a74 0
theorem nmJxf0a74 : ∀ a, a < 0 → ∀ b, b < 0 → a ≠ b → (TJxf0a74 a).2.1 ≠ (TJxf0a74 b).2.1 := by decide +kernel
theorem tyJxf0a74_ok : ∀ k, k < 0 → parseFieldDescriptor (TJxf0a74 k).2.2.1 = some (tyJxf0a74 k) := by decide +kernel
def RJxa66e6 : String := "java/util/SequencedCollection"
def TJxa66e6 : u_T := fun k => match k with
  | _ => ("", "", "", false)
def tyJxa66e6 : Nat → FieldType := fun k => match k with
  | _ => .int
abbrev wsJxa66e60 : List Cond := u_ws RJxa66e6 TJxa66e6 0
theorem nmJxa66e6 : ∀ a, a < 0 → ∀ b, b < 0 → a ≠ b → (TJxa66e6 a).2.1 ≠ (TJxa66e6 b).2.1 := by decide +kernel
theorem tyJxa66e6_ok : ∀ k, k < 0 → parseFieldDescriptor (TJxa66e6 k).2.2.1 = some (tyJxa66e6 k) := by decide +kernel
def RJ8 : String := "jdk/internal/util/ArraysSupport"
def TJ8 : u_T := fun k => match k with
  | _ => ("", "", "", false)
def tyJ8 : Nat → FieldType := fun k => match k with
  | _ => .int
abbrev wsJ80 : List Cond := u_ws RJ8 TJ8 0
theorem nmJ8 : ∀ a, a < 0 → ∀ b, b < 0 → a ≠ b → (TJ8 a).2.1 ≠ (TJ8 b).2.1 := by decide +kernel
theorem tyJ8_ok : ∀ k, k < 0 → parseFieldDescriptor (TJ8 k).2.2.1 = some (tyJ8 k) := by decide +kernel
abbrev cJ8_newLength_cabcc : ByteArray := prog_32_method_27_code
def yJ8_newLength_cabcc : MethodName := ⟨RJ8, "newLength", "(III)I"⟩
abbrev cJ8_hugeLength_7cf53 : ByteArray := prog_32_method_28_code
def yJ8_hugeLength_7cf53 : MethodName := ⟨RJ8, "hugeLength", "(II)I"⟩
def RJ3 : String := "jdk/internal/util/Preconditions"
def TJ3 : u_T := fun k => match k with
  | _ => ("", "", "", false)
def tyJ3 : Nat → FieldType := fun k => match k with
  | _ => .int
abbrev wsJ30 : List Cond := u_ws RJ3 TJ3 0
theorem nmJ3 : ∀ a, a < 0 → ∀ b, b < 0 → a ≠ b → (TJ3 a).2.1 ≠ (TJ3 b).2.1 := by decide +kernel
theorem tyJ3_ok : ∀ k, k < 0 → parseFieldDescriptor (TJ3 k).2.2.1 = some (tyJ3 k) := by decide +kernel
abbrev cJ3_checkIndex_8e157 : ByteArray := prog_33_method_11_code
def yJ3_checkIndex_8e157 : MethodName := ⟨RJ3, "checkIndex", "(IILjava/util/function/BiFunction;)I"⟩
def RL : String := "WheatRunLaw"
abbrev cL_field : ByteArray := method_3_code
def yL_field : MethodName := ⟨RL, "field", "(LWheatRun;IIIII[J)I"⟩
abbrev cL_crop : ByteArray := method_4_code
def yL_crop : MethodName := ⟨RL, "crop", "(LWheatRun;III[J)I"⟩
abbrev cL_combine : ByteArray := method_5_code
def yL_combine : MethodName := ⟨RL, "combine", "(LWheatRun;II[J)I"⟩
abbrev cL_truck : ByteArray := method_6_code
def yL_truck : MethodName := ⟨RL, "truck", "(LWheatRun;I[J)I"⟩
abbrev cL_elevator : ByteArray := method_7_code
def yL_elevator : MethodName := ⟨RL, "elevator", "(LWheatRun;IIIIII[J)I"⟩
abbrev cL_price : ByteArray := method_8_code
def yL_price : MethodName := ⟨RL, "price", "(LWheatRun;I[J)I"⟩
abbrev cL_cut : ByteArray := method_9_code
def yL_cut : MethodName := ⟨RL, "cut", "(LWheatRun;II[J)I"⟩
abbrev cL_fetch : ByteArray := method_10_code
def yL_fetch : MethodName := ⟨RL, "fetch", "(LWheatRun;II[J)I"⟩
abbrev cL_haul : ByteArray := method_11_code
def yL_haul : MethodName := ⟨RL, "haul", "(LWheatRun;II[J)I"⟩
abbrev cL_stop : ByteArray := method_12_code
def yL_stop : MethodName := ⟨RL, "stop", "(LWheatRun;I[J)I"⟩
abbrev cL_mend : ByteArray := method_13_code
def yL_mend : MethodName := ⟨RL, "mend", "(LWheatRun;I[J)I"⟩
abbrev cL_train : ByteArray := method_14_code
def yL_train : MethodName := ⟨RL, "train", "(LWheatRun;II[J)I"⟩
abbrev cL_pass : ByteArray := method_15_code
def yL_pass : MethodName := ⟨RL, "pass", "(LWheatRun;IIII[J)I"⟩
abbrev cL_ofField : ByteArray := method_16_code
def yL_ofField : MethodName := ⟨RL, "ofField", "(LWheatRun;II[J)I"⟩
abbrev cL_ofCombine : ByteArray := method_17_code
def yL_ofCombine : MethodName := ⟨RL, "ofCombine", "(LWheatRun;II[J)I"⟩
abbrev cL_ofTruck : ByteArray := method_18_code
def yL_ofTruck : MethodName := ⟨RL, "ofTruck", "(LWheatRun;II[J)I"⟩
abbrev cL_ofTicket : ByteArray := method_19_code
def yL_ofTicket : MethodName := ⟨RL, "ofTicket", "(LWheatRun;II[J)I"⟩
abbrev cL_owed : ByteArray := method_20_code
def yL_owed : MethodName := ⟨RL, "owed", "(LWheatRun;IZ[J)I"⟩
abbrev cL_many : ByteArray := method_21_code
def yL_many : MethodName := ⟨RL, "many", "(LWheatRun;I[J)I"⟩
abbrev cL_readyIn : ByteArray := method_22_code
def yL_readyIn : MethodName := ⟨RL, "readyIn", "(LWheatRun;III[J)I"⟩
abbrev cL_nextField : ByteArray := method_23_code
def yL_nextField : MethodName := ⟨RL, "nextField", "(LWheatRun;IIII[J)I"⟩
abbrev cL_waiting : ByteArray := method_24_code
def yL_waiting : MethodName := ⟨RL, "waiting", "(LWheatRun;IIIII[J)I"⟩
abbrev cL_law : ByteArray := code
def yL_law : MethodName := ⟨RL, "law", "([I)Z"⟩
def wsL_law0_r1 : List Cond := [Cond.classLink RL 8 RX6, Cond.instantiable RX6 3, Cond.initialized RX6, Cond.classLink RL 89 RX8, Cond.instantiable RX8 6, Cond.initialized RX8, Cond.arrayClass .long, Cond.methodLink RL 88 yX6_init, Cond.instanceMethod yX6_init, Cond.code yX6_init cX6_init 1 none, Cond.methodLink RX6 1 objectInit, Cond.instanceMethod objectInit, Cond.code objectInit ⟨#[0xb1]⟩ 1 none, Cond.classLink RX6 7 RX3, Cond.instantiable RX3 9, Cond.initialized RX3, Cond.fieldLink RX6 12 "WheatRun" "land" "LWheatRun$Land;", Cond.fieldLink RX6 18 "WheatRun" "trial" "LWheatRun$Land;", Cond.classLink RX6 21 RX2, Cond.instantiable RX2 13, Cond.initialized RX2, Cond.fieldLink RX6 26 "WheatRun" "trialField" "LWheatRun$Field;", Cond.methodLink RX6 9 yX3_init, Cond.instanceMethod yX3_init]
def wsL_law0_r2 : List Cond := [Cond.code yX3_init cX3_init 2 none, Cond.methodLink RX3 3 objectInit, Cond.classLink RX3 9 RJx4a65c, Cond.instantiable RJx4a65c 3, Cond.initialized RJx4a65c, Cond.fieldLink RX3 12 "WheatRun$Land" "fields" "Ljava/util/ArrayList;", Cond.fieldLink RX3 18 "WheatRun$Land" "combines" "Ljava/util/ArrayList;", Cond.fieldLink RX3 21 "WheatRun$Land" "trucks" "Ljava/util/ArrayList;", Cond.fieldLink RX3 24 "WheatRun$Land" "elevators" "Ljava/util/ArrayList;", Cond.fieldLink RX3 27 "WheatRun$Land" "tickets" "Ljava/util/ArrayList;", Cond.fieldLink RX3 30 "WheatRun$Land" "price" "I", Cond.fieldLink RX3 34 "WheatRun$Land" "money" "I", Cond.fieldLink RX3 37 "WheatRun$Land" "isTrial" "Z", Cond.methodLink RX3 11 yJx4a65c_init_da8c8, Cond.instanceMethod yJx4a65c_init_da8c8, Cond.code yJx4a65c_init_da8c8 cJx4a65c_init_da8c8 1 none, Cond.fieldLink RJx4a65c 39 "java/util/ArrayList" "DEFAULTCAPACITY_EMPTY_ELEMENTDATA" "[Ljava/lang/Object;", Cond.fieldLink RJx4a65c 9 "java/util/ArrayList" "elementData" "[Ljava/lang/Object;", Cond.methodLink RJx4a65c 1 yJxc12de_init_da8c8, Cond.instanceMethod yJxc12de_init_da8c8, Cond.initialized RJxc12de, Cond.code yJxc12de_init_da8c8 cJxc12de_init_da8c8 1 none, Cond.fieldLink RJxc12de 7 "java/util/AbstractList" "modCount" "I", Cond.methodLink RJxc12de 1 yJxa1e45_init_da8c8]
def wsL_law0_r3 : List Cond := [Cond.instanceMethod yJxa1e45_init_da8c8, Cond.initialized RJxa1e45, Cond.code yJxa1e45_init_da8c8 cJxa1e45_init_da8c8 1 none, Cond.methodLink RJxa1e45 1 objectInit, Cond.methodLink RX6 23 yX2_init, Cond.instanceMethod yX2_init, Cond.code yX2_init cX2_init 6 none, Cond.methodLink RX2 3 objectInit, Cond.fieldLink RX2 9 "WheatRun$Field" "damp" "I", Cond.fieldLink RX2 15 "WheatRun$Field" "farmer" "I", Cond.fieldLink RX2 18 "WheatRun$Field" "mile" "I", Cond.fieldLink RX2 21 "WheatRun$Field" "acres" "I", Cond.fieldLink RX2 24 "WheatRun$Field" "bushels" "I", Cond.fieldLink RX2 27 "WheatRun$Field" "share" "I", Cond.methodLink RL 91 yX8_init, Cond.instanceMethod yX8_init, Cond.code yX8_init cX8_init 1 none, Cond.methodLink RX8 1 objectInit, Cond.classLink RX8 7 RX7, Cond.instantiable RX7 10, Cond.initialized RX7, Cond.fieldLink RX8 10 "WheatRunModel" "land" "LWheatRunModel$Land;", Cond.arrayClass .int, Cond.fieldLink RX8 16 "WheatRunModel" "farmers" "[I"]
def wsL_law0_r4 : List Cond := [Cond.fieldLink RX8 20 "WheatRunModel" "landlords" "[I", Cond.fieldLink RX8 23 "WheatRunModel" "price" "I", Cond.fieldLink RX8 27 "WheatRunModel" "money" "I", Cond.instanceMethod yX7_init, Cond.code yX7_init cX7_init 1 none, Cond.methodLink RX7 3 objectInit, Cond.classLink RX7 9 "[[I", Cond.fieldLink RX7 11 "WheatRunModel$Land" "fields" "[[I", Cond.fieldLink RX7 16 "WheatRunModel$Land" "combines" "[[I", Cond.fieldLink RX7 19 "WheatRunModel$Land" "trucks" "[[I", Cond.fieldLink RX7 22 "WheatRunModel$Land" "elevators" "[[I", Cond.classLink RX7 25 RJx4a65c, Cond.fieldLink RX7 28 "WheatRunModel$Land" "tickets" "Ljava/util/List;", Cond.methodLink RX7 27 yJx4a65c_init_da8c8, Cond.methodLink RL 92 yL_field, Cond.static yL_field, Cond.initialized RL, Cond.codeWith yL_field cL_field 8 (some .int) [(0, 16, 19, 13), (0, 16, 23, 15), (0, 16, 27, 17)], Cond.classLink RL 13 "java/lang/IndexOutOfBoundsException", Cond.classLink RL 15 "java/lang/IllegalArgumentException", Cond.classLink RL 17 "java/lang/IllegalStateException", Cond.methodLink RL 7 yX6_field, Cond.instanceMethod yX6_field, Cond.selects RX6 yX6_field yX6_field]
def wsL_law0_r5 : List Cond := [Cond.code yX6_field cX6_field 6 (some .int), Cond.classLink RX6 34 "java/lang/IndexOutOfBoundsException", Cond.initialized "java/lang/IndexOutOfBoundsException", Cond.classLink RX6 41 "java/lang/IllegalArgumentException", Cond.initialized "java/lang/IllegalArgumentException", Cond.classLink RX6 56 "java/lang/IllegalStateException", Cond.initialized "java/lang/IllegalStateException", Cond.fieldLink RX6 46 "WheatRun$Land" "fields" "Ljava/util/ArrayList;", Cond.methodLink RX6 30 yX6_isOutside, Cond.static yX6_isOutside, Cond.code yX6_isOutside cX6_isOutside 3 (some .boolean), Cond.methodLink RX6 50 yJx4a65c_size_8abf5, Cond.instanceMethod yJx4a65c_size_8abf5, Cond.selects RJx4a65c yJx4a65c_size_8abf5 yJx4a65c_size_8abf5, Cond.code yJx4a65c_size_8abf5 cJx4a65c_size_8abf5 1 (some .int), Cond.fieldLink RJx4a65c 48 "java/util/ArrayList" "size" "I", Cond.methodLink RX6 61 yJx4a65c_add_9ea2d, Cond.instanceMethod yJx4a65c_add_9ea2d, Cond.selects RJx4a65c yJx4a65c_add_9ea2d yJx4a65c_add_9ea2d, Cond.code yJx4a65c_add_9ea2d cJx4a65c_add_9ea2d 2 (some .boolean), Cond.fieldLink RJx4a65c 63 "java/util/ArrayList" "modCount" "I", Cond.sameField "java/util/ArrayList" "java/util/AbstractList" "modCount" "I", Cond.methodLink RJx4a65c 131 yJx4a65c_add_72be8, Cond.instanceMethod yJx4a65c_add_72be8]
def wsL_law0_r6 : List Cond := [Cond.selects RJx4a65c yJx4a65c_add_72be8 yJx4a65c_add_72be8, Cond.code yJx4a65c_add_72be8 cJx4a65c_add_72be8 4 none, Cond.methodLink RJx4a65c 129 yJx4a65c_grow_d5877, Cond.instanceMethod yJx4a65c_grow_d5877, Cond.selects RJx4a65c yJx4a65c_grow_d5877 yJx4a65c_grow_d5877, Cond.code yJx4a65c_grow_d5877 cJx4a65c_grow_d5877 1 (some (.array (.object "java/lang/Object"))), Cond.methodLink RJx4a65c 69 yJx4a65c_grow_92f84, Cond.instanceMethod yJx4a65c_grow_92f84, Cond.selects RJx4a65c yJx4a65c_grow_92f84 yJx4a65c_grow_92f84, Cond.code yJx4a65c_grow_92f84 cJx4a65c_grow_92f84 4 (some (.array (.object "java/lang/Object"))), Cond.methodLink RJx4a65c 79 Lib.Math.max.name, Cond.static Lib.Math.max.name, Cond.initialized "java/lang/Math", Cond.code Lib.Math.max.name Lib.Math.max.code 2 (some .int), Cond.classLink RJx4a65c 7 "java/lang/Object", Cond.methodLink RJx4a65c 73 yJ8_newLength_cabcc, Cond.static yJ8_newLength_cabcc, Cond.initialized RJ8, Cond.code yJ8_newLength_cabcc cJ8_newLength_cabcc 4 (some .int), Cond.methodLink RJ8 194 Lib.Math.max.name, Cond.constant RJ8 200 (2147483639), Cond.methodLink RJ8 201 yJ8_hugeLength_7cf53, Cond.static yJ8_hugeLength_7cf53, Cond.code yJ8_hugeLength_7cf53 cJ8_hugeLength_7cf53 3 (some .int)]
def wsL_law0_r7 : List Cond := [Cond.methodLink RJx4a65c 66 yJ7_copyOf_1904c, Cond.static yJ7_copyOf_1904c, Cond.initialized RJ7, Cond.code yJ7_copyOf_1904c cJ7_copyOf_1904c 2 (some (.array (.object "java/lang/Object"))), Cond.methodLink RJ7 86 ⟨"java/lang/Object", "getClass", "()Ljava/lang/Class;"⟩, Cond.selects "[Ljava/lang/Object;" ⟨"java/lang/Object", "getClass", "()Ljava/lang/Class;"⟩ ⟨"java/lang/Object", "getClass", "()Ljava/lang/Class;"⟩, Cond.instanceMethod ⟨"java/lang/Object", "getClass", "()Ljava/lang/Class;"⟩, Cond.native ⟨"java/lang/Object", "getClass", "()Ljava/lang/Class;"⟩, Cond.methodLink RJ7 300 yJ7_copyOf_6403c, Cond.static yJ7_copyOf_6403c, Cond.code yJ7_copyOf_6403c cJ7_copyOf_6403c 4 (some (.array (.object "java/lang/Object"))), Cond.classLink RJ7 110 "[Ljava/lang/Object;", Cond.classLink RJ7 2 "java/lang/Object", Cond.methodLink RJ7 304 Lib.Math.min.name, Cond.static Lib.Math.min.name, Cond.code Lib.Math.min.name Lib.Math.min.code 2 (some .int), Cond.methodLink RJ7 150 arraycopyName, Cond.native arraycopyName, Cond.static arraycopyName, Cond.initialized "java/lang/System", Cond.methodLink RL 97 yX8_field, Cond.instanceMethod yX8_field, Cond.selects RX8 yX8_field yX8_field, Cond.code yX8_field cX8_field 7 (some .int)]
def wsL_law0_r8 : List Cond := [Cond.fieldLink RX8 30 "WheatRunModel" "thrown" "I", Cond.fieldLink RX8 33 "WheatRunModel$Land" "fieldCount" "I", Cond.fieldLink RX8 57 "WheatRunModel$Land" "fields" "[[I", Cond.methodLink RX8 61 arraycopyName, Cond.methodLink RX8 36 yX8_in, Cond.static yX8_in, Cond.code yX8_in cX8_in 3 (some .boolean), Cond.methodLink RX8 49 yX8_no, Cond.instanceMethod yX8_no, Cond.selects RX8 yX8_no yX8_no, Cond.code yX8_no cX8_no 2 (some .int), Cond.methodLink RX8 53 yX8_isMile, Cond.static yX8_isMile, Cond.code yX8_isMile cX8_isMile 1 (some .boolean), Cond.methodLink RL 98 yX8_thrown, Cond.instanceMethod yX8_thrown, Cond.selects RX8 yX8_thrown yX8_thrown, Cond.code yX8_thrown cX8_thrown 1 (some .int), Cond.methodLink RL 102 yL_crop, Cond.static yL_crop, Cond.codeWith yL_crop cL_crop 6 (some .int) [(0, 12, 15, 13), (0, 12, 19, 15)], Cond.methodLink RL 19 yX6_crop, Cond.instanceMethod yX6_crop, Cond.selects RX6 yX6_crop yX6_crop]
def wsL_law0_r9 : List Cond := [Cond.code yX6_crop cX6_crop 6 (some .int), Cond.fieldLink RX6 73 "WheatRun$Field" "ripe" "I", Cond.fieldLink RX6 77 "WheatRun$Field" "damp" "I", Cond.methodLink RX6 65 yX3_fieldAt, Cond.instanceMethod yX3_fieldAt, Cond.selects RX3 yX3_fieldAt yX3_fieldAt, Cond.code yX3_fieldAt cX3_fieldAt 2 (some (.object "WheatRun$Field")), Cond.classLink RX3 56 "WheatRun$Field", Cond.methodLink RX3 48 yJx4a65c_size_8abf5, Cond.methodLink RX3 52 yJx4a65c_get_915e3, Cond.instanceMethod yJx4a65c_get_915e3, Cond.selects RJx4a65c yJx4a65c_get_915e3 yJx4a65c_get_915e3, Cond.code yJx4a65c_get_915e3 cJx4a65c_get_915e3 2 (some (.object "java/lang/Object")), Cond.methodLink RJx4a65c 118 yJ15_checkIndex_7cf53, Cond.static yJ15_checkIndex_7cf53, Cond.initialized RJ15, Cond.code yJ15_checkIndex_7cf53 cJ15_checkIndex_7cf53 2 (some .int), Cond.methodLink RJ15 105 yJ3_checkIndex_8e157, Cond.static yJ3_checkIndex_8e157, Cond.initialized RJ3, Cond.code yJ3_checkIndex_8e157 cJ3_checkIndex_8e157 3 (some .int), Cond.methodLink RJx4a65c 123 yJx4a65c_elementData_915e3, Cond.instanceMethod yJx4a65c_elementData_915e3, Cond.selects RJx4a65c yJx4a65c_elementData_915e3 yJx4a65c_elementData_915e3]
def wsL_law0_r10 : List Cond := [Cond.code yJx4a65c_elementData_915e3 cJx4a65c_elementData_915e3 2 (some (.object "java/lang/Object")), Cond.methodLink RL 105 yX8_crop, Cond.instanceMethod yX8_crop, Cond.selects RX8 yX8_crop yX8_crop, Cond.code yX8_crop cX8_crop 5 (some .int), Cond.methodLink RX8 67 yX8_isField, Cond.instanceMethod yX8_isField, Cond.selects RX8 yX8_isField yX8_isField, Cond.code yX8_isField cX8_isField 2 (some .boolean), Cond.methodLink RL 106 yL_combine, Cond.static yL_combine, Cond.codeWith yL_combine cL_combine 5 (some .int) [(0, 10, 13, 15), (0, 10, 17, 17)], Cond.methodLink RL 23 yX6_combine, Cond.instanceMethod yX6_combine, Cond.selects RX6 yX6_combine yX6_combine, Cond.code yX6_combine cX6_combine 3 (some .int), Cond.fieldLink RX6 82 "WheatRun$Land" "combines" "Ljava/util/ArrayList;", Cond.classLink RX6 87 RX0, Cond.instantiable RX0 12, Cond.initialized RX0, Cond.methodLink RX6 89 yX0_init, Cond.instanceMethod yX0_init, Cond.code yX0_init cX0_init 4 none, Cond.methodLink RX0 3 objectInit]
def wsL_law0_r11 : List Cond := [Cond.fieldLink RX0 9 "WheatRun$Combine" "tankField" "I", Cond.fieldLink RX0 15 "WheatRun$Combine" "goal" "I", Cond.fieldLink RX0 18 "WheatRun$Combine" "number" "I", Cond.fieldLink RX0 21 "WheatRun$Combine" "mile" "I", Cond.fieldLink RX0 24 "WheatRun$Combine" "pace" "I", Cond.methodLink RL 109 yX8_combine, Cond.instanceMethod yX8_combine, Cond.selects RX8 yX8_combine yX8_combine, Cond.code yX8_combine cX8_combine 4 (some .int), Cond.fieldLink RX8 40 "WheatRunModel$Land" "combineCount" "I", Cond.fieldLink RX8 70 "WheatRunModel$Land" "combines" "[[I", Cond.methodLink RL 110 yL_truck, Cond.static yL_truck, Cond.codeWith yL_truck cL_truck 4 (some .int) [(0, 9, 12, 15), (0, 9, 15, 17)], Cond.methodLink RL 27 yX6_truck, Cond.instanceMethod yX6_truck, Cond.selects RX6 yX6_truck yX6_truck, Cond.code yX6_truck cX6_truck 2 (some .int), Cond.fieldLink RX6 94 "WheatRun$Land" "trucks" "Ljava/util/ArrayList;", Cond.classLink RX6 99 RX5, Cond.instantiable RX5 10, Cond.initialized RX5, Cond.methodLink RX6 101 yX5_init, Cond.instanceMethod yX5_init]
def wsL_law0_r12 : List Cond := [Cond.code yX5_init cX5_init 2 none, Cond.methodLink RX5 3 objectInit, Cond.fieldLink RX5 9 "WheatRun$Truck" "loadField" "I", Cond.fieldLink RX5 15 "WheatRun$Truck" "toCombine" "I", Cond.fieldLink RX5 18 "WheatRun$Truck" "toElevator" "I", Cond.fieldLink RX5 21 "WheatRun$Truck" "mile" "I", Cond.methodLink RL 113 yX8_truck, Cond.instanceMethod yX8_truck, Cond.selects RX8 yX8_truck yX8_truck, Cond.code yX8_truck cX8_truck 3 (some .int), Cond.fieldLink RX8 43 "WheatRunModel$Land" "truckCount" "I", Cond.fieldLink RX8 73 "WheatRunModel$Land" "trucks" "[[I", Cond.methodLink RL 114 yL_elevator, Cond.static yL_elevator, Cond.codeWith yL_elevator cL_elevator 9 (some .int) [(0, 18, 21, 15), (0, 18, 25, 17)], Cond.methodLink RL 31 yX6_elevator, Cond.instanceMethod yX6_elevator, Cond.selects RX6 yX6_elevator yX6_elevator, Cond.code yX6_elevator cX6_elevator 7 (some .int), Cond.fieldLink RX6 110 "WheatRun$Land" "elevators" "Ljava/util/ArrayList;", Cond.classLink RX6 115 RX1, Cond.instantiable RX1 6, Cond.initialized RX1, Cond.methodLink RX6 117 yX1_init]
def wsL_law0_r13 : List Cond := [Cond.instanceMethod yX1_init, Cond.code yX1_init cX1_init 7 none, Cond.methodLink RX1 1 objectInit, Cond.fieldLink RX1 7 "WheatRun$Elevator" "mile" "I", Cond.fieldLink RX1 13 "WheatRun$Elevator" "room" "I", Cond.fieldLink RX1 16 "WheatRun$Elevator" "from" "I", Cond.fieldLink RX1 19 "WheatRun$Elevator" "to" "I", Cond.fieldLink RX1 22 "WheatRun$Elevator" "least" "I", Cond.fieldLink RX1 25 "WheatRun$Elevator" "greatest" "I", Cond.methodLink RL 117 yX8_elevator, Cond.instanceMethod yX8_elevator, Cond.selects RX8 yX8_elevator yX8_elevator, Cond.code yX8_elevator cX8_elevator 8 (some .int), Cond.fieldLink RX8 46 "WheatRunModel$Land" "elevatorCount" "I", Cond.fieldLink RX8 76 "WheatRunModel$Land" "elevators" "[[I", Cond.methodLink RL 118 yL_price, Cond.static yL_price, Cond.codeWith yL_price cL_price 4 (some .int) [(0, 9, 12, 15)], Cond.methodLink RL 35 yX6_price, Cond.instanceMethod yX6_price, Cond.selects RX6 yX6_price yX6_price, Cond.code yX6_price cX6_price 3 (some .int), Cond.fieldLink RX6 122 "WheatRun$Land" "price" "I", Cond.methodLink RL 120 yX8_price]
def wsL_law0_r14 : List Cond := [Cond.instanceMethod yX8_price, Cond.selects RX8 yX8_price yX8_price, Cond.code yX8_price cX8_price 3 (some .int), Cond.methodLink RL 121 yL_cut, Cond.static yL_cut, Cond.codeWith yL_cut cL_cut 5 (some .int) [(0, 10, 13, 13)], Cond.methodLink RL 38 yX6_cut, Cond.instanceMethod yX6_cut, Cond.selects RX6 yX6_cut yX6_cut, Cond.code yX6_cut cX6_cut 4 (some .int), Cond.fieldLink RX6 131 "WheatRun$Combine" "goal" "I", Cond.methodLink RX6 125 yX3_combineAt, Cond.instanceMethod yX3_combineAt, Cond.selects RX3 yX3_combineAt yX3_combineAt, Cond.code yX3_combineAt cX3_combineAt 2 (some (.object "WheatRun$Combine")), Cond.classLink RX3 62 "WheatRun$Combine", Cond.methodLink RX6 134 yX3_combinesSentTo, Cond.instanceMethod yX3_combinesSentTo, Cond.selects RX3 yX3_combinesSentTo yX3_combinesSentTo, Cond.code yX3_combinesSentTo cX3_combinesSentTo 4 (some .int), Cond.fieldLink RX3 102 "WheatRun$Combine" "goal" "I", Cond.methodLink RL 123 yX8_cut, Cond.instanceMethod yX8_cut, Cond.selects RX8 yX8_cut yX8_cut]
def wsL_law0_r15 : List Cond := [Cond.code yX8_cut cX8_cut 3 (some .int), Cond.methodLink RX8 79 yX8_isCombine, Cond.instanceMethod yX8_isCombine, Cond.selects RX8 yX8_isCombine yX8_isCombine, Cond.code yX8_isCombine cX8_isCombine 2 (some .boolean), Cond.methodLink RX8 82 yX7_sentTo, Cond.instanceMethod yX7_sentTo, Cond.selects RX7 yX7_sentTo yX7_sentTo, Cond.code yX7_sentTo cX7_sentTo 4 (some .int), Cond.fieldLink RX7 43 "WheatRunModel$Land" "combineCount" "I", Cond.methodLink RL 124 yL_fetch, Cond.static yL_fetch, Cond.codeWith yL_fetch cL_fetch 5 (some .int) [(0, 10, 13, 13)], Cond.methodLink RL 41 yX6_fetch, Cond.instanceMethod yX6_fetch, Cond.selects RX6 yX6_fetch yX6_fetch, Cond.code yX6_fetch cX6_fetch 5 (some .int), Cond.fieldLink RX6 144 "WheatRun$Truck" "toCombine" "I", Cond.fieldLink RX6 147 "WheatRun$Truck" "toElevator" "I", Cond.fieldLink RX6 150 "WheatRun$Combine" "mile" "I", Cond.fieldLink RX6 153 "WheatRun$Truck" "mile" "I", Cond.methodLink RX6 154 Lib.Math.abs.name, Cond.static Lib.Math.abs.name, Cond.code Lib.Math.abs.name Lib.Math.abs.code 1 (some .int)]
def wsL_law0_r16 : List Cond := [Cond.methodLink RX6 138 yX3_truckAt, Cond.instanceMethod yX3_truckAt, Cond.selects RX3 yX3_truckAt yX3_truckAt, Cond.code yX3_truckAt cX3_truckAt 2 (some (.object "WheatRun$Truck")), Cond.classLink RX3 67 "WheatRun$Truck", Cond.methodLink RL 126 yX8_fetch, Cond.instanceMethod yX8_fetch, Cond.selects RX8 yX8_fetch yX8_fetch, Cond.code yX8_fetch cX8_fetch 3 (some .int), Cond.methodLink RX8 90 yX8_isTruck, Cond.instanceMethod yX8_isTruck, Cond.selects RX8 yX8_isTruck yX8_isTruck, Cond.code yX8_isTruck cX8_isTruck 2 (some .boolean), Cond.methodLink RX8 93 yX8_send, Cond.instanceMethod yX8_send, Cond.selects RX8 yX8_send yX8_send, Cond.code yX8_send cX8_send 6 (some .int), Cond.methodLink RX8 85 Lib.Math.abs.name, Cond.methodLink RL 127 yL_haul, Cond.static yL_haul, Cond.codeWith yL_haul cL_haul 5 (some .int) [(0, 10, 13, 13)], Cond.methodLink RL 44 yX6_haul, Cond.instanceMethod yX6_haul, Cond.selects RX6 yX6_haul yX6_haul]
def wsL_law0_r17 : List Cond := [Cond.code yX6_haul cX6_haul 5 (some .int), Cond.fieldLink RX6 165 "WheatRun$Elevator" "mile" "I", Cond.methodLink RX6 159 yX3_elevatorAt, Cond.instanceMethod yX3_elevatorAt, Cond.selects RX3 yX3_elevatorAt yX3_elevatorAt, Cond.code yX3_elevatorAt cX3_elevatorAt 2 (some (.object "WheatRun$Elevator")), Cond.classLink RX3 72 "WheatRun$Elevator", Cond.methodLink RL 129 yX8_haul, Cond.instanceMethod yX8_haul, Cond.selects RX8 yX8_haul yX8_haul, Cond.code yX8_haul cX8_haul 3 (some .int), Cond.methodLink RX8 97 yX8_isElevator, Cond.instanceMethod yX8_isElevator, Cond.selects RX8 yX8_isElevator yX8_isElevator, Cond.code yX8_isElevator cX8_isElevator 2 (some .boolean), Cond.methodLink RL 130 yL_stop, Cond.static yL_stop, Cond.codeWith yL_stop cL_stop 4 (some .int) [(0, 9, 12, 13)], Cond.methodLink RL 47 yX6_stop, Cond.instanceMethod yX6_stop, Cond.selects RX6 yX6_stop yX6_stop, Cond.code yX6_stop cX6_stop 3 (some .int), Cond.fieldLink RX6 166 "WheatRun$Truck" "hours" "I", Cond.methodLink RL 132 yX8_stop]
def wsL_law0_r18 : List Cond := [Cond.instanceMethod yX8_stop, Cond.selects RX8 yX8_stop yX8_stop, Cond.code yX8_stop cX8_stop 2 (some .int), Cond.methodLink RL 133 yL_mend, Cond.static yL_mend, Cond.codeWith yL_mend cL_mend 4 (some .int) [(0, 9, 12, 13), (0, 9, 15, 17)], Cond.methodLink RL 50 yX6_mend, Cond.instanceMethod yX6_mend, Cond.selects RX6 yX6_mend yX6_mend, Cond.code yX6_mend cX6_mend 4 (some .int), Cond.fieldLink RX6 169 "WheatRun$Combine" "wear" "I", Cond.fieldLink RX6 172 "WheatRun$Land" "money" "I", Cond.fieldLink RX6 177 "WheatRun$Combine" "isBroken" "Z", Cond.methodLink RL 135 yX8_mend, Cond.instanceMethod yX8_mend, Cond.selects RX8 yX8_mend yX8_mend, Cond.code yX8_mend cX8_mend 4 (some .int), Cond.methodLink RL 136 yL_train, Cond.static yL_train, Cond.codeWith yL_train cL_train 5 (some .int) [(0, 10, 13, 13), (0, 10, 17, 15)], Cond.methodLink RL 53 yX6_train, Cond.instanceMethod yX6_train, Cond.selects RX6 yX6_train yX6_train, Cond.code yX6_train cX6_train 4 (some .int)]
def wsL_law0_r19 : List Cond := [Cond.fieldLink RX6 183 "WheatRun$Elevator" "room" "I", Cond.methodLink RX6 186 Lib.Math.min.name, Cond.methodLink RL 138 yX8_train, Cond.instanceMethod yX8_train, Cond.selects RX8 yX8_train yX8_train, Cond.code yX8_train cX8_train 4 (some .int), Cond.methodLink RX8 100 Lib.Math.min.name, Cond.methodLink RL 139 yL_pass, Cond.static yL_pass, Cond.codeWith yL_pass cL_pass 7 (some .int) [(0, 14, 17, 15), (0, 14, 21, 17)], Cond.methodLink RL 56 yX6_pass, Cond.instanceMethod yX6_pass, Cond.selects RX6 yX6_pass yX6_pass, Cond.code yX6_pass cX6_pass 7 (some .int), Cond.fieldLink RX6 196 "WheatRun$Land" "now" "I", Cond.fieldLink RX6 201 "WheatRun$Land" "tickets" "Ljava/util/ArrayList;", Cond.methodLink RX6 190 yX6_isNoForecast, Cond.static yX6_isNoForecast, Cond.code yX6_isNoForecast cX6_isNoForecast 4 (some .boolean), Cond.methodLink RX6 318 yX6_isNoWeather, Cond.static yX6_isNoWeather, Cond.code yX6_isNoWeather cX6_isNoWeather 3 (some .boolean), Cond.methodLink RX6 204 yX3_passHour, Cond.instanceMethod yX3_passHour]
def wsL_law0_r20 : List Cond := [Cond.selects RX3 yX3_passHour yX3_passHour, Cond.code yX3_passHour cX3_passHour 6 none, Cond.fieldLink RX3 41 "WheatRun$Land" "now" "I", Cond.methodLink RX3 95 yX3_clock, Cond.instanceMethod yX3_clock, Cond.selects RX3 yX3_clock yX3_clock, Cond.code yX3_clock cX3_clock 1 (some .int), Cond.methodLink RX3 98 yX2_passHour, Cond.instanceMethod yX2_passHour, Cond.selects RX2 yX2_passHour yX2_passHour, Cond.code yX2_passHour cX2_passHour 5 none, Cond.methodLink RX2 51 yX2_ripen, Cond.instanceMethod yX2_ripen, Cond.selects RX2 yX2_ripen yX2_ripen, Cond.code yX2_ripen cX2_ripen 3 none, Cond.fieldLink RX2 33 "WheatRun$Field" "ripe" "I", Cond.methodLink RX2 62 Lib.Math.min.name, Cond.methodLink RX2 55 yX2_soakOrDry, Cond.instanceMethod yX2_soakOrDry, Cond.selects RX2 yX2_soakOrDry yX2_soakOrDry, Cond.code yX2_soakOrDry cX2_soakOrDry 3 none, Cond.methodLink RX2 68 Lib.Math.max.name, Cond.methodLink RX2 59 yX2_shatter, Cond.instanceMethod yX2_shatter]
def wsL_law0_r21 : List Cond := [Cond.selects RX2 yX2_shatter yX2_shatter, Cond.code yX2_shatter cX2_shatter 3 none, Cond.fieldLink RX2 36 "WheatRun$Field" "lost" "I", Cond.methodLink RX3 105 yX3_fieldAt, Cond.methodLink RX3 109 yX0_passHour, Cond.instanceMethod yX0_passHour, Cond.selects RX0 yX0_passHour yX0_passHour, Cond.code yX0_passHour cX0_passHour 5 none, Cond.fieldLink RX0 36 "WheatRun$Combine" "isBroken" "Z", Cond.fieldLink RX0 49 "WheatRun$Field" "mile" "I", Cond.fieldLink RX0 40 "WheatRun$Combine" "idle" "I", Cond.static yX6_towards, Cond.code yX6_towards cX6_towards 3 (some .int), Cond.methodLink RX6 380 Lib.Math.max.name, Cond.methodLink RX0 56 yX0_acresAtOnce, Cond.instanceMethod yX0_acresAtOnce, Cond.selects RX0 yX0_acresAtOnce yX0_acresAtOnce, Cond.code yX0_acresAtOnce cX0_acresAtOnce 4 (some .int), Cond.methodLink RX0 76 Lib.Math.min.name, Cond.fieldLink RX0 27 "WheatRun$Combine" "tank" "I", Cond.methodLink RX0 72 yX2_uncut, Cond.instanceMethod yX2_uncut, Cond.selects RX2 yX2_uncut yX2_uncut, Cond.code yX2_uncut cX2_uncut 1 (some .int)]
def wsL_law0_r22 : List Cond := [Cond.fieldLink RX2 30 "WheatRun$Field" "acresCut" "I", Cond.methodLink RX0 82 yX2_brings, Cond.instanceMethod yX2_brings, Cond.selects RX2 yX2_brings yX2_brings, Cond.code yX2_brings cX2_brings 1 (some .int), Cond.methodLink RX0 60 yX2_isFit, Cond.instanceMethod yX2_isFit, Cond.selects RX2 yX2_isFit yX2_isFit, Cond.code yX2_isFit cX2_isFit 2 (some .boolean), Cond.methodLink RX0 64 yX0_holdsAnother, Cond.instanceMethod yX0_holdsAnother, Cond.selects RX0 yX0_holdsAnother yX0_holdsAnother, Cond.code yX0_holdsAnother cX0_holdsAnother 1 (some .boolean), Cond.methodLink RX0 68 yX0_harvest, Cond.instanceMethod yX0_harvest, Cond.selects RX0 yX0_harvest yX0_harvest, Cond.code yX0_harvest cX0_harvest 4 none, Cond.fieldLink RX0 85 "WheatRun$Field" "acresCut" "I", Cond.fieldLink RX0 86 "WheatRun$Field" "map" "I", Cond.fieldLink RX0 30 "WheatRun$Combine" "tankDamp" "I", Cond.fieldLink RX0 93 "WheatRun$Field" "damp" "I", Cond.methodLink RX0 96 Lib.Math.max.name, Cond.fieldLink RX0 43 "WheatRun$Combine" "acresCut" "I", Cond.fieldLink RX0 46 "WheatRun$Combine" "bushelsCut" "I"]
def wsL_law0_r23 : List Cond := [Cond.fieldLink RX0 33 "WheatRun$Combine" "wear" "I", Cond.methodLink RX0 89 yX0_metered, Cond.instanceMethod yX0_metered, Cond.selects RX0 yX0_metered yX0_metered, Cond.code yX0_metered cX0_metered 3 (some .int), Cond.methodLink RX3 112 yX3_passTruckHour, Cond.instanceMethod yX3_passTruckHour, Cond.selects RX3 yX3_passTruckHour yX3_passTruckHour, Cond.code yX3_passTruckHour cX3_passTruckHour 4 none, Cond.fieldLink RX3 115 "WheatRun$Truck" "toCombine" "I", Cond.fieldLink RX3 122 "WheatRun$Truck" "toElevator" "I", Cond.fieldLink RX3 136 "WheatRun$Truck" "mile" "I", Cond.fieldLink RX3 139 "WheatRun$Combine" "mile" "I", Cond.fieldLink RX3 146 "WheatRun$Elevator" "mile" "I", Cond.fieldLink RX3 147 "WheatRun$Truck" "load" "I", Cond.methodLink RX3 118 yX3_combineAt, Cond.methodLink RX3 125 yX3_elevatorAt, Cond.methodLink RX3 129 yX5_mustRest, Cond.instanceMethod yX5_mustRest, Cond.selects RX5 yX5_mustRest yX5_mustRest, Cond.code yX5_mustRest cX5_mustRest 2 (some .boolean), Cond.fieldLink RX5 24 "WheatRun$Truck" "hours" "I", Cond.methodLink RX3 133 yX5_sleepHour, Cond.instanceMethod yX5_sleepHour]
def wsL_law0_r24 : List Cond := [Cond.selects RX5 yX5_sleepHour yX5_sleepHour, Cond.code yX5_sleepHour cX5_sleepHour 1 none, Cond.fieldLink RX5 33 "WheatRun$Truck" "rest" "I", Cond.methodLink RX3 140 yX5_drive, Cond.instanceMethod yX5_drive, Cond.selects RX5 yX5_drive yX5_drive, Cond.code yX5_drive cX5_drive 3 none, Cond.fieldLink RX5 39 "WheatRun$Truck" "driven" "I", Cond.methodLink RX5 46 Lib.Math.abs.name, Cond.methodLink RX3 143 yX5_takeFrom, Cond.instanceMethod yX5_takeFrom, Cond.selects RX5 yX5_takeFrom yX5_takeFrom, Cond.code yX5_takeFrom cX5_takeFrom 3 none, Cond.fieldLink RX5 27 "WheatRun$Truck" "load" "I", Cond.fieldLink RX5 52 "WheatRun$Combine" "tankField" "I", Cond.fieldLink RX5 57 "WheatRun$Combine" "tank" "I", Cond.methodLink RX5 60 Lib.Math.min.name, Cond.fieldLink RX5 30 "WheatRun$Truck" "damp" "I", Cond.fieldLink RX5 64 "WheatRun$Combine" "tankDamp" "I", Cond.methodLink RX5 67 Lib.Math.max.name, Cond.methodLink RX3 150 yX3_unload, Cond.instanceMethod yX3_unload, Cond.selects RX3 yX3_unload yX3_unload, Cond.code yX3_unload cX3_unload 3 none]
def wsL_law0_r25 : List Cond := [Cond.fieldLink RX3 158 "WheatRun$Truck" "queued" "I", Cond.fieldLink RX3 161 "WheatRun$Elevator" "room" "I", Cond.methodLink RX3 154 yX1_takes, Cond.instanceMethod yX1_takes, Cond.selects RX1 yX1_takes yX1_takes, Cond.code yX1_takes cX1_takes 3 (some .boolean), Cond.fieldLink RX1 32 "WheatRun$Truck" "damp" "I", Cond.fieldLink RX1 37 "WheatRun$Truck" "load" "I", Cond.methodLink RX1 28 yX1_isOpen, Cond.instanceMethod yX1_isOpen, Cond.selects RX1 yX1_isOpen yX1_isOpen, Cond.code yX1_isOpen cX1_isOpen 2 (some .boolean), Cond.methodLink RX3 164 yX3_writeTicket, Cond.instanceMethod yX3_writeTicket, Cond.selects RX3 yX3_writeTicket yX3_writeTicket, Cond.code yX3_writeTicket cX3_writeTicket 5 none, Cond.classLink RX3 93 RX4, Cond.instantiable RX4 7, Cond.initialized RX4, Cond.fieldLink RX3 167 "WheatRun$Truck" "damp" "I", Cond.fieldLink RX3 177 "WheatRun$Ticket" "bushels" "I", Cond.fieldLink RX3 180 "WheatRun$Ticket" "field" "I", Cond.fieldLink RX3 183 "WheatRun$Ticket" "worth" "I", Cond.methodLink RX3 170 yX1_discount]
def wsL_law0_r26 : List Cond := [Cond.instanceMethod yX1_discount, Cond.selects RX1 yX1_discount yX1_discount, Cond.code yX1_discount cX1_discount 2 (some .int), Cond.methodLink RX1 40 Lib.Math.max.name, Cond.methodLink RX3 174 yX4_init, Cond.instanceMethod yX4_init, Cond.code yX4_init cX4_init 5 none, Cond.methodLink RX4 1 objectInit, Cond.fieldLink RX4 7 "WheatRun$Truck" "loadField" "I", Cond.fieldLink RX4 13 "WheatRun$Ticket" "field" "I", Cond.fieldLink RX4 18 "WheatRun$Truck" "load" "I", Cond.fieldLink RX4 21 "WheatRun$Ticket" "bushels" "I", Cond.fieldLink RX4 24 "WheatRun$Truck" "damp" "I", Cond.fieldLink RX4 27 "WheatRun$Ticket" "damp" "I", Cond.fieldLink RX4 28 "WheatRun$Ticket" "discount" "I", Cond.fieldLink RX4 31 "WheatRun$Truck" "toElevator" "I", Cond.fieldLink RX4 34 "WheatRun$Ticket" "elevator" "I", Cond.fieldLink RX4 37 "WheatRun$Ticket" "hour" "I", Cond.fieldLink RX4 40 "WheatRun$Ticket" "worth" "I", Cond.methodLink RX3 80 yJx4a65c_add_9ea2d, Cond.methodLink RX3 186 yX2_credit, Cond.instanceMethod yX2_credit, Cond.selects RX2 yX2_credit yX2_credit, Cond.code yX2_credit cX2_credit 4 none]
def wsL_law0_r27 : List Cond := [Cond.fieldLink RX2 42 "WheatRun$Field" "sold" "I", Cond.fieldLink RX2 48 "WheatRun$Field" "forLandlord" "I", Cond.fieldLink RX2 45 "WheatRun$Field" "forFarmer" "I", Cond.methodLink RL 142 yX8_pass, Cond.instanceMethod yX8_pass, Cond.selects RX8 yX8_pass yX8_pass, Cond.code yX8_pass cX8_pass 9 (some .int), Cond.fieldLink RX8 107 "WheatRunModel$Land" "now" "I", Cond.fieldLink RX8 110 "WheatRunModel$Land" "tickets" "Ljava/util/List;", Cond.classLink RX8 128 "[I", Cond.methodLink RX8 104 yX8_isWeather, Cond.static yX8_isWeather, Cond.code yX8_isWeather cX8_isWeather 3 (some .boolean), Cond.methodLink RX8 114 ⟨"java/util/List", "size", "()I"⟩, Cond.selects RJx4a65c ⟨"java/util/List", "size", "()I"⟩ yJx4a65c_size_8abf5, Cond.methodLink RX8 120 yX7_go, Cond.instanceMethod yX7_go, Cond.selects RX7 yX7_go yX7_go, Cond.code yX7_go cX7_go 6 (some .int), Cond.fieldLink RX7 52 "WheatRunModel$Land" "now" "I", Cond.fieldLink RX7 33 "WheatRunModel$Land" "fieldCount" "I", Cond.fieldLink RX7 46 "WheatRunModel$Land" "truckCount" "I", Cond.methodLink RX7 64 yX7_clock, Cond.instanceMethod yX7_clock]
def wsL_law0_r28 : List Cond := [Cond.selects RX7 yX7_clock yX7_clock, Cond.code yX7_clock cX7_clock 1 (some .int), Cond.methodLink RX7 68 yX7_ripen, Cond.static yX7_ripen, Cond.code yX7_ripen cX7_ripen 6 none, Cond.methodLink RX7 55 Lib.Math.min.name, Cond.methodLink RX7 61 Lib.Math.max.name, Cond.methodLink RX7 72 yX7_work, Cond.instanceMethod yX7_work, Cond.selects RX7 yX7_work yX7_work, Cond.code yX7_work cX7_work 8 none, Cond.methodLink RX7 85 yX7_towards, Cond.static yX7_towards, Cond.code yX7_towards cX7_towards 3 none, Cond.methodLink RX7 89 yX7_brings, Cond.static yX7_brings, Cond.code yX7_brings cX7_brings 1 (some .int), Cond.methodLink RX7 76 ⟨"java/util/List", "size", "()I"⟩, Cond.methodLink RX7 81 yX7_drive, Cond.instanceMethod yX7_drive, Cond.selects RX7 yX7_drive yX7_drive, Cond.code yX7_drive cX7_drive 4 none, Cond.methodLink RX7 93 Lib.Math.abs.name, Cond.methodLink RX7 97 yX7_load]
def wsL_law0_r29 : List Cond := [Cond.static yX7_load, Cond.code yX7_load cX7_load 3 none, Cond.methodLink RX7 101 yX7_sell, Cond.instanceMethod yX7_sell, Cond.selects RX7 yX7_sell yX7_sell, Cond.code yX7_sell cX7_sell 4 none, Cond.methodLink RX7 104 yX7_isOpen, Cond.instanceMethod yX7_isOpen, Cond.selects RX7 yX7_isOpen yX7_isOpen, Cond.code yX7_isOpen cX7_isOpen 2 (some .boolean), Cond.methodLink RX7 108 ⟨"java/util/List", "add", "(Ljava/lang/Object;)Z"⟩, Cond.selects RJx4a65c ⟨"java/util/List", "add", "(Ljava/lang/Object;)Z"⟩ yJx4a65c_add_9ea2d, Cond.methodLink RX8 124 ⟨"java/util/List", "get", "(I)Ljava/lang/Object;"⟩, Cond.selects RJx4a65c ⟨"java/util/List", "get", "(I)Ljava/lang/Object;"⟩ yJx4a65c_get_915e3, Cond.methodLink RX8 129 yX8_pay, Cond.instanceMethod yX8_pay, Cond.selects RX8 yX8_pay yX8_pay, Cond.code yX8_pay cX8_pay 4 none, Cond.methodLink RL 143 yL_ofField, Cond.static yL_ofField, Cond.codeWith yL_ofField cL_ofField 5 (some .int) [(0, 10, 13, 13), (0, 10, 17, 15)], Cond.methodLink RL 60 yX6_ofField, Cond.instanceMethod yX6_ofField, Cond.selects RX6 yX6_ofField yX6_ofField]
def wsL_law0_r30 : List Cond := [Cond.code yX6_ofField cX6_ofField 4 (some .int), Cond.fieldLink RX6 209 "WheatRun$Field" "farmer" "I", Cond.fieldLink RX6 212 "WheatRun$Field" "mile" "I", Cond.fieldLink RX6 213 "WheatRun$Field" "acres" "I", Cond.fieldLink RX6 216 "WheatRun$Field" "acresCut" "I", Cond.fieldLink RX6 219 "WheatRun$Field" "lost" "I", Cond.fieldLink RX6 222 "WheatRun$Field" "map" "I", Cond.fieldLink RX6 225 "WheatRun$Field" "sold" "I", Cond.methodLink RX6 228 yX3_onTheWay, Cond.instanceMethod yX3_onTheWay, Cond.selects RX3 yX3_onTheWay yX3_onTheWay, Cond.code yX3_onTheWay cX3_onTheWay 5 (some .int), Cond.fieldLink RX3 190 "WheatRun$Combine" "tankField" "I", Cond.fieldLink RX3 193 "WheatRun$Combine" "tank" "I", Cond.fieldLink RX3 196 "WheatRun$Truck" "loadField" "I", Cond.methodLink RX6 231 yX2_correction, Cond.instanceMethod yX2_correction, Cond.selects RX2 yX2_correction yX2_correction, Cond.code yX2_correction cX2_correction 2 (some .int), Cond.fieldLink RX2 39 "WheatRun$Field" "map" "I", Cond.methodLink RL 145 yX8_ofField, Cond.instanceMethod yX8_ofField, Cond.selects RX8 yX8_ofField yX8_ofField, Cond.code yX8_ofField cX8_ofField 3 (some .int)]
def wsL_law0_r31 : List Cond := [Cond.methodLink RX8 136 yX8_fieldNow, Cond.instanceMethod yX8_fieldNow, Cond.selects RX8 yX8_fieldNow yX8_fieldNow, Cond.code yX8_fieldNow cX8_fieldNow 4 (some .int), Cond.methodLink RX8 133 yX7_between, Cond.instanceMethod yX7_between, Cond.selects RX7 yX7_between yX7_between, Cond.code yX7_between cX7_between 4 (some .int), Cond.methodLink RL 146 yL_ofCombine, Cond.static yL_ofCombine, Cond.codeWith yL_ofCombine cL_ofCombine 5 (some .int) [(0, 10, 13, 13), (0, 10, 17, 15)], Cond.methodLink RL 63 yX6_ofCombine, Cond.instanceMethod yX6_ofCombine, Cond.selects RX6 yX6_ofCombine yX6_ofCombine, Cond.code yX6_ofCombine cX6_ofCombine 4 (some .int), Cond.fieldLink RX6 234 "WheatRun$Combine" "tank" "I", Cond.fieldLink RX6 237 "WheatRun$Combine" "tankField" "I", Cond.fieldLink RX6 240 "WheatRun$Combine" "acresCut" "I", Cond.fieldLink RX6 241 "WheatRun$Combine" "idle" "I", Cond.methodLink RL 148 yX8_ofCombine, Cond.instanceMethod yX8_ofCombine, Cond.selects RX8 yX8_ofCombine yX8_ofCombine, Cond.code yX8_ofCombine cX8_ofCombine 3 (some .int), Cond.methodLink RX8 139 yX8_combineNow]
def wsL_law0_r32 : List Cond := [Cond.instanceMethod yX8_combineNow, Cond.selects RX8 yX8_combineNow yX8_combineNow, Cond.code yX8_combineNow cX8_combineNow 5 (some .int), Cond.methodLink RL 149 yL_ofTruck, Cond.static yL_ofTruck, Cond.codeWith yL_ofTruck cL_ofTruck 5 (some .int) [(0, 10, 13, 13), (0, 10, 17, 15)], Cond.methodLink RL 66 yX6_ofTruck, Cond.instanceMethod yX6_ofTruck, Cond.selects RX6 yX6_ofTruck yX6_ofTruck, Cond.code yX6_ofTruck cX6_ofTruck 4 (some .int), Cond.fieldLink RX6 244 "WheatRun$Truck" "load" "I", Cond.fieldLink RX6 247 "WheatRun$Truck" "loadField" "I", Cond.fieldLink RX6 250 "WheatRun$Truck" "damp" "I", Cond.fieldLink RX6 251 "WheatRun$Truck" "rest" "I", Cond.fieldLink RX6 254 "WheatRun$Truck" "queued" "I", Cond.fieldLink RX6 257 "WheatRun$Truck" "driven" "I", Cond.methodLink RL 151 yX8_ofTruck, Cond.instanceMethod yX8_ofTruck, Cond.selects RX8 yX8_ofTruck yX8_ofTruck, Cond.code yX8_ofTruck cX8_ofTruck 3 (some .int), Cond.methodLink RX8 142 yX8_truckNow, Cond.instanceMethod yX8_truckNow, Cond.selects RX8 yX8_truckNow yX8_truckNow, Cond.code yX8_truckNow cX8_truckNow 5 (some .int)]
def wsL_law0_r33 : List Cond := [Cond.methodLink RL 152 yL_ofTicket, Cond.static yL_ofTicket, Cond.codeWith yL_ofTicket cL_ofTicket 5 (some .int) [(0, 10, 13, 13), (0, 10, 17, 15)], Cond.methodLink RL 69 yX6_ofTicket, Cond.instanceMethod yX6_ofTicket, Cond.selects RX6 yX6_ofTicket yX6_ofTicket, Cond.code yX6_ofTicket cX6_ofTicket 4 (some .int), Cond.fieldLink RX6 266 "WheatRun$Ticket" "field" "I", Cond.fieldLink RX6 271 "WheatRun$Ticket" "bushels" "I", Cond.fieldLink RX6 274 "WheatRun$Ticket" "damp" "I", Cond.fieldLink RX6 275 "WheatRun$Ticket" "discount" "I", Cond.fieldLink RX6 278 "WheatRun$Ticket" "elevator" "I", Cond.fieldLink RX6 281 "WheatRun$Ticket" "hour" "I", Cond.fieldLink RX6 284 "WheatRun$Ticket" "worth" "I", Cond.methodLink RX6 260 yX3_ticketAt, Cond.instanceMethod yX3_ticketAt, Cond.selects RX3 yX3_ticketAt yX3_ticketAt, Cond.code yX3_ticketAt cX3_ticketAt 2 (some (.object "WheatRun$Ticket")), Cond.classLink RX3 93 "WheatRun$Ticket", Cond.methodLink RL 154 yX8_ofTicket, Cond.instanceMethod yX8_ofTicket, Cond.selects RX8 yX8_ofTicket yX8_ofTicket, Cond.code yX8_ofTicket cX8_ofTicket 3 (some .int), Cond.methodLink RL 155 yL_owed]
def wsL_law0_r34 : List Cond := [Cond.static yL_owed, Cond.codeWith yL_owed cL_owed 5 (some .int) [(0, 10, 13, 13)], Cond.methodLink RL 72 yX6_owed, Cond.instanceMethod yX6_owed, Cond.selects RX6 yX6_owed yX6_owed, Cond.code yX6_owed cX6_owed 6 (some .int), Cond.classLink RX6 21 "WheatRun$Field", Cond.fieldLink RX6 291 "WheatRun$Field" "forLandlord" "I", Cond.fieldLink RX6 294 "WheatRun$Field" "forFarmer" "I", Cond.methodLink RX6 287 yJx4a65c_get_915e3, Cond.methodLink RL 158 yX8_owed, Cond.instanceMethod yX8_owed, Cond.selects RX8 yX8_owed yX8_owed, Cond.code yX8_owed cX8_owed 3 (some .int), Cond.methodLink RL 159 yL_many, Cond.static yL_many, Cond.codeWith yL_many cL_many 4 (some .int) [(0, 9, 12, 15)], Cond.methodLink RL 76 yX6_many, Cond.instanceMethod yX6_many, Cond.selects RX6 yX6_many yX6_many, Cond.code yX6_many cX6_many 2 (some .int), Cond.methodLink RX6 297 yX3_uncutAcres, Cond.instanceMethod yX3_uncutAcres, Cond.selects RX3 yX3_uncutAcres yX3_uncutAcres]
def wsL_law0_r35 : List Cond := [Cond.code yX3_uncutAcres cX3_uncutAcres 3 (some .int), Cond.methodLink RX3 199 yX2_uncut, Cond.methodLink RX6 300 yX3_brokenCombines, Cond.instanceMethod yX3_brokenCombines, Cond.selects RX3 yX3_brokenCombines yX3_brokenCombines, Cond.code yX3_brokenCombines cX3_brokenCombines 3 (some .int), Cond.fieldLink RX3 202 "WheatRun$Combine" "isBroken" "Z", Cond.methodLink RX6 303 yX3_allRoom, Cond.instanceMethod yX3_allRoom, Cond.selects RX3 yX3_allRoom yX3_allRoom, Cond.code yX3_allRoom cX3_allRoom 3 (some .int), Cond.methodLink RX6 306 yX3_allOnTheWay, Cond.instanceMethod yX3_allOnTheWay, Cond.selects RX3 yX3_allOnTheWay yX3_allOnTheWay, Cond.code yX3_allOnTheWay cX3_allOnTheWay 3 (some .int), Cond.methodLink RX6 309 yX3_allIdle, Cond.instanceMethod yX3_allIdle, Cond.selects RX3 yX3_allIdle yX3_allIdle, Cond.code yX3_allIdle cX3_allIdle 3 (some .int), Cond.fieldLink RX3 205 "WheatRun$Combine" "idle" "I", Cond.methodLink RX6 312 yX3_allQueued, Cond.instanceMethod yX3_allQueued, Cond.selects RX3 yX3_allQueued yX3_allQueued, Cond.code yX3_allQueued cX3_allQueued 3 (some .int)]
def wsL_law0_r36 : List Cond := [Cond.methodLink RL 161 yX8_many, Cond.instanceMethod yX8_many, Cond.selects RX8 yX8_many yX8_many, Cond.code yX8_many cX8_many 2 (some .int), Cond.methodLink RX8 145 yX8_manyNow, Cond.instanceMethod yX8_manyNow, Cond.selects RX8 yX8_manyNow yX8_manyNow, Cond.code yX8_manyNow cX8_manyNow 8 (some .int), Cond.methodLink RL 162 yX6_meanDamp, Cond.instanceMethod yX6_meanDamp, Cond.selects RX6 yX6_meanDamp yX6_meanDamp, Cond.code yX6_meanDamp cX6_meanDamp 5 (some .double), Cond.methodLink RX6 315 yX2_uncut, Cond.methodLink RL 166 yX8_meanDamp, Cond.instanceMethod yX8_meanDamp, Cond.selects RX8 yX8_meanDamp yX8_meanDamp, Cond.code yX8_meanDamp cX8_meanDamp 5 (some .double), Cond.methodLink RL 167 yL_readyIn, Cond.static yL_readyIn, Cond.codeWith yL_readyIn cL_readyIn 6 (some .int) [(0, 12, 15, 13), (0, 12, 19, 15)], Cond.methodLink RL 79 yX6_readyIn, Cond.instanceMethod yX6_readyIn, Cond.selects RX6 yX6_readyIn yX6_readyIn, Cond.code yX6_readyIn cX6_readyIn 7 (some .int)]
def wsL_law0_r37 : List Cond := [Cond.methodLink RX6 323 yX2_copyFrom, Cond.instanceMethod yX2_copyFrom, Cond.selects RX2 yX2_copyFrom yX2_copyFrom, Cond.code yX2_copyFrom cX2_copyFrom 2 none, Cond.methodLink RX6 327 yX3_clock, Cond.methodLink RX6 330 yX2_isFit, Cond.methodLink RX6 334 yX2_passHour, Cond.methodLink RL 169 yX8_readyIn, Cond.instanceMethod yX8_readyIn, Cond.selects RX8 yX8_readyIn yX8_readyIn, Cond.code yX8_readyIn cX8_readyIn 4 (some .int), Cond.methodLink RX8 152 yX8_readyNow, Cond.instanceMethod yX8_readyNow, Cond.selects RX8 yX8_readyNow yX8_readyNow, Cond.code yX8_readyNow cX8_readyNow 7 (some .int), Cond.methodLink RX8 148 yX7_ripen, Cond.methodLink RL 170 yL_nextField, Cond.static yL_nextField, Cond.codeWith yL_nextField cL_nextField 7 (some .int) [(0, 14, 17, 13), (0, 14, 21, 15)], Cond.methodLink RL 82 yX6_nextField, Cond.instanceMethod yX6_nextField, Cond.selects RX6 yX6_nextField yX6_nextField, Cond.code yX6_nextField cX6_nextField 11 (some .int), Cond.methodLink RX6 339 yX6_bushelsIfSent]
def wsL_law0_r38 : List Cond := [Cond.instanceMethod yX6_bushelsIfSent, Cond.selects RX6 yX6_bushelsIfSent yX6_bushelsIfSent, Cond.code yX6_bushelsIfSent cX6_bushelsIfSent 9 (some .int), Cond.fieldLink RX6 386 "WheatRun$Combine" "bushelsCut" "I", Cond.methodLink RX6 383 yX3_copyFrom, Cond.instanceMethod yX3_copyFrom, Cond.selects RX3 yX3_copyFrom yX3_copyFrom, Cond.code yX3_copyFrom cX3_copyFrom 3 none, Cond.methodLink RX3 44 yX3_addRowsAs, Cond.instanceMethod yX3_addRowsAs, Cond.selects RX3 yX3_addRowsAs yX3_addRowsAs, Cond.code yX3_addRowsAs cX3_addRowsAs 3 none, Cond.classLink RX3 56 RX2, Cond.classLink RX3 62 RX0, Cond.classLink RX3 67 RX5, Cond.classLink RX3 72 RX1, Cond.methodLink RX3 77 yX2_init, Cond.methodLink RX3 84 yX0_init, Cond.methodLink RX3 87 yX5_init, Cond.methodLink RX3 90 yX1_init, Cond.methodLink RX3 58 yX2_copyFrom, Cond.methodLink RX3 64 yX0_copyFrom, Cond.instanceMethod yX0_copyFrom, Cond.selects RX0 yX0_copyFrom yX0_copyFrom]
def wsL_law0_r39 : List Cond := [Cond.code yX0_copyFrom cX0_copyFrom 2 none, Cond.methodLink RX3 69 yX5_copyFrom, Cond.instanceMethod yX5_copyFrom, Cond.selects RX5 yX5_copyFrom yX5_copyFrom, Cond.code yX5_copyFrom cX5_copyFrom 2 none, Cond.fieldLink RX5 36 "WheatRun$Truck" "queued" "I", Cond.methodLink RX3 74 yX1_copyFrom, Cond.instanceMethod yX1_copyFrom, Cond.selects RX1 yX1_copyFrom yX1_copyFrom, Cond.code yX1_copyFrom cX1_copyFrom 2 none, Cond.methodLink RL 172 yX8_nextField, Cond.instanceMethod yX8_nextField, Cond.selects RX8 yX8_nextField yX8_nextField, Cond.code yX8_nextField cX8_nextField 5 (some .int), Cond.methodLink RX8 159 yX8_nextNow, Cond.instanceMethod yX8_nextNow, Cond.selects RX8 yX8_nextNow yX8_nextNow, Cond.code yX8_nextNow cX8_nextNow 11 (some .int), Cond.methodLink RX8 155 yX7_copy, Cond.instanceMethod yX7_copy, Cond.selects RX7 yX7_copy yX7_copy, Cond.code yX7_copy cX7_copy 3 (some (.object "WheatRunModel$Land")), Cond.classLink RX7 12 RX7, Cond.methodLink RX7 37 arraycopyName]
def wsL_law0_r40 : List Cond := [Cond.fieldLink RX7 49 "WheatRunModel$Land" "elevatorCount" "I", Cond.methodLink RX7 32 yX7_init, Cond.methodLink RL 173 yL_waiting, Cond.static yL_waiting, Cond.codeWith yL_waiting cL_waiting 8 (some .int) [(0, 16, 19, 13), (0, 16, 23, 15)], Cond.methodLink RL 85 yX6_waiting, Cond.instanceMethod yX6_waiting, Cond.selects RX6 yX6_waiting yX6_waiting, Cond.code yX6_waiting cX6_waiting 8 (some .int), Cond.methodLink RX6 343 yX2_brings, Cond.methodLink RL 175 yX8_waiting, Cond.instanceMethod yX8_waiting, Cond.selects RX8 yX8_waiting yX8_waiting, Cond.code yX8_waiting cX8_waiting 6 (some .int), Cond.methodLink RX8 166 yX8_waitingNow, Cond.instanceMethod yX8_waitingNow, Cond.selects RX8 yX8_waitingNow yX8_waitingNow, Cond.code yX8_waitingNow cX8_waitingNow 9 (some .int), Cond.methodLink RX8 162 yX7_brings, Cond.methodLink RL 176 yX6_digest, Cond.instanceMethod yX6_digest, Cond.selects RX6 yX6_digest yX6_digest, Cond.code yX6_digest cX6_digest 5 (some .long), Cond.constantLong RX6 346 (7812)]
def wsL_law0_r41 : List Cond := [Cond.constantLong RX6 348 (31), Cond.methodLink RX6 350 yX6_many, Cond.methodLink RX6 353 yX6_ofField, Cond.methodLink RX6 356 yX6_readyIn, Cond.methodLink RX6 360 yX6_waiting, Cond.methodLink RX6 363 yX6_ofCombine, Cond.methodLink RX6 366 yX6_nextField, Cond.methodLink RX6 370 yX6_ofTruck, Cond.methodLink RX6 373 yX6_ofTicket, Cond.methodLink RX6 376 yX6_owed, Cond.methodLink RL 180 yX8_digest, Cond.instanceMethod yX8_digest, Cond.selects RX8 yX8_digest yX8_digest, Cond.code yX8_digest cX8_digest 5 (some .long), Cond.constantLong RX8 170 (7812), Cond.constantLong RX8 172 (31)]
def wsL_law0 : List Cond := (wsL_law0_r1 ++ (wsL_law0_r2 ++ (wsL_law0_r3 ++ (wsL_law0_r4 ++ (wsL_law0_r5 ++ (wsL_law0_r6 ++ (wsL_law0_r7 ++ (wsL_law0_r8 ++ (wsL_law0_r9 ++ (wsL_law0_r10 ++ (wsL_law0_r11 ++ (wsL_law0_r12 ++ (wsL_law0_r13 ++ (wsL_law0_r14 ++ (wsL_law0_r15 ++ (wsL_law0_r16 ++ (wsL_law0_r17 ++ (wsL_law0_r18 ++ (wsL_law0_r19 ++ (wsL_law0_r20 ++ (wsL_law0_r21 ++ (wsL_law0_r22 ++ (wsL_law0_r23 ++ (wsL_law0_r24 ++ (wsL_law0_r25 ++ (wsL_law0_r26 ++ (wsL_law0_r27 ++ (wsL_law0_r28 ++ (wsL_law0_r29 ++ (wsL_law0_r30 ++ (wsL_law0_r31 ++ (wsL_law0_r32 ++ (wsL_law0_r33 ++ (wsL_law0_r34 ++ (wsL_law0_r35 ++ (wsL_law0_r36 ++ (wsL_law0_r37 ++ (wsL_law0_r38 ++ (wsL_law0_r39 ++ (wsL_law0_r40 ++ wsL_law0_r41)))))))))))))))))))))))))))))))))))))))) ++ wsX60 ++ wsX80 ++ wsX30 ++ wsX20 ++ wsJx4a65c0 ++ wsX70 ++ wsX00 ++ wsX50 ++ wsX10 ++ wsX40 ++ ([] : List Cond)
def wsL_law : List Cond := wsL_law0 ++ (vx_atS RX6 38 "java/lang/IndexOutOfBoundsException" ["java/lang/RuntimeException", "java/lang/Exception"]).filter goodWord ++ (vx_atS RX6 45 "java/lang/IllegalArgumentException" ["java/lang/RuntimeException", "java/lang/Exception"]).filter goodWord ++ (vx_atS RX6 60 "java/lang/IllegalStateException" ["java/lang/RuntimeException", "java/lang/Exception"]).filter goodWord
set_option maxRecDepth 20000 in
theorem wsL_law_in0 : ∀ w ∈ wsL_law0, w ∈ lw_tbl := fun w h => (goodIn_p wsL_law0 [64, 67, 72, 78, 81, 84, 140, 1006, 1012, 841, 253, 218, 465, 469, 473, 477, 418, 480, 485, 488, 508, 411, 1086, 1089, 1093, 1096, 1082, 866, 352, 222, 225, 228, 232, 1101, 1105, 874, 521, 1109, 885, 581, 1113, 896, 640, 1117, 909, 1121, 917, 442, 380, 1125, 1129, 1133, 924, 739, 816, 1137, 1141, 1145, 932, 723, 1150, 1154, 941, 1158, 948, 1162, 956, 1166, 964, 429, 387, 681, 396, 404, 408, 415, 422, 688, 691, 697, 237, 434, 400, 705, 709, 713, 718, 727, 731, 735, 743, 749, 753, 757, 761, 767, 771, 808, 1171, 1174, 1186, 1190, 1193, 1199, 1202, 1205, 1211, 1215, 1219, 1223, 1242, 348, 372, 376, 1246, 1250, 1254, 438, 1258, 1262, 812, 1266, 1270, 821, 825, 1274, 830, 1278, 250, 214, 325, 330, 335, 340, 344, 1282, 1286, 210, 1290, 384, 392, 1294, 1298, 447, 452, 456, 460, 669, 673, 677, 1303, 1307, 1311, 426, 1318, 1322, 244, 1327] (by decide +kernel) (by decide +kernel) w h).1
theorem wsL_law_x0 : ∀ w ∈ (vx_atS RX6 38 "java/lang/IndexOutOfBoundsException" ["java/lang/RuntimeException", "java/lang/Exception"]).filter goodWord, w ∈ lw_tbl := by decide +kernel
theorem wsL_law_x1 : ∀ w ∈ (vx_atS RX6 45 "java/lang/IllegalArgumentException" ["java/lang/RuntimeException", "java/lang/Exception"]).filter goodWord, w ∈ lw_tbl := by decide +kernel
theorem wsL_law_x2 : ∀ w ∈ (vx_atS RX6 60 "java/lang/IllegalStateException" ["java/lang/RuntimeException", "java/lang/Exception"]).filter goodWord, w ∈ lw_tbl := by decide +kernel
theorem wsL_law_in : ∀ w ∈ wsL_law, w ∈ lw_tbl := fun w h => (List.mem_append.mp h).elim (fun h => (List.mem_append.mp h).elim (fun h => (List.mem_append.mp h).elim (fun h => wsL_law_in0 w h) (fun h => wsL_law_x0 w h)) (fun h => wsL_law_x1 w h)) (fun h => wsL_law_x2 w h)
theorem inlX0 : ∀ w ∈ wsX00, w ∈ wsL_law := fun _ h => List.mem_append_left _ (List.mem_append_left _ (List.mem_append_left _ (List.mem_append_left _ (List.mem_append_left _ (List.mem_append_left _ (List.mem_append_left _ (List.mem_append_right _ h)))))))
theorem inX0 : ∀ w ∈ wsX00, w ∈ lw_tbl := fun w h => wsL_law_in w (inlX0 w h)
theorem inlX1 : ∀ w ∈ wsX10, w ∈ wsL_law := fun _ h => List.mem_append_left _ (List.mem_append_left _ (List.mem_append_left _ (List.mem_append_left _ (List.mem_append_left _ (List.mem_append_right _ h)))))
theorem inX1 : ∀ w ∈ wsX10, w ∈ lw_tbl := fun w h => wsL_law_in w (inlX1 w h)
theorem inlX2 : ∀ w ∈ wsX20, w ∈ wsL_law := fun _ h => List.mem_append_left _ (List.mem_append_left _ (List.mem_append_left _ (List.mem_append_left _ (List.mem_append_left _ (List.mem_append_left _ (List.mem_append_left _ (List.mem_append_left _ (List.mem_append_left _ (List.mem_append_left _ (List.mem_append_right _ h))))))))))
theorem inX2 : ∀ w ∈ wsX20, w ∈ lw_tbl := fun w h => wsL_law_in w (inlX2 w h)
theorem inlX3 : ∀ w ∈ wsX30, w ∈ wsL_law := fun _ h => List.mem_append_left _ (List.mem_append_left _ (List.mem_append_left _ (List.mem_append_left _ (List.mem_append_left _ (List.mem_append_left _ (List.mem_append_left _ (List.mem_append_left _ (List.mem_append_left _ (List.mem_append_left _ (List.mem_append_left _ (List.mem_append_right _ h)))))))))))
theorem inX3 : ∀ w ∈ wsX30, w ∈ lw_tbl := fun w h => wsL_law_in w (inlX3 w h)
theorem inlX4 : ∀ w ∈ wsX40, w ∈ wsL_law := fun _ h => List.mem_append_left _ (List.mem_append_left _ (List.mem_append_left _ (List.mem_append_left _ (List.mem_append_right _ h))))
theorem inX4 : ∀ w ∈ wsX40, w ∈ lw_tbl := fun w h => wsL_law_in w (inlX4 w h)
theorem inlX5 : ∀ w ∈ wsX50, w ∈ wsL_law := fun _ h => List.mem_append_left _ (List.mem_append_left _ (List.mem_append_left _ (List.mem_append_left _ (List.mem_append_left _ (List.mem_append_left _ (List.mem_append_right _ h))))))
theorem inX5 : ∀ w ∈ wsX50, w ∈ lw_tbl := fun w h => wsL_law_in w (inlX5 w h)
theorem inlX6 : ∀ w ∈ wsX60, w ∈ wsL_law := fun _ h => List.mem_append_left _ (List.mem_append_left _ (List.mem_append_left _ (List.mem_append_left _ (List.mem_append_left _ (List.mem_append_left _ (List.mem_append_left _ (List.mem_append_left _ (List.mem_append_left _ (List.mem_append_left _ (List.mem_append_left _ (List.mem_append_left _ (List.mem_append_left _ (List.mem_append_right _ h)))))))))))))
theorem inX6 : ∀ w ∈ wsX60, w ∈ lw_tbl := fun w h => wsL_law_in w (inlX6 w h)
theorem inlX7 : ∀ w ∈ wsX70, w ∈ wsL_law := fun _ h => List.mem_append_left _ (List.mem_append_left _ (List.mem_append_left _ (List.mem_append_left _ (List.mem_append_left _ (List.mem_append_left _ (List.mem_append_left _ (List.mem_append_left _ (List.mem_append_right _ h))))))))
theorem inX7 : ∀ w ∈ wsX70, w ∈ lw_tbl := fun w h => wsL_law_in w (inlX7 w h)
theorem inlX8 : ∀ w ∈ wsX80, w ∈ wsL_law := fun _ h => List.mem_append_left _ (List.mem_append_left _ (List.mem_append_left _ (List.mem_append_left _ (List.mem_append_left _ (List.mem_append_left _ (List.mem_append_left _ (List.mem_append_left _ (List.mem_append_left _ (List.mem_append_left _ (List.mem_append_left _ (List.mem_append_left _ (List.mem_append_right _ h))))))))))))
theorem inX8 : ∀ w ∈ wsX80, w ∈ lw_tbl := fun w h => wsL_law_in w (inlX8 w h)
theorem inlJx4a65c : ∀ w ∈ wsJx4a65c0, w ∈ wsL_law := fun _ h => List.mem_append_left _ (List.mem_append_left _ (List.mem_append_left _ (List.mem_append_left _ (List.mem_append_left _ (List.mem_append_left _ (List.mem_append_left _ (List.mem_append_left _ (List.mem_append_left _ (List.mem_append_right _ h)))))))))
theorem inJx4a65c : ∀ w ∈ wsJx4a65c0, w ∈ lw_tbl := fun w h => wsL_law_in w (inlJx4a65c w h)
abbrev vwCl : List vw_C := [(RJx4a65c, TJx4a65c, 3), (RX0, TX0, 12), (RX1, TX1, 6), (RX2, TX2, 13), (RX3, TX3, 9), (RX4, TX4, 7), (RX5, TX5, 10), (RX6, TX6, 3), (RX7, TX7, 10), (RX8, TX8, 6)]

