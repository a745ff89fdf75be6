def RX0 : String := "WheatRun$Combine"
def TX0 : u_T := fun k => match k with
  | 0 => ("WheatRun$Combine", "number", "I", false)
  | 1 => ("WheatRun$Combine", "mile", "I", false)
  | 2 => ("WheatRun$Combine", "pace", "I", false)
  | 3 => ("WheatRun$Combine", "tank", "I", false)
  | 4 => ("WheatRun$Combine", "tankField", "I", false)
  | 5 => ("WheatRun$Combine", "tankDamp", "I", false)
  | 6 => ("WheatRun$Combine", "wear", "I", false)
  | 7 => ("WheatRun$Combine", "isBroken", "Z", false)
  | 8 => ("WheatRun$Combine", "idle", "I", false)
  | 9 => ("WheatRun$Combine", "goal", "I", false)
  | 10 => ("WheatRun$Combine", "acresCut", "I", false)
  | _ => ("WheatRun$Combine", "bushelsCut", "I", false)
def tyX0 : Nat → FieldType := fun k => match k with
  | 0 => .int
  | 1 => .int
  | 2 => .int
  | 3 => .int
  | 4 => .int
  | 5 => .int
  | 6 => .int
  | 7 => .boolean
  | 8 => .int
  | 9 => .int
  | 10 => .int
  | _ => .int
abbrev wsX00 : List Cond := u_ws RX0 TX0 12
theorem nmX0 : ∀ a, a < 12 → ∀ b, b < 12 → a ≠ b → (TX0 a).2.1 ≠ (TX0 b).2.1 := by decide +kernel
theorem tyX0_ok : ∀ k, k < 12 → parseFieldDescriptor (TX0 k).2.2.1 = some (tyX0 k) := by decide +kernel
abbrev cX0_init : ByteArray := prog_2_method_1_code
def yX0_init : MethodName := ⟨RX0, "<init>", "(III)V"⟩
abbrev cX0_copyFrom : ByteArray := prog_2_method_2_code
def yX0_copyFrom : MethodName := ⟨RX0, "copyFrom", "(LWheatRun$Combine;)V"⟩
abbrev cX0_passHour : ByteArray := prog_2_method_3_code
def yX0_passHour : MethodName := ⟨RX0, "passHour", "(LWheatRun$Field;II)V"⟩
abbrev cX0_holdsAnother : ByteArray := prog_2_method_4_code
def yX0_holdsAnother : MethodName := ⟨RX0, "holdsAnother", "()Z"⟩
abbrev cX0_acresAtOnce : ByteArray := prog_2_method_5_code
def yX0_acresAtOnce : MethodName := ⟨RX0, "acresAtOnce", "(LWheatRun$Field;)I"⟩
abbrev cX0_harvest : ByteArray := prog_2_method_6_code
def yX0_harvest : MethodName := ⟨RX0, "harvest", "(LWheatRun$Field;I)V"⟩
abbrev cX0_metered : ByteArray := prog_2_method_7_code
def yX0_metered : MethodName := ⟨RX0, "metered", "(I)I"⟩
def RX1 : String := "WheatRun$Elevator"
def TX1 : u_T := fun k => match k with
  | 0 => ("WheatRun$Elevator", "mile", "I", false)
  | 1 => ("WheatRun$Elevator", "room", "I", false)
  | 2 => ("WheatRun$Elevator", "from", "I", false)
  | 3 => ("WheatRun$Elevator", "to", "I", false)
  | 4 => ("WheatRun$Elevator", "least", "I", false)
  | _ => ("WheatRun$Elevator", "greatest", "I", false)
def tyX1 : Nat → FieldType := fun k => match k with
  | 0 => .int
  | 1 => .int
  | 2 => .int
  | 3 => .int
  | 4 => .int
  | _ => .int
abbrev wsX10 : List Cond := u_ws RX1 TX1 6
theorem nmX1 : ∀ a, a < 6 → ∀ b, b < 6 → a ≠ b → (TX1 a).2.1 ≠ (TX1 b).2.1 := by decide +kernel
theorem tyX1_ok : ∀ k, k < 6 → parseFieldDescriptor (TX1 k).2.2.1 = some (tyX1 k) := by decide +kernel
abbrev cX1_init : ByteArray := prog_3_method_1_code
def yX1_init : MethodName := ⟨RX1, "<init>", "(IIIIII)V"⟩
abbrev cX1_copyFrom : ByteArray := prog_3_method_2_code
def yX1_copyFrom : MethodName := ⟨RX1, "copyFrom", "(LWheatRun$Elevator;)V"⟩
abbrev cX1_takes : ByteArray := prog_3_method_3_code
def yX1_takes : MethodName := ⟨RX1, "takes", "(LWheatRun$Truck;I)Z"⟩
abbrev cX1_isOpen : ByteArray := prog_3_method_4_code
def yX1_isOpen : MethodName := ⟨RX1, "isOpen", "(I)Z"⟩
abbrev cX1_discount : ByteArray := prog_3_method_5_code
def yX1_discount : MethodName := ⟨RX1, "discount", "(I)I"⟩
def RX2 : String := "WheatRun$Field"
def TX2 : u_T := fun k => match k with
  | 0 => ("WheatRun$Field", "farmer", "I", false)
  | 1 => ("WheatRun$Field", "mile", "I", false)
  | 2 => ("WheatRun$Field", "acres", "I", false)
  | 3 => ("WheatRun$Field", "bushels", "I", false)
  | 4 => ("WheatRun$Field", "share", "I", false)
  | 5 => ("WheatRun$Field", "acresCut", "I", false)
  | 6 => ("WheatRun$Field", "ripe", "I", false)
  | 7 => ("WheatRun$Field", "damp", "I", false)
  | 8 => ("WheatRun$Field", "lost", "I", false)
  | 9 => ("WheatRun$Field", "map", "I", false)
  | 10 => ("WheatRun$Field", "sold", "I", false)
  | 11 => ("WheatRun$Field", "forFarmer", "I", false)
  | _ => ("WheatRun$Field", "forLandlord", "I", false)
def tyX2 : Nat → FieldType := fun k => match k with
  | 0 => .int
  | 1 => .int
  | 2 => .int
  | 3 => .int
  | 4 => .int
  | 5 => .int
  | 6 => .int
  | 7 => .int
  | 8 => .int
  | 9 => .int
  | 10 => .int
  | 11 => .int
  | _ => .int
abbrev wsX20 : List Cond := u_ws RX2 TX2 13
theorem nmX2 : ∀ a, a < 13 → ∀ b, b < 13 → a ≠ b → (TX2 a).2.1 ≠ (TX2 b).2.1 := by decide +kernel
theorem tyX2_ok : ∀ k, k < 13 → parseFieldDescriptor (TX2 k).2.2.1 = some (tyX2 k) := by decide +kernel
abbrev cX2_init : ByteArray := prog_4_method_1_code
def yX2_init : MethodName := ⟨RX2, "<init>", "(IIIII)V"⟩
abbrev cX2_copyFrom : ByteArray := prog_4_method_2_code
def yX2_copyFrom : MethodName := ⟨RX2, "copyFrom", "(LWheatRun$Field;)V"⟩
abbrev cX2_passHour : ByteArray := prog_4_method_3_code
def yX2_passHour : MethodName := ⟨RX2, "passHour", "(IIII)V"⟩
abbrev cX2_ripen : ByteArray := prog_4_method_4_code
def yX2_ripen : MethodName := ⟨RX2, "ripen", "(I)V"⟩
abbrev cX2_soakOrDry : ByteArray := prog_4_method_5_code
def yX2_soakOrDry : MethodName := ⟨RX2, "soakOrDry", "(II)V"⟩
abbrev cX2_shatter : ByteArray := prog_4_method_6_code
def yX2_shatter : MethodName := ⟨RX2, "shatter", "(II)V"⟩
abbrev cX2_isFit : ByteArray := prog_4_method_7_code
def yX2_isFit : MethodName := ⟨RX2, "isFit", "(I)Z"⟩
abbrev cX2_uncut : ByteArray := prog_4_method_8_code
def yX2_uncut : MethodName := ⟨RX2, "uncut", "()I"⟩
abbrev cX2_brings : ByteArray := prog_4_method_9_code
def yX2_brings : MethodName := ⟨RX2, "brings", "()I"⟩
abbrev cX2_correction : ByteArray := prog_4_method_10_code
def yX2_correction : MethodName := ⟨RX2, "correction", "(I)I"⟩
abbrev cX2_credit : ByteArray := prog_4_method_11_code
def yX2_credit : MethodName := ⟨RX2, "credit", "(II)V"⟩
def RX3 : String := "WheatRun$Land"
def TX3 : u_T := fun k => match k with
  | 0 => ("WheatRun$Land", "fields", "Ljava/util/ArrayList;", true)
  | 1 => ("WheatRun$Land", "combines", "Ljava/util/ArrayList;", true)
  | 2 => ("WheatRun$Land", "trucks", "Ljava/util/ArrayList;", true)
  | 3 => ("WheatRun$Land", "elevators", "Ljava/util/ArrayList;", true)
  | 4 => ("WheatRun$Land", "tickets", "Ljava/util/ArrayList;", true)
  | 5 => ("WheatRun$Land", "isTrial", "Z", true)
  | 6 => ("WheatRun$Land", "now", "I", false)
  | 7 => ("WheatRun$Land", "price", "I", false)
  | _ => ("WheatRun$Land", "money", "I", false)
def tyX3 : Nat → FieldType := fun k => match k with
  | 0 => .object "java/util/ArrayList"
  | 1 => .object "java/util/ArrayList"
  | 2 => .object "java/util/ArrayList"
  | 3 => .object "java/util/ArrayList"
  | 4 => .object "java/util/ArrayList"
  | 5 => .boolean
  | 6 => .int
  | 7 => .int
  | _ => .int
abbrev wsX30 : List Cond := u_ws RX3 TX3 9
theorem nmX3 : ∀ a, a < 9 → ∀ b, b < 9 → a ≠ b → (TX3 a).2.1 ≠ (TX3 b).2.1 := by decide +kernel
theorem tyX3_ok : ∀ k, k < 9 → parseFieldDescriptor (TX3 k).2.2.1 = some (tyX3 k) := by decide +kernel
abbrev cX3_init : ByteArray := prog_5_method_1_code
def yX3_init : MethodName := ⟨RX3, "<init>", "(Z)V"⟩
abbrev cX3_copyFrom : ByteArray := prog_5_method_2_code
def yX3_copyFrom : MethodName := ⟨RX3, "copyFrom", "(LWheatRun$Land;)V"⟩
abbrev cX3_addRowsAs : ByteArray := prog_5_method_3_code
def yX3_addRowsAs : MethodName := ⟨RX3, "addRowsAs", "(LWheatRun$Land;)V"⟩
abbrev cX3_fieldAt : ByteArray := prog_5_method_4_code
def yX3_fieldAt : MethodName := ⟨RX3, "fieldAt", "(I)LWheatRun$Field;"⟩
abbrev cX3_combineAt : ByteArray := prog_5_method_5_code
def yX3_combineAt : MethodName := ⟨RX3, "combineAt", "(I)LWheatRun$Combine;"⟩
abbrev cX3_truckAt : ByteArray := prog_5_method_6_code
def yX3_truckAt : MethodName := ⟨RX3, "truckAt", "(I)LWheatRun$Truck;"⟩
abbrev cX3_elevatorAt : ByteArray := prog_5_method_7_code
def yX3_elevatorAt : MethodName := ⟨RX3, "elevatorAt", "(I)LWheatRun$Elevator;"⟩
abbrev cX3_ticketAt : ByteArray := prog_5_method_8_code
def yX3_ticketAt : MethodName := ⟨RX3, "ticketAt", "(I)LWheatRun$Ticket;"⟩
abbrev cX3_clock : ByteArray := prog_5_method_9_code
def yX3_clock : MethodName := ⟨RX3, "clock", "()I"⟩
abbrev cX3_passHour : ByteArray := prog_5_method_10_code
def yX3_passHour : MethodName := ⟨RX3, "passHour", "(III)V"⟩
abbrev cX3_passTruckHour : ByteArray := prog_5_method_11_code
def yX3_passTruckHour : MethodName := ⟨RX3, "passTruckHour", "(LWheatRun$Truck;)V"⟩
abbrev cX3_unload : ByteArray := prog_5_method_12_code
def yX3_unload : MethodName := ⟨RX3, "unload", "(LWheatRun$Truck;LWheatRun$Elevator;)V"⟩
abbrev cX3_writeTicket : ByteArray := prog_5_method_13_code
def yX3_writeTicket : MethodName := ⟨RX3, "writeTicket", "(LWheatRun$Truck;LWheatRun$Elevator;)V"⟩
abbrev cX3_combinesSentTo : ByteArray := prog_5_method_14_code
def yX3_combinesSentTo : MethodName := ⟨RX3, "combinesSentTo", "(I)I"⟩
abbrev cX3_onTheWay : ByteArray := prog_5_method_15_code
def yX3_onTheWay : MethodName := ⟨RX3, "onTheWay", "(I)I"⟩
abbrev cX3_allOnTheWay : ByteArray := prog_5_method_16_code
def yX3_allOnTheWay : MethodName := ⟨RX3, "allOnTheWay", "()I"⟩
abbrev cX3_uncutAcres : ByteArray := prog_5_method_17_code
def yX3_uncutAcres : MethodName := ⟨RX3, "uncutAcres", "()I"⟩
abbrev cX3_brokenCombines : ByteArray := prog_5_method_18_code
def yX3_brokenCombines : MethodName := ⟨RX3, "brokenCombines", "()I"⟩
abbrev cX3_allRoom : ByteArray := prog_5_method_19_code
def yX3_allRoom : MethodName := ⟨RX3, "allRoom", "()I"⟩
abbrev cX3_allIdle : ByteArray := prog_5_method_20_code
def yX3_allIdle : MethodName := ⟨RX3, "allIdle", "()I"⟩
abbrev cX3_allQueued : ByteArray := prog_5_method_21_code
def yX3_allQueued : MethodName := ⟨RX3, "allQueued", "()I"⟩
def RX4 : String := "WheatRun$Ticket"
def TX4 : u_T := fun k => match k with
  | 0 => ("WheatRun$Ticket", "field", "I", true)
  | 1 => ("WheatRun$Ticket", "bushels", "I", true)
  | 2 => ("WheatRun$Ticket", "damp", "I", true)
  | 3 => ("WheatRun$Ticket", "discount", "I", true)
  | 4 => ("WheatRun$Ticket", "elevator", "I", true)
  | 5 => ("WheatRun$Ticket", "hour", "I", true)
  | _ => ("WheatRun$Ticket", "worth", "I", true)
def tyX4 : Nat → FieldType := fun k => match k with
  | 0 => .int
  | 1 => .int
  | 2 => .int
  | 3 => .int
  | 4 => .int
  | 5 => .int
  | _ => .int
abbrev wsX40 : List Cond := u_ws RX4 TX4 7
theorem nmX4 : ∀ a, a < 7 → ∀ b, b < 7 → a ≠ b → (TX4 a).2.1 ≠ (TX4 b).2.1 := by decide +kernel
theorem tyX4_ok : ∀ k, k < 7 → parseFieldDescriptor (TX4 k).2.2.1 = some (tyX4 k) := by decide +kernel
abbrev cX4_init : ByteArray := prog_6_method_1_code
def yX4_init : MethodName := ⟨RX4, "<init>", "(LWheatRun$Truck;III)V"⟩
def RX5 : String := "WheatRun$Truck"
def TX5 : u_T := fun k => match k with
  | 0 => ("WheatRun$Truck", "mile", "I", false)
  | 1 => ("WheatRun$Truck", "hours", "I", false)
  | 2 => ("WheatRun$Truck", "load", "I", false)
  | 3 => ("WheatRun$Truck", "loadField", "I", false)
  | 4 => ("WheatRun$Truck", "damp", "I", false)
  | 5 => ("WheatRun$Truck", "rest", "I", false)
  | 6 => ("WheatRun$Truck", "queued", "I", false)
  | 7 => ("WheatRun$Truck", "toCombine", "I", false)
  | 8 => ("WheatRun$Truck", "toElevator", "I", false)
  | _ => ("WheatRun$Truck", "driven", "I", false)
def tyX5 : Nat → FieldType := fun k => match k with
  | 0 => .int
  | 1 => .int
  | 2 => .int
  | 3 => .int
  | 4 => .int
  | 5 => .int
  | 6 => .int
  | 7 => .int
  | 8 => .int
  | _ => .int
abbrev wsX50 : List Cond := u_ws RX5 TX5 10
theorem nmX5 : ∀ a, a < 10 → ∀ b, b < 10 → a ≠ b → (TX5 a).2.1 ≠ (TX5 b).2.1 := by decide +kernel
theorem tyX5_ok : ∀ k, k < 10 → parseFieldDescriptor (TX5 k).2.2.1 = some (tyX5 k) := by decide +kernel
abbrev cX5_init : ByteArray := prog_7_method_1_code
def yX5_init : MethodName := ⟨RX5, "<init>", "(I)V"⟩
abbrev cX5_copyFrom : ByteArray := prog_7_method_2_code
def yX5_copyFrom : MethodName := ⟨RX5, "copyFrom", "(LWheatRun$Truck;)V"⟩
abbrev cX5_mustRest : ByteArray := prog_7_method_3_code
def yX5_mustRest : MethodName := ⟨RX5, "mustRest", "()Z"⟩
abbrev cX5_sleepHour : ByteArray := prog_7_method_4_code
def yX5_sleepHour : MethodName := ⟨RX5, "sleepHour", "()V"⟩
abbrev cX5_drive : ByteArray := prog_7_method_5_code
def yX5_drive : MethodName := ⟨RX5, "drive", "(I)V"⟩
abbrev cX5_takeFrom : ByteArray := prog_7_method_6_code
def yX5_takeFrom : MethodName := ⟨RX5, "takeFrom", "(LWheatRun$Combine;)V"⟩
def RX6 : String := "WheatRun"
def TX6 : u_T := fun k => match k with
  | 0 => ("WheatRun", "land", "LWheatRun$Land;", true)
  | 1 => ("WheatRun", "trial", "LWheatRun$Land;", true)
  | _ => ("WheatRun", "trialField", "LWheatRun$Field;", true)
def tyX6 : Nat → FieldType := fun k => match k with
  | 0 => .object "WheatRun$Land"
  | 1 => .object "WheatRun$Land"
  | _ => .object "WheatRun$Field"
abbrev wsX60 : List Cond := u_ws RX6 TX6 3
theorem nmX6 : ∀ a, a < 3 → ∀ b, b < 3 → a ≠ b → (TX6 a).2.1 ≠ (TX6 b).2.1 := by decide +kernel
theorem tyX6_ok : ∀ k, k < 3 → parseFieldDescriptor (TX6 k).2.2.1 = some (tyX6 k) := by decide +kernel
abbrev cX6_init : ByteArray := prog_1_method_1_code
def yX6_init : MethodName := ⟨RX6, "<init>", "()V"⟩
abbrev cX6_field : ByteArray := prog_1_method_2_code
def yX6_field : MethodName := ⟨RX6, "field", "(IIIII)I"⟩
abbrev cX6_crop : ByteArray := prog_1_method_3_code
def yX6_crop : MethodName := ⟨RX6, "crop", "(III)I"⟩
abbrev cX6_combine : ByteArray := prog_1_method_4_code
def yX6_combine : MethodName := ⟨RX6, "combine", "(II)I"⟩
abbrev cX6_truck : ByteArray := prog_1_method_5_code
def yX6_truck : MethodName := ⟨RX6, "truck", "(I)I"⟩
abbrev cX6_elevator : ByteArray := prog_1_method_6_code
def yX6_elevator : MethodName := ⟨RX6, "elevator", "(IIIIII)I"⟩
abbrev cX6_cut : ByteArray := prog_1_method_8_code
def yX6_cut : MethodName := ⟨RX6, "cut", "(II)I"⟩
abbrev cX6_fetch : ByteArray := prog_1_method_9_code
def yX6_fetch : MethodName := ⟨RX6, "fetch", "(II)I"⟩
abbrev cX6_haul : ByteArray := prog_1_method_10_code
def yX6_haul : MethodName := ⟨RX6, "haul", "(II)I"⟩
abbrev cX6_pass : ByteArray := prog_1_method_14_code
def yX6_pass : MethodName := ⟨RX6, "pass", "(IIII)I"⟩
abbrev cX6_ofField : ByteArray := prog_1_method_15_code
def yX6_ofField : MethodName := ⟨RX6, "ofField", "(II)I"⟩
abbrev cX6_ofCombine : ByteArray := prog_1_method_16_code
def yX6_ofCombine : MethodName := ⟨RX6, "ofCombine", "(II)I"⟩
abbrev cX6_ofTruck : ByteArray := prog_1_method_17_code
def yX6_ofTruck : MethodName := ⟨RX6, "ofTruck", "(II)I"⟩
abbrev cX6_ofTicket : ByteArray := prog_1_method_18_code
def yX6_ofTicket : MethodName := ⟨RX6, "ofTicket", "(II)I"⟩
abbrev cX6_owed : ByteArray := prog_1_method_19_code
def yX6_owed : MethodName := ⟨RX6, "owed", "(IZ)I"⟩
abbrev cX6_many : ByteArray := prog_1_method_20_code
def yX6_many : MethodName := ⟨RX6, "many", "(I)I"⟩
abbrev cX6_readyIn : ByteArray := prog_1_method_22_code
def yX6_readyIn : MethodName := ⟨RX6, "readyIn", "(III)I"⟩
abbrev cX6_nextField : ByteArray := prog_1_method_23_code
def yX6_nextField : MethodName := ⟨RX6, "nextField", "(IIII)I"⟩
abbrev cX6_waiting : ByteArray := prog_1_method_24_code
def yX6_waiting : MethodName := ⟨RX6, "waiting", "(IIIII)I"⟩
abbrev cX6_digest : ByteArray := prog_1_method_25_code
def yX6_digest : MethodName := ⟨RX6, "digest", "()J"⟩
abbrev cX6_isOutside : ByteArray := prog_1_method_26_code
def yX6_isOutside : MethodName := ⟨RX6, "isOutside", "(III)Z"⟩
abbrev cX6_isNoWeather : ByteArray := prog_1_method_27_code
def yX6_isNoWeather : MethodName := ⟨RX6, "isNoWeather", "(III)Z"⟩
abbrev cX6_isNoForecast : ByteArray := prog_1_method_28_code
def yX6_isNoForecast : MethodName := ⟨RX6, "isNoForecast", "(IIII)Z"⟩
abbrev cX6_towards : ByteArray := prog_1_method_29_code
def yX6_towards : MethodName := ⟨RX6, "towards", "(III)I"⟩
abbrev cX6_bushelsIfSent : ByteArray := prog_1_method_30_code
def yX6_bushelsIfSent : MethodName := ⟨RX6, "bushelsIfSent", "(IIIII)I"⟩
def RX7 : String := "WheatRunLaw$Told"
def TX7 : u_T := fun k => match k with
  | 0 => ("WheatRunLaw$Told", "m", "LWheatRun;", true)
  | 1 => ("WheatRunLaw$Told", "s", "[I", true)
  | 2 => ("WheatRunLaw$Told", "draws", "I", false)
  | 3 => ("WheatRunLaw$Told", "f", "[[I", false)
  | 4 => ("WheatRunLaw$Told", "c", "[[I", false)
  | 5 => ("WheatRunLaw$Told", "t", "[[I", false)
  | 6 => ("WheatRunLaw$Told", "e", "[[I", false)
  | 7 => ("WheatRunLaw$Told", "tickets", "[[I", false)
  | 8 => ("WheatRunLaw$Told", "owed", "[I", true)
  | 9 => ("WheatRunLaw$Told", "now", "I", false)
  | 10 => ("WheatRunLaw$Told", "price", "I", false)
  | _ => ("WheatRunLaw$Told", "money", "I", false)
def tyX7 : Nat → FieldType := fun k => match k with
  | 0 => .object "WheatRun"
  | 1 => .array .int
  | 2 => .int
  | 3 => .array (.array .int)
  | 4 => .array (.array .int)
  | 5 => .array (.array .int)
  | 6 => .array (.array .int)
  | 7 => .array (.array .int)
  | 8 => .array .int
  | 9 => .int
  | 10 => .int
  | _ => .int
abbrev wsX70 : List Cond := u_ws RX7 TX7 12
theorem nmX7 : ∀ a, a < 12 → ∀ b, b < 12 → a ≠ b → (TX7 a).2.1 ≠ (TX7 b).2.1 := by decide +kernel
theorem tyX7_ok : ∀ k, k < 12 → parseFieldDescriptor (TX7 k).2.2.1 = some (tyX7 k) := by decide +kernel
abbrev cX7_init : ByteArray := prog_9_method_1_code
def yX7_init : MethodName := ⟨RX7, "<init>", "([II)V"⟩
abbrev cX7_draw : ByteArray := prog_9_method_2_code
def yX7_draw : MethodName := ⟨RX7, "draw", "(I)I"⟩
abbrev cX7_plus : ByteArray := prog_9_method_3_code
def yX7_plus : MethodName := ⟨RX7, "plus", "([[I[I)[[I"⟩
abbrev cX7_field : ByteArray := prog_9_method_4_code
def yX7_field : MethodName := ⟨RX7, "field", "(IIIII)Z"⟩
abbrev cX7_crop : ByteArray := prog_9_method_5_code
def yX7_crop : MethodName := ⟨RX7, "crop", "(III)Z"⟩
abbrev cX7_combine : ByteArray := prog_9_method_6_code
def yX7_combine : MethodName := ⟨RX7, "combine", "(II)Z"⟩
abbrev cX7_truck : ByteArray := prog_9_method_7_code
def yX7_truck : MethodName := ⟨RX7, "truck", "(I)Z"⟩
abbrev cX7_elevator : ByteArray := prog_9_method_8_code
def yX7_elevator : MethodName := ⟨RX7, "elevator", "(IIIIII)Z"⟩
abbrev cX7_found : ByteArray := prog_9_method_20_code
def yX7_found : MethodName := ⟨RX7, "found", "(I)Z"⟩
def RX8 : String := "WheatRunModel$Land"
def TX8 : u_T := fun k => match k with
  | _ => ("", "", "", false)
def tyX8 : Nat → FieldType := fun k => match k with
  | _ => .int
abbrev wsX80 : List Cond := u_ws RX8 TX8 0
theorem nmX8 : ∀ a, a < 0 → ∀ b, b < 0 → a ≠ b → (TX8 a).2.1 ≠ (TX8 b).2.1 := by decide +kernel
theorem tyX8_ok : ∀ k, k < 0 → parseFieldDescriptor (TX8 k).2.2.1 = some (tyX8 k) := by decide +kernel
def RX9 : String := "WheatRunModel"
def TX9 : u_T := fun k => match k with
  | _ => ("", "", "", false)
def tyX9 : Nat → FieldType := fun k => match k with
  | _ => .int
abbrev wsX90 : List Cond := u_ws RX9 TX9 0
theorem nmX9 : ∀ a, a < 0 → ∀ b, b < 0 → a ≠ b → (TX9 a).2.1 ≠ (TX9 b).2.1 := by decide +kernel
theorem tyX9_ok : ∀ k, k < 0 → parseFieldDescriptor (TX9 k).2.2.1 = some (tyX9 k) := by decide +kernel
def RJx145de : String := "java/io/Serializable"
def TJx145de : u_T := fun k => match k with
  | _ => ("", "", "", false)
def tyJx145de : Nat → FieldType := fun k => match k with
  | _ => .int
abbrev wsJx145de0 : List Cond := u_ws RJx145de TJx145de 0
theorem nmJx145de : ∀ a, a < 0 → ∀ b, b < 0 → a ≠ b → (TJx145de a).2.1 ≠ (TJx145de b).2.1 := by decide +kernel
theorem tyJx145de_ok : ∀ k, k < 0 → parseFieldDescriptor (TJx145de k).2.2.1 = some (tyJx145de k) := by decide +kernel
def RJx8e188 : String := "java/lang/Cloneable"
def TJx8e188 : u_T := fun k => match k with
  | _ => ("", "", "", false)
def tyJx8e188 : Nat → FieldType := fun k => match k with
  | _ => .int
abbrev wsJx8e1880 : List Cond := u_ws RJx8e188 TJx8e188 0
theorem nmJx8e188 : ∀ a, a < 0 → ∀ b, b < 0 → a ≠ b → (TJx8e188 a).2.1 ≠ (TJx8e188 b).2.1 := by decide +kernel
theorem tyJx8e188_ok : ∀ k, k < 0 → parseFieldDescriptor (TJx8e188 k).2.2.1 = some (tyJx8e188 k) := by decide +kernel
def RJxab1ab : String := "java/lang/Iterable"
def TJxab1ab : u_T := fun k => match k with
  | _ => ("", "", "", false)
def tyJxab1ab : Nat → FieldType := fun k => match k with
  | _ => .int
abbrev wsJxab1ab0 : List Cond := u_ws RJxab1ab TJxab1ab 0
theorem nmJxab1ab : ∀ a, a < 0 → ∀ b, b < 0 → a ≠ b → (TJxab1ab a).2.1 ≠ (TJxab1ab b).2.1 := by decide +kernel
theorem tyJxab1ab_ok : ∀ k, k < 0 → parseFieldDescriptor (TJxab1ab k).2.2.1 = some (tyJxab1ab k) := by decide +kernel
def RJ9 : String := "java/lang/Math"
def TJ9 : u_T := fun k => match k with
  | _ => ("", "", "", false)
def tyJ9 : Nat → FieldType := fun k => match k with
  | _ => .int
abbrev wsJ90 : List Cond := u_ws RJ9 TJ9 0
theorem nmJ9 : ∀ a, a < 0 → ∀ b, b < 0 → a ≠ b → (TJ9 a).2.1 ≠ (TJ9 b).2.1 := by decide +kernel
theorem tyJ9_ok : ∀ k, k < 0 → parseFieldDescriptor (TJ9 k).2.2.1 = some (tyJ9 k) := by decide +kernel
abbrev cJ9_abs_0f7a4 : ByteArray := prog_19_method_59_code
def yJ9_abs_0f7a4 : MethodName := ⟨RJ9, "abs", "(I)I"⟩
abbrev cJ9_max_7cf53 : ByteArray := prog_19_method_65_code
def yJ9_max_7cf53 : MethodName := ⟨RJ9, "max", "(II)I"⟩
abbrev cJ9_min_7cf53 : ByteArray := prog_19_method_69_code
def yJ9_min_7cf53 : MethodName := ⟨RJ9, "min", "(II)I"⟩
def RJ0 : String := "java/lang/String"
def TJ0 : u_T := fun k => match k with
  | _ => ("", "", "", false)
def tyJ0 : Nat → FieldType := fun k => match k with
  | _ => .int
abbrev wsJ00 : List Cond := u_ws RJ0 TJ0 0
theorem nmJ0 : ∀ a, a < 0 → ∀ b, b < 0 → a ≠ b → (TJ0 a).2.1 ≠ (TJ0 b).2.1 := by decide +kernel
theorem tyJ0_ok : ∀ k, k < 0 → parseFieldDescriptor (TJ0 k).2.2.1 = some (tyJ0 k) := by decide +kernel
def RJ10 : String := "java/lang/System"
def TJ10 : u_T := fun k => match k with
  | _ => ("", "", "", false)
def tyJ10 : Nat → FieldType := fun k => match k with
  | _ => .int
abbrev wsJ100 : List Cond := u_ws RJ10 TJ10 0
theorem nmJ10 : ∀ a, a < 0 → ∀ b, b < 0 → a ≠ b → (TJ10 a).2.1 ≠ (TJ10 b).2.1 := by decide +kernel
theorem tyJ10_ok : ∀ k, k < 0 → parseFieldDescriptor (TJ10 k).2.2.1 = some (tyJ10 k) := by decide +kernel
def RJxa1e45 : String := "java/util/AbstractCollection"
def TJxa1e45 : u_T := fun k => match k with
  | _ => ("", "", "", false)
def tyJxa1e45 : Nat → FieldType := fun k => match k with
  | _ => .int
abbrev wsJxa1e450 : List Cond := u_ws RJxa1e45 TJxa1e45 0
theorem nmJxa1e45 : ∀ a, a < 0 → ∀ b, b < 0 → a ≠ b → (TJxa1e45 a).2.1 ≠ (TJxa1e45 b).2.1 := by decide +kernel
theorem tyJxa1e45_ok : ∀ k, k < 0 → parseFieldDescriptor (TJxa1e45 k).2.2.1 = some (tyJxa1e45 k) := by decide +kernel
abbrev cJxa1e45_init_da8c8 : ByteArray := prog_24_method_1_code
def yJxa1e45_init_da8c8 : MethodName := ⟨RJxa1e45, "<init>", "()V"⟩
def RJxc12de : String := "java/util/AbstractList"
def TJxc12de : u_T := fun k => match k with
  | _ => ("", "", "", false)
def tyJxc12de : Nat → FieldType := fun k => match k with
  | _ => .int
abbrev wsJxc12de0 : List Cond := u_ws RJxc12de TJxc12de 0
theorem nmJxc12de : ∀ a, a < 0 → ∀ b, b < 0 → a ≠ b → (TJxc12de a).2.1 ≠ (TJxc12de b).2.1 := by decide +kernel
theorem tyJxc12de_ok : ∀ k, k < 0 → parseFieldDescriptor (TJxc12de k).2.2.1 = some (tyJxc12de k) := by decide +kernel
abbrev cJxc12de_init_da8c8 : ByteArray := prog_25_method_1_code
def yJxc12de_init_da8c8 : MethodName := ⟨RJxc12de, "<init>", "()V"⟩
def RJx4a65c : String := "java/util/ArrayList"
def TJx4a65c : u_T := fun k => match k with
  | 0 => ("java/util/AbstractList", "modCount", "I", false)
  | 1 => ("java/util/ArrayList", "elementData", "[Ljava/lang/Object;", false)
  | _ => ("java/util/ArrayList", "size", "I", false)
def tyJx4a65c : Nat → FieldType := fun k => match k with
  | 0 => .int
  | 1 => .array (.object "java/lang/Object")
  | _ => .int
abbrev wsJx4a65c0 : List Cond := u_ws RJx4a65c TJx4a65c 3
theorem nmJx4a65c : ∀ a, a < 3 → ∀ b, b < 3 → a ≠ b → (TJx4a65c a).2.1 ≠ (TJx4a65c b).2.1 := by decide +kernel
theorem tyJx4a65c_ok : ∀ k, k < 3 → parseFieldDescriptor (TJx4a65c k).2.2.1 = some (tyJx4a65c k) := by decide +kernel
abbrev cJx4a65c_init_da8c8 : ByteArray := prog_26_method_2_code
def yJx4a65c_init_da8c8 : MethodName := ⟨RJx4a65c, "<init>", "()V"⟩
abbrev cJx4a65c_grow_92f84 : ByteArray := prog_26_method_6_code
def yJx4a65c_grow_92f84 : MethodName := ⟨RJx4a65c, "grow", "(I)[Ljava/lang/Object;"⟩
abbrev cJx4a65c_grow_d5877 : ByteArray := prog_26_method_7_code
def yJx4a65c_grow_d5877 : MethodName := ⟨RJx4a65c, "grow", "()[Ljava/lang/Object;"⟩
abbrev cJx4a65c_size_8abf5 : ByteArray := prog_26_method_8_code
def yJx4a65c_size_8abf5 : MethodName := ⟨RJx4a65c, "size", "()I"⟩
abbrev cJx4a65c_elementData_915e3 : ByteArray := prog_26_method_18_code
def yJx4a65c_elementData_915e3 : MethodName := ⟨RJx4a65c, "elementData", "(I)Ljava/lang/Object;"⟩
abbrev cJx4a65c_get_915e3 : ByteArray := prog_26_method_20_code
def yJx4a65c_get_915e3 : MethodName := ⟨RJx4a65c, "get", "(I)Ljava/lang/Object;"⟩
abbrev cJx4a65c_add_72be8 : ByteArray := prog_26_method_24_code
def yJx4a65c_add_72be8 : MethodName := ⟨RJx4a65c, "add", "(Ljava/lang/Object;[Ljava/lang/Object;I)V"⟩
abbrev cJx4a65c_add_9ea2d : ByteArray := prog_26_method_25_code
def yJx4a65c_add_9ea2d : MethodName := ⟨RJx4a65c, "add", "(Ljava/lang/Object;)Z"⟩
def RJ7 : String := "java/util/Arrays"
def TJ7 : u_T := fun k => match k with
  | _ => ("", "", "", false)
def tyJ7 : Nat → FieldType := fun k => match k with
  | _ => .int
abbrev wsJ70 : List Cond := u_ws RJ7 TJ7 0
theorem nmJ7 : ∀ a, a < 0 → ∀ b, b < 0 → a ≠ b → (TJ7 a).2.1 ≠ (TJ7 b).2.1 := by decide +kernel
theorem tyJ7_ok : ∀ k, k < 0 → parseFieldDescriptor (TJ7 k).2.2.1 = some (tyJ7 k) := by decide +kernel
abbrev cJ7_copyOf_1904c : ByteArray := prog_27_method_119_code
def yJ7_copyOf_1904c : MethodName := ⟨RJ7, "copyOf", "([Ljava/lang/Object;I)[Ljava/lang/Object;"⟩
abbrev cJ7_copyOf_6403c : ByteArray := prog_27_method_120_code
def yJ7_copyOf_6403c : MethodName := ⟨RJ7, "copyOf", "([Ljava/lang/Object;ILjava/lang/Class;)[Ljava/lang/Object;"⟩
def RJx5ef63 : String := "java/util/Collection"
def TJx5ef63 : u_T := fun k => match k with
  | _ => ("", "", "", false)
def tyJx5ef63 : Nat → FieldType := fun k => match k with
  | _ => .int
abbrev wsJx5ef630 : List Cond := u_ws RJx5ef63 TJx5ef63 0
theorem nmJx5ef63 : ∀ a, a < 0 → ∀ b, b < 0 → a ≠ b → (TJx5ef63 a).2.1 ≠ (TJx5ef63 b).2.1 := by decide +kernel
theorem tyJx5ef63_ok : ∀ k, k < 0 → parseFieldDescriptor (TJx5ef63 k).2.2.1 = some (tyJx5ef63 k) := by decide +kernel
def RJxbd725 : String := "java/util/List"
def TJxbd725 : u_T := fun k => match k with
  | _ => ("", "", "", false)
def tyJxbd725 : Nat → FieldType := fun k => match k with
  | _ => .int
abbrev wsJxbd7250 : List Cond := u_ws RJxbd725 TJxbd725 0
theorem nmJxbd725 : ∀ a, a < 0 → ∀ b, b < 0 → a ≠ b → (TJxbd725 a).2.1 ≠ (TJxbd725 b).2.1 := by decide +kernel
theorem tyJxbd725_ok : ∀ k, k < 0 → parseFieldDescriptor (TJxbd725 k).2.2.1 = some (tyJxbd725 k) := by decide +kernel
def RJ15 : String := "java/util/Objects"
def TJ15 : u_T := fun k => match k with
  | _ => ("", "", "", false)
def tyJ15 : Nat → FieldType := fun k => match k with
  | _ => .int
abbrev wsJ150 : List Cond := u_ws RJ15 TJ15 0
theorem nmJ15 : ∀ a, a < 0 → ∀ b, b < 0 → a ≠ b → (TJ15 a).2.1 ≠ (TJ15 b).2.1 := by decide +kernel
theorem tyJ15_ok : ∀ k, k < 0 → parseFieldDescriptor (TJ15 k).2.2.1 = some (tyJ15 k) := by decide +kernel
abbrev cJ15_checkIndex_7cf53 : ByteArray := prog_30_method_17_code
def yJ15_checkIndex_7cf53 : MethodName := ⟨RJ15, "checkIndex", "(II)I"⟩
def RJxf0a74 : String := "java/util/RandomAccess"
def TJxf0a74 : u_T := fun k => match k with
  | _ => ("", "", "", false)
def tyJxf0a74 : Nat → FieldType := fun k => match k with
  | _ => .int
abbrev wsJxf0a740 : List Cond := u_ws RJxf0a74 TJxf0a74 0
theorem nmJxf0a74 : ∀ a, a < 0 → ∀ b, b < 0 → a ≠ b → (TJxf0a74 a).2.1 ≠ (TJxf0a74 b).2.1 := by decide +kernel
theorem tyJxf0a74_ok : ∀ k, k < 0 → parseFieldDescriptor (TJxf0a74 k).2.2.1 = some (tyJxf0a74 k) := by decide +kernel
def RJxa66e6 : String := "java/util/SequencedCollection"
def TJxa66e6 : u_T := fun k => match k with
  | _ => ("", "", "", false)
def tyJxa66e6 : Nat → FieldType := fun k => match k with
  | _ => .int
abbrev wsJxa66e60 : List Cond := u_ws RJxa66e6 TJxa66e6 0
theorem nmJxa66e6 : ∀ a, a < 0 → ∀ b, b < 0 → a ≠ b → (TJxa66e6 a).2.1 ≠ (TJxa66e6 b).2.1 := by decide +kernel
theorem tyJxa66e6_ok : ∀ k, k < 0 → parseFieldDescriptor (TJxa66e6 k).2.2.1 = some (tyJxa66e6 k) := by decide +kernel
def RJ8 : String := "jdk/internal/util/ArraysSupport"
def TJ8 : u_T := fun k => match k with
  | _ => ("", "", "", false)
def tyJ8 : Nat → FieldType := fun k => match k with
  | _ => .int
abbrev wsJ80 : List Cond := u_ws RJ8 TJ8 0
theorem nmJ8 : ∀ a, a < 0 → ∀ b, b < 0 → a ≠ b → (TJ8 a).2.1 ≠ (TJ8 b).2.1 := by decide +kernel
theorem tyJ8_ok : ∀ k, k < 0 → parseFieldDescriptor (TJ8 k).2.2.1 = some (tyJ8 k) := by decide +kernel
abbrev cJ8_newLength_cabcc : ByteArray := prog_33_method_27_code
def yJ8_newLength_cabcc : MethodName := ⟨RJ8, "newLength", "(III)I"⟩
abbrev cJ8_hugeLength_7cf53 : ByteArray := prog_33_method_28_code
def yJ8_hugeLength_7cf53 : MethodName := ⟨RJ8, "hugeLength", "(II)I"⟩
def RJ3 : String := "jdk/internal/util/Preconditions"
def TJ3 : u_T := fun k => match k with
  | _ => ("", "", "", false)
def tyJ3 : Nat → FieldType := fun k => match k with
  | _ => .int
abbrev wsJ30 : List Cond := u_ws RJ3 TJ3 0
theorem nmJ3 : ∀ a, a < 0 → ∀ b, b < 0 → a ≠ b → (TJ3 a).2.1 ≠ (TJ3 b).2.1 := by decide +kernel
theorem tyJ3_ok : ∀ k, k < 0 → parseFieldDescriptor (TJ3 k).2.2.1 = some (tyJ3 k) := by decide +kernel
abbrev cJ3_checkIndex_8e157 : ByteArray := prog_34_method_11_code
def yJ3_checkIndex_8e157 : MethodName := ⟨RJ3, "checkIndex", "(IILjava/util/function/BiFunction;)I"⟩
def RL : String := "WheatRunLaw"
abbrev cL_below : ByteArray := method_2_code
def yL_below : MethodName := ⟨RL, "below", "(II)I"⟩
abbrev cL_cell : ByteArray := method_3_code
def yL_cell : MethodName := ⟨RL, "cell", "([II)I"⟩
abbrev cL_law : ByteArray := code
def yL_law : MethodName := ⟨RL, "law", "([I)Z"⟩
abbrev vwCl : List vw_C := [(RJx4a65c, TJx4a65c, 3), (RX0, TX0, 12), (RX1, TX1, 6), (RX2, TX2, 13), (RX3, TX3, 9), (RX4, TX4, 7), (RX5, TX5, 10), (RX6, TX6, 3), (RX7, TX7, 12)]
