/-! ===== BEGIN printed: names, fields, word lists, decode rows ===== -/
def RX0 : String := "UnitKitchens$Film"
def TX0 : u_T := fun k => match k with
  | 0 => ("UnitKitchens$Film", "minute", "I", false)
  | 1 => ("UnitKitchens$Film", "cameToBeOwed", "I", false)
  | 2 => ("UnitKitchens$Film", "settings", "[I", true)
  | 3 => ("UnitKitchens$Film", "placeCount", "I", false)
  | 4 => ("UnitKitchens$Film", "placeX", "[I", true)
  | 5 => ("UnitKitchens$Film", "placeY", "[I", true)
  | 6 => ("UnitKitchens$Film", "kitchenCount", "I", false)
  | 7 => ("UnitKitchens$Film", "kitchens", "[LUnitKitchens$Kitchen;", true)
  | 8 => ("UnitKitchens$Film", "lorryCount", "I", false)
  | 9 => ("UnitKitchens$Film", "lorries", "[LUnitKitchens$Lorry;", true)
  | 10 => ("UnitKitchens$Film", "unitCount", "I", false)
  | _ => ("UnitKitchens$Film", "units", "[LUnitKitchens$Unit;", true)
def tyX0 : Nat → FieldType := fun k => match k with
  | 0 => .int
  | 1 => .int
  | 2 => .array .int
  | 3 => .int
  | 4 => .array .int
  | 5 => .array .int
  | 6 => .int
  | 7 => .array (.object "UnitKitchens$Kitchen")
  | 8 => .int
  | 9 => .array (.object "UnitKitchens$Lorry")
  | 10 => .int
  | _ => .array (.object "UnitKitchens$Unit")
abbrev wsX00 : List Cond := u_ws RX0 TX0 12
theorem nmX0 : ∀ a, a < 12 → ∀ b, b < 12 → a ≠ b → (TX0 a).2.1 ≠ (TX0 b).2.1 := by decide +kernel
theorem tyX0_ok : ∀ k, k < 12 → parseFieldDescriptor (TX0 k).2.2.1 = some (tyX0 k) := by decide +kernel
abbrev cX0_init : ByteArray := prog_2_method_1_code
def yX0_init : MethodName := ⟨RX0, "<init>", "()V"⟩
abbrev cX0_copyFrom : ByteArray := prog_2_method_2_code
def yX0_copyFrom : MethodName := ⟨RX0, "copyFrom", "(LUnitKitchens$Film;)V"⟩
abbrev cX0_newPlace : ByteArray := prog_2_method_3_code
def yX0_newPlace : MethodName := ⟨RX0, "newPlace", "(II)I"⟩
abbrev cX0_newKitchen : ByteArray := prog_2_method_4_code
def yX0_newKitchen : MethodName := ⟨RX0, "newKitchen", "(I)I"⟩
abbrev cX0_newLorry : ByteArray := prog_2_method_5_code
def yX0_newLorry : MethodName := ⟨RX0, "newLorry", "(I)I"⟩
abbrev cX0_newUnit : ByteArray := prog_2_method_6_code
def yX0_newUnit : MethodName := ⟨RX0, "newUnit", "(IIIII)I"⟩
abbrev cX0_passMinute : ByteArray := prog_2_method_7_code
def yX0_passMinute : MethodName := ⟨RX0, "passMinute", "()V"⟩
abbrev cX0_driveLorries : ByteArray := prog_2_method_8_code
def yX0_driveLorries : MethodName := ⟨RX0, "driveLorries", "()V"⟩
abbrev cX0_cookPots : ByteArray := prog_2_method_9_code
def yX0_cookPots : MethodName := ⟨RX0, "cookPots", "()V"⟩
abbrev cX0_throwOldMeals : ByteArray := prog_2_method_10_code
def yX0_throwOldMeals : MethodName := ⟨RX0, "throwOldMeals", "()V"⟩
abbrev cX0_callUnits : ByteArray := prog_2_method_11_code
def yX0_callUnits : MethodName := ⟨RX0, "callUnits", "()V"⟩
abbrev cX0_serveUnits : ByteArray := prog_2_method_12_code
def yX0_serveUnits : MethodName := ⟨RX0, "serveUnits", "()V"⟩
abbrev cX0_takeMeals : ByteArray := prog_2_method_13_code
def yX0_takeMeals : MethodName := ⟨RX0, "takeMeals", "(IZI)I"⟩
abbrev cX0_punish : ByteArray := prog_2_method_14_code
def yX0_punish : MethodName := ⟨RX0, "punish", "()V"⟩
abbrev cX0_isPlace : ByteArray := prog_2_method_15_code
def yX0_isPlace : MethodName := ⟨RX0, "isPlace", "(I)Z"⟩
abbrev cX0_driveMinutes : ByteArray := prog_2_method_16_code
def yX0_driveMinutes : MethodName := ⟨RX0, "driveMinutes", "(II)I"⟩
abbrev cX0_workingUnits : ByteArray := prog_2_method_24_code
def yX0_workingUnits : MethodName := ⟨RX0, "workingUnits", "()I"⟩
abbrev cX0_people : ByteArray := prog_2_method_25_code
def yX0_people : MethodName := ⟨RX0, "people", "()I"⟩
abbrev cX0_cooked : ByteArray := prog_2_method_26_code
def yX0_cooked : MethodName := ⟨RX0, "cooked", "()I"⟩
abbrev cX0_served : ByteArray := prog_2_method_27_code
def yX0_served : MethodName := ⟨RX0, "served", "()I"⟩
abbrev cX0_thrown : ByteArray := prog_2_method_28_code
def yX0_thrown : MethodName := ⟨RX0, "thrown", "()I"⟩
abbrev cX0_mealsInKitchens : ByteArray := prog_2_method_29_code
def yX0_mealsInKitchens : MethodName := ⟨RX0, "mealsInKitchens", "()I"⟩
abbrev cX0_mealsInLorries : ByteArray := prog_2_method_30_code
def yX0_mealsInLorries : MethodName := ⟨RX0, "mealsInLorries", "()I"⟩
abbrev cX0_owed : ByteArray := prog_2_method_31_code
def yX0_owed : MethodName := ⟨RX0, "owed", "()I"⟩
abbrev cX0_cancelled : ByteArray := prog_2_method_32_code
def yX0_cancelled : MethodName := ⟨RX0, "cancelled", "()I"⟩
abbrev cX0_penalties : ByteArray := prog_2_method_33_code
def yX0_penalties : MethodName := ⟨RX0, "penalties", "()I"⟩
def RX1 : String := "UnitKitchens$Kitchen"
def TX1 : u_T := fun k => match k with
  | 0 => ("UnitKitchens$Kitchen", "place", "I", false)
  | 1 => ("UnitKitchens$Kitchen", "store", "[I", true)
  | 2 => ("UnitKitchens$Kitchen", "potDish", "I", false)
  | 3 => ("UnitKitchens$Kitchen", "potMeals", "I", false)
  | 4 => ("UnitKitchens$Kitchen", "meals", "LUnitKitchens$Meals;", true)
  | 5 => ("UnitKitchens$Kitchen", "cooked", "I", false)
  | _ => ("UnitKitchens$Kitchen", "thrown", "I", false)
def tyX1 : Nat → FieldType := fun k => match k with
  | 0 => .int
  | 1 => .array .int
  | 2 => .int
  | 3 => .int
  | 4 => .object "UnitKitchens$Meals"
  | 5 => .int
  | _ => .int
abbrev wsX10 : List Cond := u_ws RX1 TX1 7
theorem nmX1 : ∀ a, a < 7 → ∀ b, b < 7 → a ≠ b → (TX1 a).2.1 ≠ (TX1 b).2.1 := by decide +kernel
theorem tyX1_ok : ∀ k, k < 7 → parseFieldDescriptor (TX1 k).2.2.1 = some (tyX1 k) := by decide +kernel
abbrev cX1_init : ByteArray := prog_3_method_1_code
def yX1_init : MethodName := ⟨RX1, "<init>", "()V"⟩
abbrev cX1_copyFrom : ByteArray := prog_3_method_2_code
def yX1_copyFrom : MethodName := ⟨RX1, "copyFrom", "(LUnitKitchens$Kitchen;)V"⟩
abbrev cX1_enoughFor : ByteArray := prog_3_method_3_code
def yX1_enoughFor : MethodName := ⟨RX1, "enoughFor", "(I)I"⟩
abbrev cX1_fillPot : ByteArray := prog_3_method_4_code
def yX1_fillPot : MethodName := ⟨RX1, "fillPot", "(II)V"⟩
abbrev cX1_cookMinute : ByteArray := prog_3_method_5_code
def yX1_cookMinute : MethodName := ⟨RX1, "cookMinute", "(II)V"⟩
abbrev cX1_property : ByteArray := prog_3_method_6_code
def yX1_property : MethodName := ⟨RX1, "property", "(II)I"⟩
def RX2 : String := "UnitKitchens$Lorry"
def TX2 : u_T := fun k => match k with
  | 0 => ("UnitKitchens$Lorry", "place", "I", false)
  | 1 => ("UnitKitchens$Lorry", "target", "I", false)
  | 2 => ("UnitKitchens$Lorry", "left", "I", false)
  | 3 => ("UnitKitchens$Lorry", "meals", "LUnitKitchens$Meals;", true)
  | 4 => ("UnitKitchens$Lorry", "served", "I", false)
  | _ => ("UnitKitchens$Lorry", "thrown", "I", false)
def tyX2 : Nat → FieldType := fun k => match k with
  | 0 => .int
  | 1 => .int
  | 2 => .int
  | 3 => .object "UnitKitchens$Meals"
  | 4 => .int
  | _ => .int
abbrev wsX20 : List Cond := u_ws RX2 TX2 6
theorem nmX2 : ∀ a, a < 6 → ∀ b, b < 6 → a ≠ b → (TX2 a).2.1 ≠ (TX2 b).2.1 := by decide +kernel
theorem tyX2_ok : ∀ k, k < 6 → parseFieldDescriptor (TX2 k).2.2.1 = some (tyX2 k) := by decide +kernel
abbrev cX2_init : ByteArray := prog_4_method_1_code
def yX2_init : MethodName := ⟨RX2, "<init>", "()V"⟩
abbrev cX2_copyFrom : ByteArray := prog_4_method_2_code
def yX2_copyFrom : MethodName := ⟨RX2, "copyFrom", "(LUnitKitchens$Lorry;)V"⟩
abbrev cX2_driveMinute : ByteArray := prog_4_method_3_code
def yX2_driveMinute : MethodName := ⟨RX2, "driveMinute", "()V"⟩
abbrev cX2_property : ByteArray := prog_4_method_4_code
def yX2_property : MethodName := ⟨RX2, "property", "(II)I"⟩
def RX3 : String := "UnitKitchens$Meals"
def TX3 : u_T := fun k => match k with
  | 0 => ("UnitKitchens$Meals", "cookedIn", "[I", true)
  | _ => ("UnitKitchens$Meals", "ofDish", "[I", true)
def tyX3 : Nat → FieldType := fun k => match k with
  | 0 => .array .int
  | _ => .array .int
abbrev wsX30 : List Cond := u_ws RX3 TX3 2
theorem nmX3 : ∀ a, a < 2 → ∀ b, b < 2 → a ≠ b → (TX3 a).2.1 ≠ (TX3 b).2.1 := by decide +kernel
theorem tyX3_ok : ∀ k, k < 2 → parseFieldDescriptor (TX3 k).2.2.1 = some (tyX3 k) := by decide +kernel
abbrev cX3_init : ByteArray := prog_5_method_1_code
def yX3_init : MethodName := ⟨RX3, "<init>", "()V"⟩
abbrev cX3_copyFrom : ByteArray := prog_5_method_2_code
def yX3_copyFrom : MethodName := ⟨RX3, "copyFrom", "(LUnitKitchens$Meals;)V"⟩
abbrev cX3_slot : ByteArray := prog_5_method_3_code
def yX3_slot : MethodName := ⟨RX3, "slot", "(II)I"⟩
abbrev cX3_inAll : ByteArray := prog_5_method_4_code
def yX3_inAll : MethodName := ⟨RX3, "inAll", "()I"⟩
abbrev cX3_ofKind : ByteArray := prog_5_method_5_code
def yX3_ofKind : MethodName := ⟨RX3, "ofKind", "(Z)I"⟩
abbrev cX3_put : ByteArray := prog_5_method_7_code
def yX3_put : MethodName := ⟨RX3, "put", "(III)V"⟩
abbrev cX3_take : ByteArray := prog_5_method_8_code
def yX3_take : MethodName := ⟨RX3, "take", "(III)I"⟩
abbrev cX3_takeFirst : ByteArray := prog_5_method_9_code
def yX3_takeFirst : MethodName := ⟨RX3, "takeFirst", "(ZII)I"⟩
abbrev cX3_carryFirst : ByteArray := prog_5_method_10_code
def yX3_carryFirst : MethodName := ⟨RX3, "carryFirst", "(IIILUnitKitchens$Meals;)V"⟩
abbrev cX3_throwOlder : ByteArray := prog_5_method_11_code
def yX3_throwOlder : MethodName := ⟨RX3, "throwOlder", "(II)I"⟩
abbrev cX3_oldest : ByteArray := prog_5_method_12_code
def yX3_oldest : MethodName := ⟨RX3, "oldest", "(I)I"⟩
def RX4 : String := "UnitKitchens$SavedFilms"
def TX4 : u_T := fun k => match k with
  | 0 => ("UnitKitchens$SavedFilms", "films", "[LUnitKitchens$Film;", true)
  | 1 => ("UnitKitchens$SavedFilms", "next", "I", false)
  | _ => ("UnitKitchens$SavedFilms", "many", "I", false)
def tyX4 : Nat → FieldType := fun k => match k with
  | 0 => .array (.object "UnitKitchens$Film")
  | 1 => .int
  | _ => .int
abbrev wsX40 : List Cond := u_ws RX4 TX4 3
theorem nmX4 : ∀ a, a < 3 → ∀ b, b < 3 → a ≠ b → (TX4 a).2.1 ≠ (TX4 b).2.1 := by decide +kernel
theorem tyX4_ok : ∀ k, k < 3 → parseFieldDescriptor (TX4 k).2.2.1 = some (tyX4 k) := by decide +kernel
abbrev cX4_init : ByteArray := prog_6_method_1_code
def yX4_init : MethodName := ⟨RX4, "<init>", "()V"⟩
abbrev cX4_keep : ByteArray := prog_6_method_2_code
def yX4_keep : MethodName := ⟨RX4, "keep", "(LUnitKitchens$Film;)V"⟩
def RX5 : String := "UnitKitchens$SheetReader"
def TX5 : u_T := fun k => match k with
  | 0 => ("UnitKitchens$SheetReader", "part", "I", false)
  | 1 => ("UnitKitchens$SheetReader", "place", "I", false)
  | _ => ("UnitKitchens$SheetReader", "numbers", "[I", true)
def tyX5 : Nat → FieldType := fun k => match k with
  | 0 => .int
  | 1 => .int
  | _ => .array .int
abbrev wsX50 : List Cond := u_ws RX5 TX5 3
theorem nmX5 : ∀ a, a < 3 → ∀ b, b < 3 → a ≠ b → (TX5 a).2.1 ≠ (TX5 b).2.1 := by decide +kernel
theorem tyX5_ok : ∀ k, k < 3 → parseFieldDescriptor (TX5 k).2.2.1 = some (tyX5 k) := by decide +kernel
abbrev cX5_init : ByteArray := prog_7_method_1_code
def yX5_init : MethodName := ⟨RX5, "<init>", "()V"⟩
def RX6 : String := "UnitKitchens$Unit"
def TX6 : u_T := fun k => match k with
  | 0 => ("UnitKitchens$Unit", "state", "I", false)
  | 1 => ("UnitKitchens$Unit", "place", "I", false)
  | 2 => ("UnitKitchens$Unit", "people", "I", false)
  | 3 => ("UnitKitchens$Unit", "greens", "I", false)
  | 4 => ("UnitKitchens$Unit", "nextCall", "I", false)
  | 5 => ("UnitKitchens$Unit", "interval", "I", false)
  | 6 => ("UnitKitchens$Unit", "owedGreens", "I", false)
  | 7 => ("UnitKitchens$Unit", "owedOthers", "I", false)
  | 8 => ("UnitKitchens$Unit", "owedSince", "I", false)
  | 9 => ("UnitKitchens$Unit", "served", "I", false)
  | 10 => ("UnitKitchens$Unit", "penalty", "I", false)
  | _ => ("UnitKitchens$Unit", "cancelled", "I", false)
def tyX6 : Nat → FieldType := fun k => match k with
  | 0 => .int
  | 1 => .int
  | 2 => .int
  | 3 => .int
  | 4 => .int
  | 5 => .int
  | 6 => .int
  | 7 => .int
  | 8 => .int
  | 9 => .int
  | 10 => .int
  | _ => .int
abbrev wsX60 : List Cond := u_ws RX6 TX6 12
theorem nmX6 : ∀ a, a < 12 → ∀ b, b < 12 → a ≠ b → (TX6 a).2.1 ≠ (TX6 b).2.1 := by decide +kernel
theorem tyX6_ok : ∀ k, k < 12 → parseFieldDescriptor (TX6 k).2.2.1 = some (tyX6 k) := by decide +kernel
abbrev cX6_init : ByteArray := prog_8_method_1_code
def yX6_init : MethodName := ⟨RX6, "<init>", "()V"⟩
abbrev cX6_copyFrom : ByteArray := prog_8_method_2_code
def yX6_copyFrom : MethodName := ⟨RX6, "copyFrom", "(LUnitKitchens$Unit;)V"⟩
abbrev cX6_owed : ByteArray := prog_8_method_3_code
def yX6_owed : MethodName := ⟨RX6, "owed", "()I"⟩
abbrev cX6_waiting : ByteArray := prog_8_method_4_code
def yX6_waiting : MethodName := ⟨RX6, "waiting", "(I)I"⟩
abbrev cX6_callToEat : ByteArray := prog_8_method_5_code
def yX6_callToEat : MethodName := ⟨RX6, "callToEat", "(I)V"⟩
abbrev cX6_serveGreens : ByteArray := prog_8_method_6_code
def yX6_serveGreens : MethodName := ⟨RX6, "serveGreens", "(I)V"⟩
abbrev cX6_serveOthers : ByteArray := prog_8_method_7_code
def yX6_serveOthers : MethodName := ⟨RX6, "serveOthers", "(I)V"⟩
abbrev cX6_noteServed : ByteArray := prog_8_method_8_code
def yX6_noteServed : MethodName := ⟨RX6, "noteServed", "(I)V"⟩
abbrev cX6_takeIn : ByteArray := prog_8_method_9_code
def yX6_takeIn : MethodName := ⟨RX6, "takeIn", "(LUnitKitchens$Unit;)V"⟩
abbrev cX6_leave : ByteArray := prog_8_method_10_code
def yX6_leave : MethodName := ⟨RX6, "leave", "(I)V"⟩
abbrev cX6_property : ByteArray := prog_8_method_12_code
def yX6_property : MethodName := ⟨RX6, "property", "(I)I"⟩
def RX7 : String := "UnitKitchens"
def TX7 : u_T := fun k => match k with
  | 0 => ("UnitKitchens", "film", "LUnitKitchens$Film;", true)
  | 1 => ("UnitKitchens", "ahead", "LUnitKitchens$Film;", true)
  | 2 => ("UnitKitchens", "saved", "LUnitKitchens$SavedFilms;", true)
  | 3 => ("UnitKitchens", "buffer", "[C", true)
  | 4 => ("UnitKitchens", "reader", "LUnitKitchens$SheetReader;", true)
  | _ => ("UnitKitchens", "length", "I", false)
def tyX7 : Nat → FieldType := fun k => match k with
  | 0 => .object "UnitKitchens$Film"
  | 1 => .object "UnitKitchens$Film"
  | 2 => .object "UnitKitchens$SavedFilms"
  | 3 => .array .char
  | 4 => .object "UnitKitchens$SheetReader"
  | _ => .int
abbrev wsX70 : List Cond := u_ws RX7 TX7 6
theorem nmX7 : ∀ a, a < 6 → ∀ b, b < 6 → a ≠ b → (TX7 a).2.1 ≠ (TX7 b).2.1 := by decide +kernel
theorem tyX7_ok : ∀ k, k < 6 → parseFieldDescriptor (TX7 k).2.2.1 = some (tyX7 k) := by decide +kernel
abbrev cX7_init : ByteArray := prog_1_method_1_code
def yX7_init : MethodName := ⟨RX7, "<init>", "()V"⟩
abbrev cX7_addPlace : ByteArray := prog_1_method_2_code
def yX7_addPlace : MethodName := ⟨RX7, "addPlace", "(II)I"⟩
abbrev cX7_addKitchen : ByteArray := prog_1_method_3_code
def yX7_addKitchen : MethodName := ⟨RX7, "addKitchen", "(I)I"⟩
abbrev cX7_addLorry : ByteArray := prog_1_method_4_code
def yX7_addLorry : MethodName := ⟨RX7, "addLorry", "(I)I"⟩
abbrev cX7_stock : ByteArray := prog_1_method_6_code
def yX7_stock : MethodName := ⟨RX7, "stock", "(III)I"⟩
abbrev cX7_cook : ByteArray := prog_1_method_7_code
def yX7_cook : MethodName := ⟨RX7, "cook", "(III)I"⟩
abbrev cX7_load : ByteArray := prog_1_method_8_code
def yX7_load : MethodName := ⟨RX7, "load", "(IIII)I"⟩
abbrev cX7_unload : ByteArray := prog_1_method_9_code
def yX7_unload : MethodName := ⟨RX7, "unload", "(II)I"⟩
abbrev cX7_drive : ByteArray := prog_1_method_10_code
def yX7_drive : MethodName := ⟨RX7, "drive", "(II)I"⟩
abbrev cX7_addUnit : ByteArray := prog_1_method_11_code
def yX7_addUnit : MethodName := ⟨RX7, "addUnit", "(IIIII)I"⟩
abbrev cX7_split : ByteArray := prog_1_method_12_code
def yX7_split : MethodName := ⟨RX7, "split", "(III)I"⟩
abbrev cX7_join : ByteArray := prog_1_method_13_code
def yX7_join : MethodName := ⟨RX7, "join", "(II)I"⟩
abbrev cX7_move : ByteArray := prog_1_method_14_code
def yX7_move : MethodName := ⟨RX7, "move", "(II)I"⟩
abbrev cX7_wrap : ByteArray := prog_1_method_15_code
def yX7_wrap : MethodName := ⟨RX7, "wrap", "(I)I"⟩
abbrev cX7_pass : ByteArray := prog_1_method_16_code
def yX7_pass : MethodName := ⟨RX7, "pass", "(I)I"⟩
abbrev cX7_unit : ByteArray := prog_1_method_23_code
def yX7_unit : MethodName := ⟨RX7, "unit", "(II)I"⟩
abbrev cX7_kitchen : ByteArray := prog_1_method_24_code
def yX7_kitchen : MethodName := ⟨RX7, "kitchen", "(II)I"⟩
abbrev cX7_lorry : ByteArray := prog_1_method_25_code
def yX7_lorry : MethodName := ⟨RX7, "lorry", "(II)I"⟩
abbrev cX7_count : ByteArray := prog_1_method_26_code
def yX7_count : MethodName := ⟨RX7, "count", "(I)I"⟩
abbrev cX7_canCook : ByteArray := prog_1_method_30_code
def yX7_canCook : MethodName := ⟨RX7, "canCook", "(II)I"⟩
abbrev cX7_requireIndex : ByteArray := prog_1_method_35_code
def yX7_requireIndex : MethodName := ⟨RX7, "requireIndex", "(II)V"⟩
abbrev cX7_requireRange : ByteArray := prog_1_method_36_code
def yX7_requireRange : MethodName := ⟨RX7, "requireRange", "(III)V"⟩
abbrev cX7_requireState : ByteArray := prog_1_method_37_code
def yX7_requireState : MethodName := ⟨RX7, "requireState", "(Z)V"⟩
abbrev cX7_dividedUp : ByteArray := prog_1_method_38_code
def yX7_dividedUp : MethodName := ⟨RX7, "dividedUp", "(II)I"⟩
def RX8 : String := "UnitKitchensModel"
def TX8 : u_T := fun k => match k with
  | _ => ("", "", "", false)
def tyX8 : Nat → FieldType := fun k => match k with
  | _ => .int
abbrev wsX80 : List Cond := u_ws RX8 TX8 0
theorem nmX8 : ∀ a, a < 0 → ∀ b, b < 0 → a ≠ b → (TX8 a).2.1 ≠ (TX8 b).2.1 := by decide +kernel
theorem tyX8_ok : ∀ k, k < 0 → parseFieldDescriptor (TX8 k).2.2.1 = some (tyX8 k) := by decide +kernel
def RJx8e188 : String := "java/lang/Cloneable"
def TJx8e188 : u_T := fun k => match k with
  | _ => ("", "", "", false)
def tyJx8e188 : Nat → FieldType := fun k => match k with
  | _ => .int
abbrev wsJx8e1880 : List Cond := u_ws RJx8e188 TJx8e188 0
theorem nmJx8e188 : ∀ a, a < 0 → ∀ b, b < 0 → a ≠ b → (TJx8e188 a).2.1 ≠ (TJx8e188 b).2.1 := by decide +kernel
theorem tyJx8e188_ok : ∀ k, k < 0 → parseFieldDescriptor (TJx8e188 k).2.2.1 = some (tyJx8e188 k) := by decide +kernel
def RJ9 : String := "java/lang/Math"
def TJ9 : u_T := fun k => match k with
  | _ => ("", "", "", false)
def tyJ9 : Nat → FieldType := fun k => match k with
  | _ => .int
abbrev wsJ90 : List Cond := u_ws RJ9 TJ9 0
theorem nmJ9 : ∀ a, a < 0 → ∀ b, b < 0 → a ≠ b → (TJ9 a).2.1 ≠ (TJ9 b).2.1 := by decide +kernel
theorem tyJ9_ok : ∀ k, k < 0 → parseFieldDescriptor (TJ9 k).2.2.1 = some (tyJ9 k) := by decide +kernel
abbrev cJ9_abs_0f7a4 : ByteArray := prog_16_method_59_code
def yJ9_abs_0f7a4 : MethodName := ⟨RJ9, "abs", "(I)I"⟩
abbrev cJ9_max_7cf53 : ByteArray := prog_16_method_65_code
def yJ9_max_7cf53 : MethodName := ⟨RJ9, "max", "(II)I"⟩
abbrev cJ9_min_7cf53 : ByteArray := prog_16_method_69_code
def yJ9_min_7cf53 : MethodName := ⟨RJ9, "min", "(II)I"⟩
def RJ0 : String := "java/lang/String"
def TJ0 : u_T := fun k => match k with
  | _ => ("", "", "", false)
def tyJ0 : Nat → FieldType := fun k => match k with
  | _ => .int
abbrev wsJ00 : List Cond := u_ws RJ0 TJ0 0
theorem nmJ0 : ∀ a, a < 0 → ∀ b, b < 0 → a ≠ b → (TJ0 a).2.1 ≠ (TJ0 b).2.1 := by decide +kernel
theorem tyJ0_ok : ∀ k, k < 0 → parseFieldDescriptor (TJ0 k).2.2.1 = some (tyJ0 k) := by decide +kernel
def RJ10 : String := "java/lang/System"
def TJ10 : u_T := fun k => match k with
  | _ => ("", "", "", false)
def tyJ10 : Nat → FieldType := fun k => match k with
  | _ => .int
abbrev wsJ100 : List Cond := u_ws RJ10 TJ10 0
theorem nmJ10 : ∀ a, a < 0 → ∀ b, b < 0 → a ≠ b → (TJ10 a).2.1 ≠ (TJ10 b).2.1 := by decide +kernel
theorem tyJ10_ok : ∀ k, k < 0 → parseFieldDescriptor (TJ10 k).2.2.1 = some (tyJ10 k) := by decide +kernel
def RL : String := "UnitKitchensLaw"
abbrev cL_cell : ByteArray := method_2_code
def yL_cell : MethodName := ⟨RL, "cell", "([II)I"⟩
abbrev cL_at : ByteArray := method_3_code
def yL_at : MethodName := ⟨RL, "at", "(II)I"⟩
abbrev cL_drive : ByteArray := method_4_code
def yL_drive : MethodName := ⟨RL, "drive", "([I[III)I"⟩
abbrev cL_key : ByteArray := method_5_code
def yL_key : MethodName := ⟨RL, "key", "(III)I"⟩
abbrev cL_put : ByteArray := method_6_code
def yL_put : MethodName := ⟨RL, "put", "([I[III)V"⟩
abbrev cL_first : ByteArray := method_7_code
def yL_first : MethodName := ⟨RL, "first", "([I[III)I"⟩
abbrev cL_less : ByteArray := method_8_code
def yL_less : MethodName := ⟨RL, "less", "([I[III)V"⟩
abbrev cL_meals : ByteArray := method_9_code
def yL_meals : MethodName := ⟨RL, "meals", "([I[III)I"⟩
abbrev cL_all : ByteArray := method_10_code
def yL_all : MethodName := ⟨RL, "all", "([I[II)I"⟩
abbrev cL_serve : ByteArray := method_11_code
def yL_serve : MethodName := ⟨RL, "serve", "([I[I[I[I[I[IIII)V"⟩
abbrev cL_minute : ByteArray := method_12_code
def yL_minute : MethodName := ⟨RL, "minute", "([I[I[I[I[I[I[I[I)V"⟩
abbrev cL_kitchens : ByteArray := method_13_code
def yL_kitchens : MethodName := ⟨RL, "kitchens", "(LUnitKitchens;II[I[I[I[I[I)Z"⟩
abbrev cL_lorries : ByteArray := method_14_code
def yL_lorries : MethodName := ⟨RL, "lorries", "(LUnitKitchens;II[I[I[I[I[I[I)Z"⟩
abbrev cL_units : ByteArray := method_15_code
def yL_units : MethodName := ⟨RL, "units", "(LUnitKitchens;II[I[I)Z"⟩
abbrev cL_agree : ByteArray := method_16_code
def yL_agree : MethodName := ⟨RL, "agree", "(LUnitKitchens;[I[I[I[I[I[I[I[I[I[I)Z"⟩
abbrev cL_law : ByteArray := code
def yL_law : MethodName := ⟨RL, "law", "([I)Z"⟩
abbrev vwCl : List vw_C := [(RX0, TX0, 12), (RX1, TX1, 7), (RX2, TX2, 6), (RX3, TX3, 2), (RX4, TX4, 3), (RX5, TX5, 3), (RX6, TX6, 12), (RX7, TX7, 6)]
