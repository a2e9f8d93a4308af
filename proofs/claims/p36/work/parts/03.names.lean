def RX0 : String := "MealLoader$Cabin"
def TX0 : u_T := fun k => match k with
  | 0 => ("MealLoader$Cabin", "name", "Ljava/lang/String;", false)
  | 1 => ("MealLoader$Cabin", "seats", "I", false)
  | _ => ("MealLoader$Cabin", "spare", "I", false)
def tyX0 : Nat → FieldType := fun k => match k with
  | 0 => .object "java/lang/String"
  | 1 => .int
  | _ => .int
theorem nmX0 : ∀ a, a < 3 → ∀ b, b < 3 → a ≠ b → (TX0 a).2.1 ≠ (TX0 b).2.1 := by decide +kernel
theorem tyX0_ok : ∀ k, k < 3 → parseFieldDescriptor (TX0 k).2.2.1 = some (tyX0 k) := by decide +kernel
abbrev cX0_init : ByteArray := prog_2_method_1_code
def yX0_init : MethodName := ⟨RX0, "<init>", "()V"⟩
def RX1 : String := "MealLoader$Flight"
def TX1 : u_T := fun k => match k with
  | 0 => ("MealLoader$Flight", "plan", "LMealLoader$Plan;", false)
  | 1 => ("MealLoader$Flight", "served", "Z", false)
  | 2 => ("MealLoader$Flight", "minutesLeft", "I", false)
  | 3 => ("MealLoader$Flight", "passengers", "I", false)
  | 4 => ("MealLoader$Flight", "cabinOf", "[I", true)
  | 5 => ("MealLoader$Flight", "needs", "[I", true)
  | 6 => ("MealLoader$Flight", "wish", "[I", true)
  | 7 => ("MealLoader$Flight", "units", "[[I", true)
  | 8 => ("MealLoader$Flight", "topUps", "I", false)
  | 9 => ("MealLoader$Flight", "topUpMeal", "[I", true)
  | 10 => ("MealLoader$Flight", "topUpUnits", "[I", true)
  | 11 => ("MealLoader$Flight", "topUpDue", "[I", true)
  | _ => ("MealLoader$Flight", "accounts", "[J", true)
def tyX1 : Nat → FieldType := fun k => match k with
  | 0 => .object "MealLoader$Plan"
  | 1 => .boolean
  | 2 => .int
  | 3 => .int
  | 4 => .array .int
  | 5 => .array .int
  | 6 => .array .int
  | 7 => .array (.array .int)
  | 8 => .int
  | 9 => .array .int
  | 10 => .array .int
  | 11 => .array .int
  | _ => .array .long
theorem nmX1 : ∀ a, a < 13 → ∀ b, b < 13 → a ≠ b → (TX1 a).2.1 ≠ (TX1 b).2.1 := by decide +kernel
theorem tyX1_ok : ∀ k, k < 13 → parseFieldDescriptor (TX1 k).2.2.1 = some (tyX1 k) := by decide +kernel
abbrev cX1_init : ByteArray := prog_3_method_1_code
def yX1_init : MethodName := ⟨RX1, "<init>", "(LMealLoader$Plan;)V"⟩
abbrev cX1_clear : ByteArray := prog_3_method_2_code
def yX1_clear : MethodName := ⟨RX1, "clear", "(LMealLoader$Plan;)V"⟩
abbrev cX1_copy : ByteArray := prog_3_method_3_code
def yX1_copy : MethodName := ⟨RX1, "copy", "(LMealLoader$Flight;)V"⟩
abbrev cX1_copyAccounts : ByteArray := prog_3_method_4_code
def yX1_copyAccounts : MethodName := ⟨RX1, "copyAccounts", "(LMealLoader$Flight;)V"⟩
abbrev cX1_phase : ByteArray := prog_3_method_5_code
def yX1_phase : MethodName := ⟨RX1, "phase", "()I"⟩
abbrev cX1_passengersIn : ByteArray := prog_3_method_6_code
def yX1_passengersIn : MethodName := ⟨RX1, "passengersIn", "(I)I"⟩
abbrev cX1_specialsIn : ByteArray := prog_3_method_7_code
def yX1_specialsIn : MethodName := ⟨RX1, "specialsIn", "(I)I"⟩
abbrev cX1_freeSeats : ByteArray := prog_3_method_8_code
def yX1_freeSeats : MethodName := ⟨RX1, "freeSeats", "(I)I"⟩
abbrev cX1_seat : ByteArray := prog_3_method_9_code
def yX1_seat : MethodName := ⟨RX1, "seat", "(III)V"⟩
abbrev cX1_removePassenger : ByteArray := prog_3_method_10_code
def yX1_removePassenger : MethodName := ⟨RX1, "removePassenger", "(I)V"⟩
abbrev cX1_suiting : ByteArray := prog_3_method_11_code
def yX1_suiting : MethodName := ⟨RX1, "suiting", "(I)I"⟩
abbrev cX1_cheapestFor : ByteArray := prog_3_method_12_code
def yX1_cheapestFor : MethodName := ⟨RX1, "cheapestFor", "(I)I"⟩
abbrev cX1_freeSlots : ByteArray := prog_3_method_13_code
def yX1_freeSlots : MethodName := ⟨RX1, "freeSlots", "(I)I"⟩
abbrev cX1_freeSlotsIn : ByteArray := prog_3_method_14_code
def yX1_freeSlotsIn : MethodName := ⟨RX1, "freeSlotsIn", "(I)I"⟩
abbrev cX1_unitsIn : ByteArray := prog_3_method_15_code
def yX1_unitsIn : MethodName := ⟨RX1, "unitsIn", "(I)I"⟩
abbrev cX1_loadedOf : ByteArray := prog_3_method_16_code
def yX1_loadedOf : MethodName := ⟨RX1, "loadedOf", "(I)I"⟩
abbrev cX1_allLoaded : ByteArray := prog_3_method_17_code
def yX1_allLoaded : MethodName := ⟨RX1, "allLoaded", "()I"⟩
abbrev cX1_onTheWay : ByteArray := prog_3_method_18_code
def yX1_onTheWay : MethodName := ⟨RX1, "onTheWay", "(I)I"⟩
abbrev cX1_missing : ByteArray := prog_3_method_19_code
def yX1_missing : MethodName := ⟨RX1, "missing", "(II)I"⟩
abbrev cX1_put : ByteArray := prog_3_method_20_code
def yX1_put : MethodName := ⟨RX1, "put", "(II)I"⟩
abbrev cX1_takeOut : ByteArray := prog_3_method_21_code
def yX1_takeOut : MethodName := ⟨RX1, "takeOut", "(II)V"⟩
abbrev cX1_askFor : ByteArray := prog_3_method_22_code
def yX1_askFor : MethodName := ⟨RX1, "askFor", "(II)V"⟩
abbrev cX1_letArrive : ByteArray := prog_3_method_23_code
def yX1_letArrive : MethodName := ⟨RX1, "letArrive", "()I"⟩
def RX2 : String := "MealLoader$FlightText"
def TX2 : u_T := fun k => match k with
  | 0 => ("MealLoader$FlightText", "tokens", "LMealLoader$Tokens;", true)
  | 1 => ("MealLoader$FlightText", "flight", "LMealLoader$Flight;", false)
  | 2 => ("MealLoader$FlightText", "plan", "LMealLoader$Plan;", false)
  | 3 => ("MealLoader$FlightText", "error", "I", false)
  | _ => ("MealLoader$FlightText", "errorAt", "I", false)
def tyX2 : Nat → FieldType := fun k => match k with
  | 0 => .object "MealLoader$Tokens"
  | 1 => .object "MealLoader$Flight"
  | 2 => .object "MealLoader$Plan"
  | 3 => .int
  | _ => .int
theorem nmX2 : ∀ a, a < 5 → ∀ b, b < 5 → a ≠ b → (TX2 a).2.1 ≠ (TX2 b).2.1 := by decide +kernel
theorem tyX2_ok : ∀ k, k < 5 → parseFieldDescriptor (TX2 k).2.2.1 = some (tyX2 k) := by decide +kernel
abbrev cX2_init : ByteArray := prog_4_method_1_code
def yX2_init : MethodName := ⟨RX2, "<init>", "()V"⟩
abbrev cX2_read : ByteArray := prog_4_method_2_code
def yX2_read : MethodName := ⟨RX2, "read", "([BILMealLoader$Flight;LMealLoader$Plan;)Z"⟩
abbrev cX2_readStatement : ByteArray := prog_4_method_3_code
def yX2_readStatement : MethodName := ⟨RX2, "readStatement", "()Z"⟩
abbrev cX2_readTime : ByteArray := prog_4_method_4_code
def yX2_readTime : MethodName := ⟨RX2, "readTime", "()Z"⟩
abbrev cX2_readLead : ByteArray := prog_4_method_5_code
def yX2_readLead : MethodName := ⟨RX2, "readLead", "()Z"⟩
abbrev cX2_readCabin : ByteArray := prog_4_method_6_code
def yX2_readCabin : MethodName := ⟨RX2, "readCabin", "()Z"⟩
abbrev cX2_readMeal : ByteArray := prog_4_method_7_code
def yX2_readMeal : MethodName := ⟨RX2, "readMeal", "()Z"⟩
abbrev cX2_readPlace : ByteArray := prog_4_method_8_code
def yX2_readPlace : MethodName := ⟨RX2, "readPlace", "(LMealLoader$Meal;)Z"⟩
abbrev cX2_readTrolley : ByteArray := prog_4_method_9_code
def yX2_readTrolley : MethodName := ⟨RX2, "readTrolley", "()Z"⟩
abbrev cX2_readGuests : ByteArray := prog_4_method_10_code
def yX2_readGuests : MethodName := ⟨RX2, "readGuests", "()Z"⟩
abbrev cX2_readGuest : ByteArray := prog_4_method_11_code
def yX2_readGuest : MethodName := ⟨RX2, "readGuest", "()Z"⟩
abbrev cX2_nextNumber : ByteArray := prog_4_method_12_code
def yX2_nextNumber : MethodName := ⟨RX2, "nextNumber", "(II)I"⟩
abbrev cX2_numberHere : ByteArray := prog_4_method_13_code
def yX2_numberHere : MethodName := ⟨RX2, "numberHere", "(II)I"⟩
abbrev cX2_nextCabin : ByteArray := prog_4_method_14_code
def yX2_nextCabin : MethodName := ⟨RX2, "nextCabin", "()I"⟩
abbrev cX2_nextWish : ByteArray := prog_4_method_15_code
def yX2_nextWish : MethodName := ⟨RX2, "nextWish", "(I)I"⟩
abbrev cX2_nextDiets : ByteArray := prog_4_method_16_code
def yX2_nextDiets : MethodName := ⟨RX2, "nextDiets", "()I"⟩
abbrev cX2_nameHere : ByteArray := prog_4_method_17_code
def yX2_nameHere : MethodName := ⟨RX2, "nameHere", "()Z"⟩
abbrev cX2_cabinHere : ByteArray := prog_4_method_18_code
def yX2_cabinHere : MethodName := ⟨RX2, "cabinHere", "()I"⟩
abbrev cX2_mealHere : ByteArray := prog_4_method_19_code
def yX2_mealHere : MethodName := ⟨RX2, "mealHere", "()I"⟩
abbrev cX2_signHere : ByteArray := prog_4_method_20_code
def yX2_signHere : MethodName := ⟨RX2, "signHere", "()Z"⟩
abbrev cX2_fail : ByteArray := prog_4_method_21_code
def yX2_fail : MethodName := ⟨RX2, "fail", "(I)Z"⟩
def RX3 : String := "MealLoader$History"
def TX3 : u_T := fun k => match k with
  | 0 => ("MealLoader$History", "past", "[LMealLoader$Flight;", true)
  | 1 => ("MealLoader$History", "next", "I", false)
  | _ => ("MealLoader$History", "size", "I", false)
def tyX3 : Nat → FieldType := fun k => match k with
  | 0 => .array (.object "MealLoader$Flight")
  | 1 => .int
  | _ => .int
theorem nmX3 : ∀ a, a < 3 → ∀ b, b < 3 → a ≠ b → (TX3 a).2.1 ≠ (TX3 b).2.1 := by decide +kernel
theorem tyX3_ok : ∀ k, k < 3 → parseFieldDescriptor (TX3 k).2.2.1 = some (tyX3 k) := by decide +kernel
abbrev cX3_init : ByteArray := prog_5_method_1_code
def yX3_init : MethodName := ⟨RX3, "<init>", "(LMealLoader$Plan;)V"⟩
abbrev cX3_add : ByteArray := prog_5_method_2_code
def yX3_add : MethodName := ⟨RX3, "add", "(LMealLoader$Flight;)V"⟩
abbrev cX3_takeBack : ByteArray := prog_5_method_3_code
def yX3_takeBack : MethodName := ⟨RX3, "takeBack", "(LMealLoader$Flight;)V"⟩
def RX4 : String := "MealLoader$Matching"
def TX4 : u_T := fun k => match k with
  | 0 => ("MealLoader$Matching", "people", "I", false)
  | 1 => ("MealLoader$Matching", "meals", "I", false)
  | 2 => ("MealLoader$Matching", "suits", "[I", true)
  | 3 => ("MealLoader$Matching", "got", "[I", true)
  | 4 => ("MealLoader$Matching", "free", "[I", true)
  | 5 => ("MealLoader$Matching", "movable", "[I", true)
  | 6 => ("MealLoader$Matching", "origin", "[I", true)
  | 7 => ("MealLoader$Matching", "queue", "[I", true)
  | 8 => ("MealLoader$Matching", "queued", "I", false)
  | _ => ("MealLoader$Matching", "seen", "I", false)
def tyX4 : Nat → FieldType := fun k => match k with
  | 0 => .int
  | 1 => .int
  | 2 => .array .int
  | 3 => .array .int
  | 4 => .array .int
  | 5 => .array .int
  | 6 => .array .int
  | 7 => .array .int
  | 8 => .int
  | _ => .int
theorem nmX4 : ∀ a, a < 10 → ∀ b, b < 10 → a ≠ b → (TX4 a).2.1 ≠ (TX4 b).2.1 := by decide +kernel
theorem tyX4_ok : ∀ k, k < 10 → parseFieldDescriptor (TX4 k).2.2.1 = some (tyX4 k) := by decide +kernel
abbrev cX4_init : ByteArray := prog_6_method_1_code
def yX4_init : MethodName := ⟨RX4, "<init>", "()V"⟩
abbrev cX4_begin : ByteArray := prog_6_method_2_code
def yX4_begin : MethodName := ⟨RX4, "begin", "(LMealLoader$Flight;)V"⟩
abbrev cX4_match : ByteArray := prog_6_method_3_code
def yX4_match : MethodName := ⟨RX4, "match", "(LMealLoader$Flight;)V"⟩
abbrev cX4_canHave : ByteArray := prog_6_method_4_code
def yX4_canHave : MethodName := ⟨RX4, "canHave", "(II)Z"⟩
abbrev cX4_giveBack : ByteArray := prog_6_method_5_code
def yX4_giveBack : MethodName := ⟨RX4, "giveBack", "(I)V"⟩
abbrev cX4_matchOneMore : ByteArray := prog_6_method_6_code
def yX4_matchOneMore : MethodName := ⟨RX4, "matchOneMore", "(I)Z"⟩
abbrev cX4_reach : ByteArray := prog_6_method_7_code
def yX4_reach : MethodName := ⟨RX4, "reach", "(II)V"⟩
abbrev cX4_moveAlong : ByteArray := prog_6_method_8_code
def yX4_moveAlong : MethodName := ⟨RX4, "moveAlong", "(II)V"⟩
abbrev cX4_findMover : ByteArray := prog_6_method_9_code
def yX4_findMover : MethodName := ⟨RX4, "findMover", "(III)I"⟩
def RX5 : String := "MealLoader$Meal"
def TX5 : u_T := fun k => match k with
  | 0 => ("MealLoader$Meal", "name", "Ljava/lang/String;", false)
  | 1 => ("MealLoader$Meal", "cabin", "I", false)
  | 2 => ("MealLoader$Meal", "share", "I", false)
  | 3 => ("MealLoader$Meal", "size", "I", false)
  | 4 => ("MealLoader$Meal", "cost", "I", false)
  | _ => ("MealLoader$Meal", "offers", "I", false)
def tyX5 : Nat → FieldType := fun k => match k with
  | 0 => .object "java/lang/String"
  | 1 => .int
  | 2 => .int
  | 3 => .int
  | 4 => .int
  | _ => .int
theorem nmX5 : ∀ a, a < 6 → ∀ b, b < 6 → a ≠ b → (TX5 a).2.1 ≠ (TX5 b).2.1 := by decide +kernel
theorem tyX5_ok : ∀ k, k < 6 → parseFieldDescriptor (TX5 k).2.2.1 = some (tyX5 k) := by decide +kernel
abbrev cX5_init : ByteArray := prog_7_method_1_code
def yX5_init : MethodName := ⟨RX5, "<init>", "()V"⟩
def RX6 : String := "MealLoader$Order"
def TX6 : u_T := fun k => match k with
  | 0 => ("MealLoader$Order", "units", "[I", true)
  | _ => ("MealLoader$Order", "remainder", "[I", true)
def tyX6 : Nat → FieldType := fun k => match k with
  | 0 => .array .int
  | _ => .array .int
theorem nmX6 : ∀ a, a < 2 → ∀ b, b < 2 → a ≠ b → (TX6 a).2.1 ≠ (TX6 b).2.1 := by decide +kernel
theorem tyX6_ok : ∀ k, k < 2 → parseFieldDescriptor (TX6 k).2.2.1 = some (tyX6 k) := by decide +kernel
abbrev cX6_init : ByteArray := prog_8_method_1_code
def yX6_init : MethodName := ⟨RX6, "<init>", "()V"⟩
abbrev cX6_reckon : ByteArray := prog_8_method_2_code
def yX6_reckon : MethodName := ⟨RX6, "reckon", "(LMealLoader$Flight;)V"⟩
abbrev cX6_divide : ByteArray := prog_8_method_3_code
def yX6_divide : MethodName := ⟨RX6, "divide", "(LMealLoader$Plan;II)V"⟩
abbrev cX6_greatestRemainder : ByteArray := prog_8_method_4_code
def yX6_greatestRemainder : MethodName := ⟨RX6, "greatestRemainder", "(I)I"⟩
abbrev cX6_allUnits : ByteArray := prog_8_method_5_code
def yX6_allUnits : MethodName := ⟨RX6, "allUnits", "()I"⟩
abbrev cX6_slotsOfMenu : ByteArray := prog_8_method_6_code
def yX6_slotsOfMenu : MethodName := ⟨RX6, "slotsOfMenu", "(LMealLoader$Plan;I)I"⟩
def RX7 : String := "MealLoader$Plan"
def TX7 : u_T := fun k => match k with
  | 0 => ("MealLoader$Plan", "told", "Z", false)
  | 1 => ("MealLoader$Plan", "cabins", "I", false)
  | 2 => ("MealLoader$Plan", "cabin", "[LMealLoader$Cabin;", true)
  | 3 => ("MealLoader$Plan", "meals", "I", false)
  | 4 => ("MealLoader$Plan", "meal", "[LMealLoader$Meal;", true)
  | 5 => ("MealLoader$Plan", "trolleys", "I", false)
  | 6 => ("MealLoader$Plan", "trolleyCabin", "[I", true)
  | 7 => ("MealLoader$Plan", "trolleySlots", "[I", true)
  | 8 => ("MealLoader$Plan", "minutes", "I", false)
  | 9 => ("MealLoader$Plan", "closing", "I", false)
  | _ => ("MealLoader$Plan", "lead", "I", false)
def tyX7 : Nat → FieldType := fun k => match k with
  | 0 => .boolean
  | 1 => .int
  | 2 => .array (.object "MealLoader$Cabin")
  | 3 => .int
  | 4 => .array (.object "MealLoader$Meal")
  | 5 => .int
  | 6 => .array .int
  | 7 => .array .int
  | 8 => .int
  | 9 => .int
  | _ => .int
theorem nmX7 : ∀ a, a < 11 → ∀ b, b < 11 → a ≠ b → (TX7 a).2.1 ≠ (TX7 b).2.1 := by decide +kernel
theorem tyX7_ok : ∀ k, k < 11 → parseFieldDescriptor (TX7 k).2.2.1 = some (tyX7 k) := by decide +kernel
abbrev cX7_init : ByteArray := prog_9_method_1_code
def yX7_init : MethodName := ⟨RX7, "<init>", "()V"⟩
abbrev cX7_clear : ByteArray := prog_9_method_2_code
def yX7_clear : MethodName := ⟨RX7, "clear", "()V"⟩
abbrev cX7_menuOf : ByteArray := prog_9_method_3_code
def yX7_menuOf : MethodName := ⟨RX7, "menuOf", "(I)I"⟩
abbrev cX7_trolleysOf : ByteArray := prog_9_method_4_code
def yX7_trolleysOf : MethodName := ⟨RX7, "trolleysOf", "(I)I"⟩
abbrev cX7_admits : ByteArray := prog_9_method_5_code
def yX7_admits : MethodName := ⟨RX7, "admits", "(II)Z"⟩
abbrev cX7_suiting : ByteArray := prog_9_method_6_code
def yX7_suiting : MethodName := ⟨RX7, "suiting", "(II)I"⟩
abbrev cX7_cheapestOf : ByteArray := prog_9_method_7_code
def yX7_cheapestOf : MethodName := ⟨RX7, "cheapestOf", "(I)I"⟩
def RX8 : String := "MealLoader$Service"
def TX8 : u_T := fun k => match k with
  | 0 => ("MealLoader$Service", "got", "[I", true)
  | 1 => ("MealLoader$Service", "rest", "[I", true)
  | 2 => ("MealLoader$Service", "eaten", "[I", true)
  | 3 => ("MealLoader$Service", "specialsFed", "I", false)
  | 4 => ("MealLoader$Service", "fed", "I", false)
  | 5 => ("MealLoader$Service", "wasted", "I", false)
  | 6 => ("MealLoader$Service", "wastedCost", "I", false)
  | _ => ("MealLoader$Service", "wishesMet", "I", false)
def tyX8 : Nat → FieldType := fun k => match k with
  | 0 => .array .int
  | 1 => .array .int
  | 2 => .array .int
  | 3 => .int
  | 4 => .int
  | 5 => .int
  | 6 => .int
  | _ => .int
theorem nmX8 : ∀ a, a < 8 → ∀ b, b < 8 → a ≠ b → (TX8 a).2.1 ≠ (TX8 b).2.1 := by decide +kernel
theorem tyX8_ok : ∀ k, k < 8 → parseFieldDescriptor (TX8 k).2.2.1 = some (tyX8 k) := by decide +kernel
abbrev cX8_init : ByteArray := prog_10_method_1_code
def yX8_init : MethodName := ⟨RX8, "<init>", "()V"⟩
abbrev cX8_reckon : ByteArray := prog_10_method_2_code
def yX8_reckon : MethodName := ⟨RX8, "reckon", "(LMealLoader$Flight;[I)V"⟩
abbrev cX8_servePlain : ByteArray := prog_10_method_3_code
def yX8_servePlain : MethodName := ⟨RX8, "servePlain", "(LMealLoader$Flight;)V"⟩
abbrev cX8_mostLeft : ByteArray := prog_10_method_4_code
def yX8_mostLeft : MethodName := ⟨RX8, "mostLeft", "(LMealLoader$Plan;I)I"⟩
abbrev cX8_give : ByteArray := prog_10_method_5_code
def yX8_give : MethodName := ⟨RX8, "give", "(II)V"⟩
abbrev cX8_addUpWaste : ByteArray := prog_10_method_6_code
def yX8_addUpWaste : MethodName := ⟨RX8, "addUpWaste", "(LMealLoader$Plan;)V"⟩
def RX9 : String := "MealLoader$Tokens"
def TX9 : u_T := fun k => match k with
  | 0 => ("MealLoader$Tokens", "text", "[B", false)
  | 1 => ("MealLoader$Tokens", "length", "I", false)
  | 2 => ("MealLoader$Tokens", "start", "I", false)
  | 3 => ("MealLoader$Tokens", "behind", "I", false)
  | 4 => ("MealLoader$Tokens", "kind", "I", false)
  | _ => ("MealLoader$Tokens", "number", "I", false)
def tyX9 : Nat → FieldType := fun k => match k with
  | 0 => .array .byte
  | 1 => .int
  | 2 => .int
  | 3 => .int
  | 4 => .int
  | _ => .int
theorem nmX9 : ∀ a, a < 6 → ∀ b, b < 6 → a ≠ b → (TX9 a).2.1 ≠ (TX9 b).2.1 := by decide +kernel
theorem tyX9_ok : ∀ k, k < 6 → parseFieldDescriptor (TX9 k).2.2.1 = some (tyX9 k) := by decide +kernel
abbrev cX9_init : ByteArray := prog_11_method_1_code
def yX9_init : MethodName := ⟨RX9, "<init>", "()V"⟩
abbrev cX9_begin : ByteArray := prog_11_method_2_code
def yX9_begin : MethodName := ⟨RX9, "begin", "([BI)V"⟩
abbrev cX9_next : ByteArray := prog_11_method_3_code
def yX9_next : MethodName := ⟨RX9, "next", "()V"⟩
abbrev cX9_readNumber : ByteArray := prog_11_method_4_code
def yX9_readNumber : MethodName := ⟨RX9, "readNumber", "()V"⟩
abbrev cX9_kindOf : ByteArray := prog_11_method_5_code
def yX9_kindOf : MethodName := ⟨RX9, "kindOf", "(B)I"⟩
abbrev cX9_is : ByteArray := prog_11_method_6_code
def yX9_is : MethodName := ⟨RX9, "is", "(Ljava/lang/String;)Z"⟩
abbrev cX9_size : ByteArray := prog_11_method_7_code
def yX9_size : MethodName := ⟨RX9, "size", "()I"⟩
abbrev cX9_word : ByteArray := prog_11_method_8_code
def yX9_word : MethodName := ⟨RX9, "word", "()Ljava/lang/String;"⟩
def RX10 : String := "MealLoader"
def TX10 : u_T := fun k => match k with
  | 0 => ("MealLoader", "input", "[B", true)
  | 1 => ("MealLoader", "inputLength", "I", false)
  | 2 => ("MealLoader", "output", "[B", true)
  | 3 => ("MealLoader", "outputLength", "I", false)
  | 4 => ("MealLoader", "textError", "I", false)
  | 5 => ("MealLoader", "textErrorPosition", "I", false)
  | 6 => ("MealLoader", "latestReason", "I", false)
  | 7 => ("MealLoader", "now", "LMealLoader$Flight;", true)
  | 8 => ("MealLoader", "trial", "LMealLoader$Flight;", true)
  | 9 => ("MealLoader", "idlePlan", "LMealLoader$Plan;", false)
  | 10 => ("MealLoader", "flightText", "LMealLoader$FlightText;", true)
  | 11 => ("MealLoader", "history", "LMealLoader$History;", true)
  | 12 => ("MealLoader", "slotFlights", "[LMealLoader$Flight;", true)
  | 13 => ("MealLoader", "slotUsed", "[Z", true)
  | 14 => ("MealLoader", "order", "LMealLoader$Order;", true)
  | 15 => ("MealLoader", "matching", "LMealLoader$Matching;", true)
  | 16 => ("MealLoader", "service", "LMealLoader$Service;", true)
  | _ => ("MealLoader", "serviceReckoned", "Z", false)
def tyX10 : Nat → FieldType := fun k => match k with
  | 0 => .array .byte
  | 1 => .int
  | 2 => .array .byte
  | 3 => .int
  | 4 => .int
  | 5 => .int
  | 6 => .int
  | 7 => .object "MealLoader$Flight"
  | 8 => .object "MealLoader$Flight"
  | 9 => .object "MealLoader$Plan"
  | 10 => .object "MealLoader$FlightText"
  | 11 => .object "MealLoader$History"
  | 12 => .array (.object "MealLoader$Flight")
  | 13 => .array .boolean
  | 14 => .object "MealLoader$Order"
  | 15 => .object "MealLoader$Matching"
  | 16 => .object "MealLoader$Service"
  | _ => .boolean
theorem nmX10 : ∀ a, a < 18 → ∀ b, b < 18 → a ≠ b → (TX10 a).2.1 ≠ (TX10 b).2.1 := by decide +kernel
theorem tyX10_ok : ∀ k, k < 18 → parseFieldDescriptor (TX10 k).2.2.1 = some (tyX10 k) := by decide +kernel
abbrev cX10_init : ByteArray := prog_1_method_1_code
def yX10_init : MethodName := ⟨RX10, "<init>", "()V"⟩
abbrev cX10_feed : ByteArray := prog_1_method_2_code
def yX10_feed : MethodName := ⟨RX10, "feed", "(IIIII)I"⟩
abbrev cX10_appendBytes : ByteArray := prog_1_method_3_code
def yX10_appendBytes : MethodName := ⟨RX10, "appendBytes", "(I)V"⟩
abbrev cX10_load : ByteArray := prog_1_method_4_code
def yX10_load : MethodName := ⟨RX10, "load", "(I)I"⟩
abbrev cX10_count : ByteArray := prog_1_method_7_code
def yX10_count : MethodName := ⟨RX10, "count", "(I)I"⟩
abbrev cX10_cabin : ByteArray := prog_1_method_8_code
def yX10_cabin : MethodName := ⟨RX10, "cabin", "(II)I"⟩
abbrev cX10_meal : ByteArray := prog_1_method_9_code
def yX10_meal : MethodName := ⟨RX10, "meal", "(II)I"⟩
abbrev cX10_passenger : ByteArray := prog_1_method_10_code
def yX10_passenger : MethodName := ⟨RX10, "passenger", "(II)I"⟩
abbrev cX10_trolley : ByteArray := prog_1_method_11_code
def yX10_trolley : MethodName := ⟨RX10, "trolley", "(II)I"⟩
abbrev cX10_held : ByteArray := prog_1_method_12_code
def yX10_held : MethodName := ⟨RX10, "held", "(II)I"⟩
abbrev cX10_topUpAt : ByteArray := prog_1_method_13_code
def yX10_topUpAt : MethodName := ⟨RX10, "topUpAt", "(II)I"⟩
abbrev cX10_board : ByteArray := prog_1_method_14_code
def yX10_board : MethodName := ⟨RX10, "board", "(III)I"⟩
abbrev cX10_change : ByteArray := prog_1_method_15_code
def yX10_change : MethodName := ⟨RX10, "change", "(II)I"⟩
abbrev cX10_leave : ByteArray := prog_1_method_16_code
def yX10_leave : MethodName := ⟨RX10, "leave", "(I)I"⟩
abbrev cX10_setNeeds : ByteArray := prog_1_method_17_code
def yX10_setNeeds : MethodName := ⟨RX10, "setNeeds", "(II)I"⟩
abbrev cX10_loadOrder : ByteArray := prog_1_method_18_code
def yX10_loadOrder : MethodName := ⟨RX10, "loadOrder", "()I"⟩
abbrev cX10_store : ByteArray := prog_1_method_19_code
def yX10_store : MethodName := ⟨RX10, "store", "(II)I"⟩
abbrev cX10_unload : ByteArray := prog_1_method_20_code
def yX10_unload : MethodName := ⟨RX10, "unload", "(II)I"⟩
abbrev cX10_topUp : ByteArray := prog_1_method_21_code
def yX10_topUp : MethodName := ⟨RX10, "topUp", "(II)I"⟩
abbrev cX10_advance : ByteArray := prog_1_method_22_code
def yX10_advance : MethodName := ⟨RX10, "advance", "(I)I"⟩
abbrev cX10_outlook : ByteArray := prog_1_method_24_code
def yX10_outlook : MethodName := ⟨RX10, "outlook", "(I)I"⟩
abbrev cX10_mealFor : ByteArray := prog_1_method_25_code
def yX10_mealFor : MethodName := ⟨RX10, "mealFor", "(I)I"⟩
abbrev cX10_serve : ByteArray := prog_1_method_26_code
def yX10_serve : MethodName := ⟨RX10, "serve", "()I"⟩
abbrev cX10_account : ByteArray := prog_1_method_27_code
def yX10_account : MethodName := ⟨RX10, "account", "(I)J"⟩
abbrev cX10_undo : ByteArray := prog_1_method_31_code
def yX10_undo : MethodName := ⟨RX10, "undo", "()I"⟩
abbrev cX10_keep : ByteArray := prog_1_method_32_code
def yX10_keep : MethodName := ⟨RX10, "keep", "(I)I"⟩
abbrev cX10_restore : ByteArray := prog_1_method_33_code
def yX10_restore : MethodName := ⟨RX10, "restore", "(I)I"⟩
abbrev cX10_requireCabin : ByteArray := prog_1_method_38_code
def yX10_requireCabin : MethodName := ⟨RX10, "requireCabin", "(I)V"⟩
abbrev cX10_requireMeal : ByteArray := prog_1_method_39_code
def yX10_requireMeal : MethodName := ⟨RX10, "requireMeal", "(I)V"⟩
abbrev cX10_requirePassenger : ByteArray := prog_1_method_40_code
def yX10_requirePassenger : MethodName := ⟨RX10, "requirePassenger", "(I)V"⟩
abbrev cX10_requireTrolley : ByteArray := prog_1_method_41_code
def yX10_requireTrolley : MethodName := ⟨RX10, "requireTrolley", "(I)V"⟩
abbrev cX10_requireNeeds : ByteArray := prog_1_method_42_code
def yX10_requireNeeds : MethodName := ⟨RX10, "requireNeeds", "(I)V"⟩
abbrev cX10_requireUnits : ByteArray := prog_1_method_43_code
def yX10_requireUnits : MethodName := ⟨RX10, "requireUnits", "(I)V"⟩
abbrev cX10_requireSlot : ByteArray := prog_1_method_44_code
def yX10_requireSlot : MethodName := ⟨RX10, "requireSlot", "(I)V"⟩
abbrev cX10_requireFlight : ByteArray := prog_1_method_45_code
def yX10_requireFlight : MethodName := ⟨RX10, "requireFlight", "()V"⟩
abbrev cX10_requireOpen : ByteArray := prog_1_method_46_code
def yX10_requireOpen : MethodName := ⟨RX10, "requireOpen", "()V"⟩
abbrev cX10_requireSeat : ByteArray := prog_1_method_47_code
def yX10_requireSeat : MethodName := ⟨RX10, "requireSeat", "(I)V"⟩
abbrev cX10_refuse : ByteArray := prog_1_method_48_code
def yX10_refuse : MethodName := ⟨RX10, "refuse", "(I)V"⟩
abbrev cX10_beginAct : ByteArray := prog_1_method_49_code
def yX10_beginAct : MethodName := ⟨RX10, "beginAct", "()V"⟩
abbrev cX10_forgetPast : ByteArray := prog_1_method_50_code
def yX10_forgetPast : MethodName := ⟨RX10, "forgetPast", "()V"⟩
abbrev cX10_freshOrder : ByteArray := prog_1_method_51_code
def yX10_freshOrder : MethodName := ⟨RX10, "freshOrder", "()LMealLoader$Order;"⟩
abbrev cX10_freshService : ByteArray := prog_1_method_52_code
def yX10_freshService : MethodName := ⟨RX10, "freshService", "()LMealLoader$Service;"⟩
def RX11 : String := "MealLoaderModel"
def TX11 : u_T := fun k => match k with
  | _ => ("", "", "", false)
def tyX11 : Nat → FieldType := fun k => match k with
  | _ => .int
theorem nmX11 : ∀ a, a < 0 → ∀ b, b < 0 → a ≠ b → (TX11 a).2.1 ≠ (TX11 b).2.1 := by decide +kernel
theorem tyX11_ok : ∀ k, k < 0 → parseFieldDescriptor (TX11 k).2.2.1 = some (tyX11 k) := by decide +kernel
def RJx145de : String := "java/io/Serializable"
def TJx145de : u_T := fun k => match k with
  | _ => ("", "", "", false)
def tyJx145de : Nat → FieldType := fun k => match k with
  | _ => .int
theorem nmJx145de : ∀ a, a < 0 → ∀ b, b < 0 → a ≠ b → (TJx145de a).2.1 ≠ (TJx145de b).2.1 := by decide +kernel
theorem tyJx145de_ok : ∀ k, k < 0 → parseFieldDescriptor (TJx145de k).2.2.1 = some (tyJx145de k) := by decide +kernel
def RJ5 : String := "java/lang/AbstractStringBuilder"
def TJ5 : u_T := fun k => match k with
  | _ => ("", "", "", false)
def tyJ5 : Nat → FieldType := fun k => match k with
  | _ => .int
theorem nmJ5 : ∀ a, a < 0 → ∀ b, b < 0 → a ≠ b → (TJ5 a).2.1 ≠ (TJ5 b).2.1 := by decide +kernel
theorem tyJ5_ok : ∀ k, k < 0 → parseFieldDescriptor (TJ5 k).2.2.1 = some (tyJ5 k) := by decide +kernel
abbrev cJ5_init_d00df : ByteArray := prog_15_method_2_code
def yJ5_init_d00df : MethodName := ⟨RJ5, "<init>", "(I)V"⟩
abbrev cJ5_init_a7421 : ByteArray := prog_15_method_3_code
def yJ5_init_a7421 : MethodName := ⟨RJ5, "<init>", "(Ljava/lang/String;)V"⟩
abbrev cJ5_length_8abf5 : ByteArray := prog_15_method_6_code
def yJ5_length_8abf5 : MethodName := ⟨RJ5, "length", "()I"⟩
abbrev cJ5_ensureCapacityInternal_d00df : ByteArray := prog_15_method_9_code
def yJ5_ensureCapacityInternal_d00df : MethodName := ⟨RJ5, "ensureCapacityInternal", "(I)V"⟩
abbrev cJ5_newCapacity_0f7a4 : ByteArray := prog_15_method_10_code
def yJ5_newCapacity_0f7a4 : MethodName := ⟨RJ5, "newCapacity", "(I)I"⟩
abbrev cJ5_inflate_da8c8 : ByteArray := prog_15_method_11_code
def yJ5_inflate_da8c8 : MethodName := ⟨RJ5, "inflate", "()V"⟩
abbrev cJ5_append_cf1ce : ByteArray := prog_15_method_22_code
def yJ5_append_cf1ce : MethodName := ⟨RJ5, "append", "(Ljava/lang/String;)Ljava/lang/AbstractStringBuilder;"⟩
abbrev cJ5_appendNull_278bc : ByteArray := prog_15_method_26_code
def yJ5_appendNull_278bc : MethodName := ⟨RJ5, "appendNull", "()Ljava/lang/AbstractStringBuilder;"⟩
abbrev cJ5_append_3fe6f : ByteArray := prog_15_method_31_code
def yJ5_append_3fe6f : MethodName := ⟨RJ5, "append", "(C)Ljava/lang/AbstractStringBuilder;"⟩
abbrev cJ5_append_c97b9 : ByteArray := prog_15_method_32_code
def yJ5_append_c97b9 : MethodName := ⟨RJ5, "append", "(I)Ljava/lang/AbstractStringBuilder;"⟩
abbrev cJ5_getValue_6d5f1 : ByteArray := prog_15_method_64_code
def yJ5_getValue_6d5f1 : MethodName := ⟨RJ5, "getValue", "()[B"⟩
abbrev cJ5_isLatin1_aae02 : ByteArray := prog_15_method_68_code
def yJ5_isLatin1_aae02 : MethodName := ⟨RJ5, "isLatin1", "()Z"⟩
abbrev cJ5_inflateIfNeededFor_a7421 : ByteArray := prog_15_method_71_code
def yJ5_inflateIfNeededFor_a7421 : MethodName := ⟨RJ5, "inflateIfNeededFor", "(Ljava/lang/String;)V"⟩
abbrev cJ5_putStringAt_47b60 : ByteArray := prog_15_method_73_code
def yJ5_putStringAt_47b60 : MethodName := ⟨RJ5, "putStringAt", "(ILjava/lang/String;)V"⟩
def RJx2cfe8 : String := "java/lang/Appendable"
def TJx2cfe8 : u_T := fun k => match k with
  | _ => ("", "", "", false)
def tyJx2cfe8 : Nat → FieldType := fun k => match k with
  | _ => .int
theorem nmJx2cfe8 : ∀ a, a < 0 → ∀ b, b < 0 → a ≠ b → (TJx2cfe8 a).2.1 ≠ (TJx2cfe8 b).2.1 := by decide +kernel
theorem tyJx2cfe8_ok : ∀ k, k < 0 → parseFieldDescriptor (TJx2cfe8 k).2.2.1 = some (tyJx2cfe8 k) := by decide +kernel
def RJx9f9b0 : String := "java/lang/CharSequence"
def TJx9f9b0 : u_T := fun k => match k with
  | _ => ("", "", "", false)
def tyJx9f9b0 : Nat → FieldType := fun k => match k with
  | _ => .int
theorem nmJx9f9b0 : ∀ a, a < 0 → ∀ b, b < 0 → a ≠ b → (TJx9f9b0 a).2.1 ≠ (TJx9f9b0 b).2.1 := by decide +kernel
theorem tyJx9f9b0_ok : ∀ k, k < 0 → parseFieldDescriptor (TJx9f9b0 k).2.2.1 = some (tyJx9f9b0 k) := by decide +kernel
def RJx8e188 : String := "java/lang/Cloneable"
def TJx8e188 : u_T := fun k => match k with
  | _ => ("", "", "", false)
def tyJx8e188 : Nat → FieldType := fun k => match k with
  | _ => .int
theorem nmJx8e188 : ∀ a, a < 0 → ∀ b, b < 0 → a ≠ b → (TJx8e188 a).2.1 ≠ (TJx8e188 b).2.1 := by decide +kernel
theorem tyJx8e188_ok : ∀ k, k < 0 → parseFieldDescriptor (TJx8e188 k).2.2.1 = some (tyJx8e188 k) := by decide +kernel
def RJxb160c : String := "java/lang/Comparable"
def TJxb160c : u_T := fun k => match k with
  | _ => ("", "", "", false)
def tyJxb160c : Nat → FieldType := fun k => match k with
  | _ => .int
theorem nmJxb160c : ∀ a, a < 0 → ∀ b, b < 0 → a ≠ b → (TJxb160c a).2.1 ≠ (TJxb160c b).2.1 := by decide +kernel
theorem tyJxb160c_ok : ∀ k, k < 0 → parseFieldDescriptor (TJxb160c k).2.2.1 = some (tyJxb160c k) := by decide +kernel
def RJ6 : String := "java/lang/Integer"
def TJ6 : u_T := fun k => match k with
  | _ => ("", "", "", false)
def tyJ6 : Nat → FieldType := fun k => match k with
  | _ => .int
theorem nmJ6 : ∀ a, a < 0 → ∀ b, b < 0 → a ≠ b → (TJ6 a).2.1 ≠ (TJ6 b).2.1 := by decide +kernel
theorem tyJ6_ok : ∀ k, k < 0 → parseFieldDescriptor (TJ6 k).2.2.1 = some (tyJ6 k) := by decide +kernel
abbrev cJ6_getChars_ba4f3 : ByteArray := prog_24_method_12_code
def yJ6_getChars_ba4f3 : MethodName := ⟨RJ6, "getChars", "(II[B)I"⟩
abbrev cJ6_stringSize_0f7a4 : ByteArray := prog_24_method_13_code
def yJ6_stringSize_0f7a4 : MethodName := ⟨RJ6, "stringSize", "(I)I"⟩
def RJ9 : String := "java/lang/Math"
def TJ9 : u_T := fun k => match k with
  | _ => ("", "", "", false)
def tyJ9 : Nat → FieldType := fun k => match k with
  | _ => .int
theorem nmJ9 : ∀ a, a < 0 → ∀ b, b < 0 → a ≠ b → (TJ9 a).2.1 ≠ (TJ9 b).2.1 := by decide +kernel
theorem tyJ9_ok : ∀ k, k < 0 → parseFieldDescriptor (TJ9 k).2.2.1 = some (tyJ9 k) := by decide +kernel
abbrev cJ9_max_7cf53 : ByteArray := prog_25_method_65_code
def yJ9_max_7cf53 : MethodName := ⟨RJ9, "max", "(II)I"⟩
abbrev cJ9_min_7cf53 : ByteArray := prog_25_method_69_code
def yJ9_min_7cf53 : MethodName := ⟨RJ9, "min", "(II)I"⟩
def RJxd2413 : String := "java/lang/Number"
def TJxd2413 : u_T := fun k => match k with
  | _ => ("", "", "", false)
def tyJxd2413 : Nat → FieldType := fun k => match k with
  | _ => .int
theorem nmJxd2413 : ∀ a, a < 0 → ∀ b, b < 0 → a ≠ b → (TJxd2413 a).2.1 ≠ (TJxd2413 b).2.1 := by decide +kernel
theorem tyJxd2413_ok : ∀ k, k < 0 → parseFieldDescriptor (TJxd2413 k).2.2.1 = some (tyJxd2413 k) := by decide +kernel
def RJ0 : String := "java/lang/String"
def TJ0 : u_T := fun k => match k with
  | 0 => ("java/lang/String", "value", "[B", true)
  | 1 => ("java/lang/String", "coder", "B", true)
  | 2 => ("java/lang/String", "hash", "I", false)
  | _ => ("java/lang/String", "hashIsZero", "Z", false)
def tyJ0 : Nat → FieldType := fun k => match k with
  | 0 => .array .byte
  | 1 => .byte
  | 2 => .int
  | _ => .boolean
theorem nmJ0 : ∀ a, a < 4 → ∀ b, b < 4 → a ≠ b → (TJ0 a).2.1 ≠ (TJ0 b).2.1 := by decide +kernel
theorem tyJ0_ok : ∀ k, k < 4 → parseFieldDescriptor (TJ0 k).2.2.1 = some (tyJ0 k) := by decide +kernel
abbrev cJ0_init_905df : ByteArray := prog_28_method_3_code
def yJ0_init_905df : MethodName := ⟨RJ0, "<init>", "([C)V"⟩
abbrev cJ0_init_81219 : ByteArray := prog_28_method_53_code
def yJ0_init_81219 : MethodName := ⟨RJ0, "<init>", "(Ljava/lang/StringBuilder;)V"⟩
abbrev cJ0_length_8abf5 : ByteArray := prog_28_method_54_code
def yJ0_length_8abf5 : MethodName := ⟨RJ0, "length", "()I"⟩
abbrev cJ0_charAt_5068e : ByteArray := prog_28_method_56_code
def yJ0_charAt_5068e : MethodName := ⟨RJ0, "charAt", "(I)C"⟩
abbrev cJ0_getBytes_840e7 : ByteArray := prog_28_method_147_code
def yJ0_getBytes_840e7 : MethodName := ⟨RJ0, "getBytes", "([BIB)V"⟩
abbrev cJ0_init_bb550 : ByteArray := prog_28_method_149_code
def yJ0_init_bb550 : MethodName := ⟨RJ0, "<init>", "([CIILjava/lang/Void;)V"⟩
abbrev cJ0_init_db425 : ByteArray := prog_28_method_150_code
def yJ0_init_db425 : MethodName := ⟨RJ0, "<init>", "(Ljava/lang/AbstractStringBuilder;Ljava/lang/Void;)V"⟩
abbrev cJ0_coder_7d493 : ByteArray := prog_28_method_152_code
def yJ0_coder_7d493 : MethodName := ⟨RJ0, "coder", "()B"⟩
abbrev cJ0_isLatin1_aae02 : ByteArray := prog_28_method_154_code
def yJ0_isLatin1_aae02 : MethodName := ⟨RJ0, "isLatin1", "()Z"⟩
abbrev cJ0_checkIndex_df160 : ByteArray := prog_28_method_155_code
def yJ0_checkIndex_df160 : MethodName := ⟨RJ0, "checkIndex", "(II)V"⟩
abbrev cJ0_checkBoundsOffCount_cabcc : ByteArray := prog_28_method_157_code
def yJ0_checkBoundsOffCount_cabcc : MethodName := ⟨RJ0, "checkBoundsOffCount", "(III)I"⟩
abbrev cJ0_checkBoundsBeginEnd_23922 : ByteArray := prog_28_method_158_code
def yJ0_checkBoundsBeginEnd_23922 : MethodName := ⟨RJ0, "checkBoundsBeginEnd", "(III)V"⟩
def RJ4 : String := "java/lang/StringBuilder"
def TJ4 : u_T := fun k => match k with
  | 0 => ("java/lang/AbstractStringBuilder", "value", "[B", false)
  | 1 => ("java/lang/AbstractStringBuilder", "coder", "B", false)
  | 2 => ("java/lang/AbstractStringBuilder", "maybeLatin1", "Z", false)
  | _ => ("java/lang/AbstractStringBuilder", "count", "I", false)
def tyJ4 : Nat → FieldType := fun k => match k with
  | 0 => .array .byte
  | 1 => .byte
  | 2 => .boolean
  | _ => .int
theorem nmJ4 : ∀ a, a < 4 → ∀ b, b < 4 → a ≠ b → (TJ4 a).2.1 ≠ (TJ4 b).2.1 := by decide +kernel
theorem tyJ4_ok : ∀ k, k < 4 → parseFieldDescriptor (TJ4 k).2.2.1 = some (tyJ4 k) := by decide +kernel
abbrev cJ4_init_da8c8 : ByteArray := prog_29_method_1_code
def yJ4_init_da8c8 : MethodName := ⟨RJ4, "<init>", "()V"⟩
abbrev cJ4_init_a7421 : ByteArray := prog_29_method_3_code
def yJ4_init_a7421 : MethodName := ⟨RJ4, "<init>", "(Ljava/lang/String;)V"⟩
abbrev cJ4_append_15ec4 : ByteArray := prog_29_method_7_code
def yJ4_append_15ec4 : MethodName := ⟨RJ4, "append", "(Ljava/lang/String;)Ljava/lang/StringBuilder;"⟩
abbrev cJ4_append_cf468 : ByteArray := prog_29_method_14_code
def yJ4_append_cf468 : MethodName := ⟨RJ4, "append", "(C)Ljava/lang/StringBuilder;"⟩
abbrev cJ4_append_bf812 : ByteArray := prog_29_method_15_code
def yJ4_append_bf812 : MethodName := ⟨RJ4, "append", "(I)Ljava/lang/StringBuilder;"⟩
abbrev cJ4_toString_0e30d : ByteArray := prog_29_method_42_code
def yJ4_toString_0e30d : MethodName := ⟨RJ4, "toString", "()Ljava/lang/String;"⟩
abbrev cJ4_append_cf1ce : ByteArray := prog_29_method_80_code
def yJ4_append_cf1ce : MethodName := ⟨RJ4, "append", "(Ljava/lang/String;)Ljava/lang/AbstractStringBuilder;"⟩
abbrev cJ4_length_8abf5 : ByteArray := prog_29_method_93_code
def yJ4_length_8abf5 : MethodName := ⟨RJ4, "length", "()I"⟩
def RJ1 : String := "java/lang/StringLatin1"
def TJ1 : u_T := fun k => match k with
  | _ => ("", "", "", false)
def tyJ1 : Nat → FieldType := fun k => match k with
  | _ => .int
theorem nmJ1 : ∀ a, a < 0 → ∀ b, b < 0 → a ≠ b → (TJ1 a).2.1 ≠ (TJ1 b).2.1 := by decide +kernel
theorem tyJ1_ok : ∀ k, k < 0 → parseFieldDescriptor (TJ1 k).2.2.1 = some (tyJ1 k) := by decide +kernel
abbrev cJ1_charAt_3b067 : ByteArray := prog_30_method_2_code
def yJ1_charAt_3b067 : MethodName := ⟨RJ1, "charAt", "([BI)C"⟩
abbrev cJ1_canEncode_fc78d : ByteArray := prog_30_method_3_code
def yJ1_canEncode_fc78d : MethodName := ⟨RJ1, "canEncode", "(C)Z"⟩
abbrev cJ1_inflate_0e8fd : ByteArray := prog_30_method_50_code
def yJ1_inflate_0e8fd : MethodName := ⟨RJ1, "inflate", "([BI[BII)V"⟩
def RJ2 : String := "java/lang/StringUTF16"
def TJ2 : u_T := fun k => match k with
  | _ => ("", "", "", false)
def tyJ2 : Nat → FieldType := fun k => match k with
  | _ => .int
theorem nmJ2 : ∀ a, a < 0 → ∀ b, b < 0 → a ≠ b → (TJ2 a).2.1 ≠ (TJ2 b).2.1 := by decide +kernel
theorem tyJ2_ok : ∀ k, k < 0 → parseFieldDescriptor (TJ2 k).2.2.1 = some (tyJ2 k) := by decide +kernel
abbrev cJ2_newBytesFor_77867 : ByteArray := prog_31_method_2_code
def yJ2_newBytesFor_77867 : MethodName := ⟨RJ2, "newBytesFor", "(I)[B"⟩
abbrev cJ2_newBytesLength_0f7a4 : ByteArray := prog_31_method_3_code
def yJ2_newBytesLength_0f7a4 : MethodName := ⟨RJ2, "newBytesLength", "(I)I"⟩
abbrev cJ2_putChar_b72d1 : ByteArray := prog_31_method_4_code
def yJ2_putChar_b72d1 : MethodName := ⟨RJ2, "putChar", "([BII)V"⟩
abbrev cJ2_getChar_3b067 : ByteArray := prog_31_method_5_code
def yJ2_getChar_3b067 : MethodName := ⟨RJ2, "getChar", "([BI)C"⟩
abbrev cJ2_length_9d52b : ByteArray := prog_31_method_6_code
def yJ2_length_9d52b : MethodName := ⟨RJ2, "length", "([B)I"⟩
abbrev cJ2_toBytes_dfd3c : ByteArray := prog_31_method_14_code
def yJ2_toBytes_dfd3c : MethodName := ⟨RJ2, "toBytes", "([CII)[B"⟩
abbrev cJ2_coderFromArrayLen_85cad : ByteArray := prog_31_method_15_code
def yJ2_coderFromArrayLen_85cad : MethodName := ⟨RJ2, "coderFromArrayLen", "([BI)B"⟩
abbrev cJ2_compress_dfd3c : ByteArray := prog_31_method_16_code
def yJ2_compress_dfd3c : MethodName := ⟨RJ2, "compress", "([CII)[B"⟩
abbrev cJ2_compress_39247 : ByteArray := prog_31_method_17_code
def yJ2_compress_39247 : MethodName := ⟨RJ2, "compress", "([BII)[B"⟩
abbrev cJ2_compress_fe38e : ByteArray := prog_31_method_21_code
def yJ2_compress_fe38e : MethodName := ⟨RJ2, "compress", "([CI[BII)I"⟩
abbrev cJ2_compress_5af95 : ByteArray := prog_31_method_22_code
def yJ2_compress_5af95 : MethodName := ⟨RJ2, "compress", "([BI[BII)I"⟩
abbrev cJ2_putCharSB_b72d1 : ByteArray := prog_31_method_71_code
def yJ2_putCharSB_b72d1 : MethodName := ⟨RJ2, "putCharSB", "([BII)V"⟩
abbrev cJ2_getChars_46870 : ByteArray := prog_31_method_77_code
def yJ2_getChars_46870 : MethodName := ⟨RJ2, "getChars", "(III[B)I"⟩
abbrev cJ2_putCharsAt_cd4e5 : ByteArray := prog_31_method_81_code
def yJ2_putCharsAt_cd4e5 : MethodName := ⟨RJ2, "putCharsAt", "([BICCCC)I"⟩
abbrev cJ2_charAt_3b067 : ByteArray := prog_31_method_83_code
def yJ2_charAt_3b067 : MethodName := ⟨RJ2, "charAt", "([BI)C"⟩
abbrev cJ2_inflate_0e8fd : ByteArray := prog_31_method_86_code
def yJ2_inflate_0e8fd : MethodName := ⟨RJ2, "inflate", "([BI[BII)V"⟩
abbrev cJ2_getChars_ba4f3 : ByteArray := prog_31_method_89_code
def yJ2_getChars_ba4f3 : MethodName := ⟨RJ2, "getChars", "(II[B)I"⟩
abbrev cJ2_checkIndex_2214a : ByteArray := prog_31_method_91_code
def yJ2_checkIndex_2214a : MethodName := ⟨RJ2, "checkIndex", "(I[B)V"⟩
abbrev cJ2_checkBoundsBeginEnd_d044e : ByteArray := prog_31_method_93_code
def yJ2_checkBoundsBeginEnd_d044e : MethodName := ⟨RJ2, "checkBoundsBeginEnd", "(II[B)V"⟩
abbrev cJ2_checkBoundsOffCount_d044e : ByteArray := prog_31_method_94_code
def yJ2_checkBoundsOffCount_d044e : MethodName := ⟨RJ2, "checkBoundsOffCount", "(II[B)V"⟩
def RJ10 : String := "java/lang/System"
def TJ10 : u_T := fun k => match k with
  | _ => ("", "", "", false)
def tyJ10 : Nat → FieldType := fun k => match k with
  | _ => .int
theorem nmJ10 : ∀ a, a < 0 → ∀ b, b < 0 → a ≠ b → (TJ10 a).2.1 ≠ (TJ10 b).2.1 := by decide +kernel
theorem tyJ10_ok : ∀ k, k < 0 → parseFieldDescriptor (TJ10 k).2.2.1 = some (tyJ10 k) := by decide +kernel
def RJxfd54e : String := "java/lang/constant/Constable"
def TJxfd54e : u_T := fun k => match k with
  | _ => ("", "", "", false)
def tyJxfd54e : Nat → FieldType := fun k => match k with
  | _ => .int
theorem nmJxfd54e : ∀ a, a < 0 → ∀ b, b < 0 → a ≠ b → (TJxfd54e a).2.1 ≠ (TJxfd54e b).2.1 := by decide +kernel
theorem tyJxfd54e_ok : ∀ k, k < 0 → parseFieldDescriptor (TJxfd54e k).2.2.1 = some (tyJxfd54e k) := by decide +kernel
def RJx3cf43 : String := "java/lang/constant/ConstantDesc"
def TJx3cf43 : u_T := fun k => match k with
  | _ => ("", "", "", false)
def tyJx3cf43 : Nat → FieldType := fun k => match k with
  | _ => .int
theorem nmJx3cf43 : ∀ a, a < 0 → ∀ b, b < 0 → a ≠ b → (TJx3cf43 a).2.1 ≠ (TJx3cf43 b).2.1 := by decide +kernel
theorem tyJx3cf43_ok : ∀ k, k < 0 → parseFieldDescriptor (TJx3cf43 k).2.2.1 = some (tyJx3cf43 k) := by decide +kernel
def RJ7 : String := "java/util/Arrays"
def TJ7 : u_T := fun k => match k with
  | _ => ("", "", "", false)
def tyJ7 : Nat → FieldType := fun k => match k with
  | _ => .int
theorem nmJ7 : ∀ a, a < 0 → ∀ b, b < 0 → a ≠ b → (TJ7 a).2.1 ≠ (TJ7 b).2.1 := by decide +kernel
theorem tyJ7_ok : ∀ k, k < 0 → parseFieldDescriptor (TJ7 k).2.2.1 = some (tyJ7 k) := by decide +kernel
abbrev cJ7_fill_53178 : ByteArray := prog_36_method_103_code
def yJ7_fill_53178 : MethodName := ⟨RJ7, "fill", "([II)V"⟩
abbrev cJ7_copyOf_9075b : ByteArray := prog_36_method_121_code
def yJ7_copyOf_9075b : MethodName := ⟨RJ7, "copyOf", "([BI)[B"⟩
abbrev cJ7_checkLength_df160 : ByteArray := prog_36_method_131_code
def yJ7_checkLength_df160 : MethodName := ⟨RJ7, "checkLength", "(II)V"⟩
abbrev cJ7_copyOfRange_39247 : ByteArray := prog_36_method_132_code
def yJ7_copyOfRange_39247 : MethodName := ⟨RJ7, "copyOfRange", "([BII)[B"⟩
abbrev cJ7_copyOfRangeByte_39247 : ByteArray := prog_36_method_133_code
def yJ7_copyOfRangeByte_39247 : MethodName := ⟨RJ7, "copyOfRangeByte", "([BII)[B"⟩
def RJ8 : String := "jdk/internal/util/ArraysSupport"
def TJ8 : u_T := fun k => match k with
  | _ => ("", "", "", false)
def tyJ8 : Nat → FieldType := fun k => match k with
  | _ => .int
theorem nmJ8 : ∀ a, a < 0 → ∀ b, b < 0 → a ≠ b → (TJ8 a).2.1 ≠ (TJ8 b).2.1 := by decide +kernel
theorem tyJ8_ok : ∀ k, k < 0 → parseFieldDescriptor (TJ8 k).2.2.1 = some (tyJ8 k) := by decide +kernel
abbrev cJ8_newLength_cabcc : ByteArray := prog_38_method_27_code
def yJ8_newLength_cabcc : MethodName := ⟨RJ8, "newLength", "(III)I"⟩
abbrev cJ8_hugeLength_7cf53 : ByteArray := prog_38_method_28_code
def yJ8_hugeLength_7cf53 : MethodName := ⟨RJ8, "hugeLength", "(II)I"⟩
def RJ3 : String := "jdk/internal/util/Preconditions"
def TJ3 : u_T := fun k => match k with
  | _ => ("", "", "", false)
def tyJ3 : Nat → FieldType := fun k => match k with
  | _ => .int
theorem nmJ3 : ∀ a, a < 0 → ∀ b, b < 0 → a ≠ b → (TJ3 a).2.1 ≠ (TJ3 b).2.1 := by decide +kernel
theorem tyJ3_ok : ∀ k, k < 0 → parseFieldDescriptor (TJ3 k).2.2.1 = some (tyJ3 k) := by decide +kernel
abbrev cJ3_checkIndex_8e157 : ByteArray := prog_39_method_11_code
def yJ3_checkIndex_8e157 : MethodName := ⟨RJ3, "checkIndex", "(IILjava/util/function/BiFunction;)I"⟩
abbrev cJ3_checkFromToIndex_8c36e : ByteArray := prog_39_method_12_code
def yJ3_checkFromToIndex_8c36e : MethodName := ⟨RJ3, "checkFromToIndex", "(IIILjava/util/function/BiFunction;)I"⟩
abbrev cJ3_checkFromIndexSize_8c36e : ByteArray := prog_39_method_13_code
def yJ3_checkFromIndexSize_8c36e : MethodName := ⟨RJ3, "checkFromIndexSize", "(IIILjava/util/function/BiFunction;)I"⟩
def RL : String := "MealLoaderLaw"
abbrev cL_next : ByteArray := method_2_code
def yL_next : MethodName := ⟨RL, "next", "([I)I"⟩
abbrev cL_type : ByteArray := method_3_code
def yL_type : MethodName := ⟨RL, "type", "(LMealLoader;Ljava/lang/String;)I"⟩
abbrev cL_load : ByteArray := method_4_code
def yL_load : MethodName := ⟨RL, "load", "(LMealLoader;Ljava/lang/String;)I"⟩
abbrev cL_diets : ByteArray := method_5_code
def yL_diets : MethodName := ⟨RL, "diets", "([II)Ljava/lang/String;"⟩
abbrev cL_flight : ByteArray := method_6_code
def yL_flight : MethodName := ⟨RL, "flight", "([I)Ljava/lang/String;"⟩
abbrev cL_undone : ByteArray := method_7_code
def yL_undone : MethodName := ⟨RL, "undone", "(LMealLoader;)I"⟩
abbrev cL_boarded : ByteArray := method_8_code
def yL_boarded : MethodName := ⟨RL, "boarded", "(LMealLoader;III)I"⟩
abbrev cL_changed : ByteArray := method_9_code
def yL_changed : MethodName := ⟨RL, "changed", "(LMealLoader;II)I"⟩
abbrev cL_ordered : ByteArray := method_10_code
def yL_ordered : MethodName := ⟨RL, "ordered", "(LMealLoader;)I"⟩
abbrev cL_stored : ByteArray := method_11_code
def yL_stored : MethodName := ⟨RL, "stored", "(LMealLoader;II)I"⟩
abbrev cL_unloaded : ByteArray := method_12_code
def yL_unloaded : MethodName := ⟨RL, "unloaded", "(LMealLoader;II)I"⟩
abbrev cL_topped : ByteArray := method_13_code
def yL_topped : MethodName := ⟨RL, "topped", "(LMealLoader;II)I"⟩
abbrev cL_passed : ByteArray := method_14_code
def yL_passed : MethodName := ⟨RL, "passed", "(LMealLoader;I)I"⟩
abbrev cL_sum : ByteArray := method_15_code
def yL_sum : MethodName := ⟨RL, "sum", "(LMealLoader;)J"⟩
abbrev cL_trolleys : ByteArray := method_16_code
def yL_trolleys : MethodName := ⟨RL, "trolleys", "(LMealLoader;)Z"⟩
abbrev cL_order : ByteArray := method_17_code
def yL_order : MethodName := ⟨RL, "order", "(LMealLoader;)Z"⟩
abbrev cL_service : ByteArray := method_18_code
def yL_service : MethodName := ⟨RL, "service", "(LMealLoader;)Z"⟩
abbrev cL_law : ByteArray := code
def yL_law : MethodName := ⟨RL, "law", "([I)Z"⟩
abbrev cL_act : ByteArray := method_20_code
def yL_act : MethodName := ⟨RL, "act", "(LMealLoader;[I)Z"⟩
abbrev vwCl : List vw_C := [(RJ0, TJ0, 4), (RX0, TX0, 3), (RX1, TX1, 13), (RX2, TX2, 5), (RX3, TX3, 3), (RX4, TX4, 10), (RX5, TX5, 6), (RX6, TX6, 2), (RX7, TX7, 11), (RX8, TX8, 8), (RX9, TX9, 6), (RX10, TX10, 18), (RJ4, TJ4, 4)]
