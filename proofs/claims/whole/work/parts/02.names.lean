/-! ===== BEGIN printed: names, fields, word lists, decode rows ===== -/
def RX0 : String := "CallSums$Giving"
def TX0 : u_T := fun k => match k with
  | 0 => ("CallSums$Giving", "from", "[I", true)
  | 1 => ("CallSums$Giving", "to", "[I", true)
  | 2 => ("CallSums$Giving", "weight", "[I", true)
  | 3 => ("CallSums$Giving", "car", "[I", true)
  | 4 => ("CallSums$Giving", "pick", "[I", true)
  | 5 => ("CallSums$Giving", "set", "[I", true)
  | 6 => ("CallSums$Giving", "burden", "[I", true)
  | 7 => ("CallSums$Giving", "count", "I", false)
  | 8 => ("CallSums$Giving", "number", "[I", true)
  | 9 => ("CallSums$Giving", "able", "[I", true)
  | 10 => ("CallSums$Giving", "begunBy", "[I", true)
  | 11 => ("CallSums$Giving", "row", "[I", true)
  | 12 => ("CallSums$Giving", "tried", "[I", true)
  | 13 => ("CallSums$Giving", "load", "[I", true)
  | _ => ("CallSums$Giving", "leastSum", "J", false)
def tyX0 : Nat → FieldType := fun k => match k with
  | 0 => .array .int
  | 1 => .array .int
  | 2 => .array .int
  | 3 => .array .int
  | 4 => .array .int
  | 5 => .array .int
  | 6 => .array .int
  | 7 => .int
  | 8 => .array .int
  | 9 => .array .int
  | 10 => .array .int
  | 11 => .array .int
  | 12 => .array .int
  | 13 => .array .int
  | _ => .long
abbrev wsX00 : List Cond := u_ws RX0 TX0 15
theorem nmX0 : ∀ a, a < 15 → ∀ b, b < 15 → a ≠ b → (TX0 a).2.1 ≠ (TX0 b).2.1 := by decide +kernel
theorem tyX0_ok : ∀ k, k < 15 → parseFieldDescriptor (TX0 k).2.2.1 = some (tyX0 k) := by decide +kernel
abbrev cX0_init : ByteArray := prog_2_method_1_code
def yX0_init : MethodName := ⟨RX0, "<init>", "()V"⟩
abbrev cX0_clearRows : ByteArray := prog_2_method_2_code
def yX0_clearRows : MethodName := ⟨RX0, "clearRows", "()V"⟩
abbrev cX0_clear : ByteArray := prog_2_method_3_code
def yX0_clear : MethodName := ⟨RX0, "clear", "()V"⟩
abbrev cX0_add : ByteArray := prog_2_method_4_code
def yX0_add : MethodName := ⟨RX0, "add", "(LCallSums$Ride;II)V"⟩
abbrev cX0_slotOf : ByteArray := prog_2_method_5_code
def yX0_slotOf : MethodName := ⟨RX0, "slotOf", "(I)I"⟩
abbrev cX0_inRow : ByteArray := prog_2_method_6_code
def yX0_inRow : MethodName := ⟨RX0, "inRow", "(II)I"⟩
abbrev cX0_begunSlot : ByteArray := prog_2_method_7_code
def yX0_begunSlot : MethodName := ⟨RX0, "begunSlot", "(I)I"⟩
abbrev cX0_slotsFor : ByteArray := prog_2_method_8_code
def yX0_slotsFor : MethodName := ⟨RX0, "slotsFor", "(I)I"⟩
abbrev cX0_make : ByteArray := prog_2_method_9_code
def yX0_make : MethodName := ⟨RX0, "make", "([LCallSums$Lift;I)J"⟩
abbrev cX0_weighSets : ByteArray := prog_2_method_10_code
def yX0_weighSets : MethodName := ⟨RX0, "weighSets", "()V"⟩
abbrev cX0_place : ByteArray := prog_2_method_11_code
def yX0_place : MethodName := ⟨RX0, "place", "(LCallSums$Giving;[LCallSums$Lift;IJ)V"⟩
abbrev cX0_keep : ByteArray := prog_2_method_12_code
def yX0_keep : MethodName := ⟨RX0, "keep", "(J)V"⟩
abbrev cX0_tell : ByteArray := prog_2_method_13_code
def yX0_tell : MethodName := ⟨RX0, "tell", "(LCallSums$Rows;I)V"⟩
def RX1 : String := "CallSums$Lift"
def TX1 : u_T := fun k => match k with
  | 0 => ("CallSums$Lift", "speed", "I", true)
  | 1 => ("CallSums$Lift", "floor", "I", false)
  | 2 => ("CallSums$Lift", "second", "I", false)
  | 3 => ("CallSums$Lift", "least", "I", false)
  | 4 => ("CallSums$Lift", "greatest", "I", false)
  | 5 => ("CallSums$Lift", "asleep", "Z", false)
  | _ => ("CallSums$Lift", "rows", "LCallSums$Rows;", true)
def tyX1 : Nat → FieldType := fun k => match k with
  | 0 => .int
  | 1 => .int
  | 2 => .int
  | 3 => .int
  | 4 => .int
  | 5 => .boolean
  | _ => .object "CallSums$Rows"
abbrev wsX10 : List Cond := u_ws RX1 TX1 7
theorem nmX1 : ∀ a, a < 7 → ∀ b, b < 7 → a ≠ b → (TX1 a).2.1 ≠ (TX1 b).2.1 := by decide +kernel
theorem tyX1_ok : ∀ k, k < 7 → parseFieldDescriptor (TX1 k).2.2.1 = some (tyX1 k) := by decide +kernel
abbrev cX1_init : ByteArray := prog_3_method_1_code
def yX1_init : MethodName := ⟨RX1, "<init>", "(III)V"⟩
abbrev cX1_reaches : ByteArray := prog_3_method_2_code
def yX1_reaches : MethodName := ⟨RX1, "reaches", "(LCallSums$Ride;)Z"⟩
abbrev cX1_within : ByteArray := prog_3_method_3_code
def yX1_within : MethodName := ⟨RX1, "within", "(I)Z"⟩
def RX2 : String := "CallSums$Ride"
def TX2 : u_T := fun k => match k with
  | 0 => ("CallSums$Ride", "number", "I", true)
  | 1 => ("CallSums$Ride", "from", "I", true)
  | 2 => ("CallSums$Ride", "to", "I", true)
  | 3 => ("CallSums$Ride", "since", "I", true)
  | 4 => ("CallSums$Ride", "urgent", "Z", false)
  | _ => ("CallSums$Ride", "begunBy", "I", false)
def tyX2 : Nat → FieldType := fun k => match k with
  | 0 => .int
  | 1 => .int
  | 2 => .int
  | 3 => .int
  | 4 => .boolean
  | _ => .int
abbrev wsX20 : List Cond := u_ws RX2 TX2 6
theorem nmX2 : ∀ a, a < 6 → ∀ b, b < 6 → a ≠ b → (TX2 a).2.1 ≠ (TX2 b).2.1 := by decide +kernel
theorem tyX2_ok : ∀ k, k < 6 → parseFieldDescriptor (TX2 k).2.2.1 = some (tyX2 k) := by decide +kernel
abbrev cX2_init : ByteArray := prog_4_method_1_code
def yX2_init : MethodName := ⟨RX2, "<init>", "(IIII)V"⟩
def RX3 : String := "CallSums$Rows"
def TX3 : u_T := fun k => match k with
  | 0 => ("CallSums$Rows", "speed", "I", false)
  | 1 => ("CallSums$Rows", "floor", "I", false)
  | 2 => ("CallSums$Rows", "delay", "I", false)
  | 3 => ("CallSums$Rows", "begun", "I", false)
  | 4 => ("CallSums$Rows", "cost", "[J", true)
  | _ => ("CallSums$Rows", "first", "[I", true)
def tyX3 : Nat → FieldType := fun k => match k with
  | 0 => .int
  | 1 => .int
  | 2 => .int
  | 3 => .int
  | 4 => .array .long
  | _ => .array .int
abbrev wsX30 : List Cond := u_ws RX3 TX3 6
theorem nmX3 : ∀ a, a < 6 → ∀ b, b < 6 → a ≠ b → (TX3 a).2.1 ≠ (TX3 b).2.1 := by decide +kernel
theorem tyX3_ok : ∀ k, k < 6 → parseFieldDescriptor (TX3 k).2.2.1 = some (tyX3 k) := by decide +kernel
abbrev cX3_init : ByteArray := prog_5_method_1_code
def yX3_init : MethodName := ⟨RX3, "<init>", "()V"⟩
abbrev cX3_cell : ByteArray := prog_5_method_2_code
def yX3_cell : MethodName := ⟨RX3, "cell", "(II)I"⟩
abbrev cX3_costOf : ByteArray := prog_5_method_3_code
def yX3_costOf : MethodName := ⟨RX3, "costOf", "(I)J"⟩
abbrev cX3_firstOf : ByteArray := prog_5_method_4_code
def yX3_firstOf : MethodName := ⟨RX3, "firstOf", "(II)I"⟩
abbrev cX3_weigh : ByteArray := prog_5_method_5_code
def yX3_weigh : MethodName := ⟨RX3, "weigh", "(LCallSums$Giving;LCallSums$Lift;II)V"⟩
abbrev cX3_firsts : ByteArray := prog_5_method_6_code
def yX3_firsts : MethodName := ⟨RX3, "firsts", "(I)I"⟩
abbrev cX3_choose : ByteArray := prog_5_method_7_code
def yX3_choose : MethodName := ⟨RX3, "choose", "(LCallSums$Giving;III)V"⟩
abbrev cX3_secondsTo : ByteArray := prog_5_method_8_code
def yX3_secondsTo : MethodName := ⟨RX3, "secondsTo", "(LCallSums$Giving;II)I"⟩
abbrev cX3_secondsWith : ByteArray := prog_5_method_9_code
def yX3_secondsWith : MethodName := ⟨RX3, "secondsWith", "(LCallSums$Giving;I)I"⟩
def RX4 : String := "CallSums"
def TX4 : u_T := fun k => match k with
  | 0 => ("CallSums", "floors", "I", true)
  | 1 => ("CallSums", "lifts", "[LCallSums$Lift;", true)
  | 2 => ("CallSums", "liftCount", "I", false)
  | 3 => ("CallSums", "openRides", "[LCallSums$Ride;", true)
  | 4 => ("CallSums", "openCount", "I", false)
  | 5 => ("CallSums", "callCount", "I", false)
  | 6 => ("CallSums", "time", "I", false)
  | _ => ("CallSums", "giving", "LCallSums$Giving;", true)
def tyX4 : Nat → FieldType := fun k => match k with
  | 0 => .int
  | 1 => .array (.object "CallSums$Lift")
  | 2 => .int
  | 3 => .array (.object "CallSums$Ride")
  | 4 => .int
  | 5 => .int
  | 6 => .int
  | _ => .object "CallSums$Giving"
abbrev wsX40 : List Cond := u_ws RX4 TX4 8
theorem nmX4 : ∀ a, a < 8 → ∀ b, b < 8 → a ≠ b → (TX4 a).2.1 ≠ (TX4 b).2.1 := by decide +kernel
theorem tyX4_ok : ∀ k, k < 8 → parseFieldDescriptor (TX4 k).2.2.1 = some (tyX4 k) := by decide +kernel
abbrev cX4_init : ByteArray := prog_1_method_1_code
def yX4_init : MethodName := ⟨RX4, "<init>", "(I)V"⟩
abbrev cX4_car : ByteArray := prog_1_method_2_code
def yX4_car : MethodName := ⟨RX4, "car", "(II)I"⟩
abbrev cX4_free : ByteArray := prog_1_method_3_code
def yX4_free : MethodName := ⟨RX4, "free", "(III)V"⟩
abbrev cX4_zone : ByteArray := prog_1_method_4_code
def yX4_zone : MethodName := ⟨RX4, "zone", "(III)V"⟩
abbrev cX4_sleep : ByteArray := prog_1_method_5_code
def yX4_sleep : MethodName := ⟨RX4, "sleep", "(IZ)Z"⟩
abbrev cX4_call : ByteArray := prog_1_method_6_code
def yX4_call : MethodName := ⟨RX4, "call", "(II)I"⟩
abbrev cX4_urgent : ByteArray := prog_1_method_7_code
def yX4_urgent : MethodName := ⟨RX4, "urgent", "(IZ)Z"⟩
abbrev cX4_begin : ByteArray := prog_1_method_8_code
def yX4_begin : MethodName := ⟨RX4, "begin", "(II)Z"⟩
abbrev cX4_done : ByteArray := prog_1_method_9_code
def yX4_done : MethodName := ⟨RX4, "done", "(I)V"⟩
abbrev cX4_pass : ByteArray := prog_1_method_10_code
def yX4_pass : MethodName := ⟨RX4, "pass", "(I)I"⟩
abbrev cX4_give : ByteArray := prog_1_method_11_code
def yX4_give : MethodName := ⟨RX4, "give", "()J"⟩
abbrev cX4_carOf : ByteArray := prog_1_method_12_code
def yX4_carOf : MethodName := ⟨RX4, "carOf", "(I)I"⟩
abbrev cX4_turn : ByteArray := prog_1_method_13_code
def yX4_turn : MethodName := ⟨RX4, "turn", "(II)I"⟩
abbrev cX4_told : ByteArray := prog_1_method_14_code
def yX4_told : MethodName := ⟨RX4, "told", "(II)I"⟩
abbrev cX4_left : ByteArray := prog_1_method_15_code
def yX4_left : MethodName := ⟨RX4, "left", "()I"⟩
abbrev cX4_cars : ByteArray := prog_1_method_16_code
def yX4_cars : MethodName := ⟨RX4, "cars", "(I)I"⟩
abbrev cX4_open : ByteArray := prog_1_method_17_code
def yX4_open : MethodName := ⟨RX4, "open", "()I"⟩
abbrev cX4_weight : ByteArray := prog_1_method_18_code
def yX4_weight : MethodName := ⟨RX4, "weight", "(I)I"⟩
abbrev cX4_isFloor : ByteArray := prog_1_method_19_code
def yX4_isFloor : MethodName := ⟨RX4, "isFloor", "(I)Z"⟩
abbrev cX4_wasCalled : ByteArray := prog_1_method_20_code
def yX4_wasCalled : MethodName := ⟨RX4, "wasCalled", "(I)Z"⟩
abbrev cX4_liftOf : ByteArray := prog_1_method_21_code
def yX4_liftOf : MethodName := ⟨RX4, "liftOf", "(I)LCallSums$Lift;"⟩
abbrev cX4_openRide : ByteArray := prog_1_method_22_code
def yX4_openRide : MethodName := ⟨RX4, "openRide", "(I)LCallSums$Ride;"⟩
abbrev cX4_dropRide : ByteArray := prog_1_method_23_code
def yX4_dropRide : MethodName := ⟨RX4, "dropRide", "(I)V"⟩
abbrev cX4_hasBegunAnother : ByteArray := prog_1_method_24_code
def yX4_hasBegunAnother : MethodName := ⟨RX4, "hasBegunAnother", "(ILCallSums$Ride;)Z"⟩
abbrev cX4_ableCars : ByteArray := prog_1_method_25_code
def yX4_ableCars : MethodName := ⟨RX4, "ableCars", "(LCallSums$Ride;)I"⟩
abbrev cX4_weightNow : ByteArray := prog_1_method_26_code
def yX4_weightNow : MethodName := ⟨RX4, "weightNow", "(LCallSums$Ride;)I"⟩
def RX5 : String := "CallSumsModel"
def TX5 : u_T := fun k => match k with
  | 0 => ("CallSumsModel", "code", "I", false)
  | 1 => ("CallSumsModel", "floors", "I", true)
  | 2 => ("CallSumsModel", "time", "I", false)
  | 3 => ("CallSumsModel", "cars", "I", false)
  | 4 => ("CallSumsModel", "speeds", "[I", true)
  | 5 => ("CallSumsModel", "places", "[I", true)
  | 6 => ("CallSumsModel", "seconds", "[I", true)
  | 7 => ("CallSumsModel", "leasts", "[I", true)
  | 8 => ("CallSumsModel", "greatests", "[I", true)
  | 9 => ("CallSumsModel", "sleeps", "[Z", true)
  | 10 => ("CallSumsModel", "calls", "I", false)
  | 11 => ("CallSumsModel", "froms", "[I", true)
  | 12 => ("CallSumsModel", "tos", "[I", true)
  | 13 => ("CallSumsModel", "since", "[I", true)
  | 14 => ("CallSumsModel", "isOpen", "[Z", true)
  | 15 => ("CallSumsModel", "isUrgent", "[Z", true)
  | 16 => ("CallSumsModel", "begun", "[I", true)
  | 17 => ("CallSumsModel", "opens", "I", false)
  | 18 => ("CallSumsModel", "givenCars", "[I", true)
  | 19 => ("CallSumsModel", "picks", "[I", true)
  | 20 => ("CallSumsModel", "sets", "[I", true)
  | 21 => ("CallSumsModel", "weights", "[I", true)
  | 22 => ("CallSumsModel", "rows", "[I", true)
  | 23 => ("CallSumsModel", "rowSizes", "[I", true)
  | 24 => ("CallSumsModel", "many", "I", false)
  | 25 => ("CallSumsModel", "list", "[I", true)
  | 26 => ("CallSumsModel", "may", "[I", true)
  | 27 => ("CallSumsModel", "best", "[J", true)
  | 28 => ("CallSumsModel", "bestRows", "[I", true)
  | 29 => ("CallSumsModel", "order", "[I", true)
  | _ => ("CallSumsModel", "dealt", "[I", true)
def tyX5 : Nat → FieldType := fun k => match k with
  | 0 => .int
  | 1 => .int
  | 2 => .int
  | 3 => .int
  | 4 => .array .int
  | 5 => .array .int
  | 6 => .array .int
  | 7 => .array .int
  | 8 => .array .int
  | 9 => .array .boolean
  | 10 => .int
  | 11 => .array .int
  | 12 => .array .int
  | 13 => .array .int
  | 14 => .array .boolean
  | 15 => .array .boolean
  | 16 => .array .int
  | 17 => .int
  | 18 => .array .int
  | 19 => .array .int
  | 20 => .array .int
  | 21 => .array .int
  | 22 => .array .int
  | 23 => .array .int
  | 24 => .int
  | 25 => .array .int
  | 26 => .array .int
  | 27 => .array .long
  | 28 => .array .int
  | 29 => .array .int
  | _ => .array .int
abbrev wsX50 : List Cond := u_ws RX5 TX5 31
theorem nmX5 : ∀ a, a < 31 → ∀ b, b < 31 → a ≠ b → (TX5 a).2.1 ≠ (TX5 b).2.1 := by decide +kernel
theorem tyX5_ok : ∀ k, k < 31 → parseFieldDescriptor (TX5 k).2.2.1 = some (tyX5 k) := by decide +kernel
abbrev cX5_init : ByteArray := prog_7_method_1_code
def yX5_init : MethodName := ⟨RX5, "<init>", "(I)V"⟩
abbrev cX5_thrown : ByteArray := prog_7_method_2_code
def yX5_thrown : MethodName := ⟨RX5, "thrown", "()I"⟩
abbrev cX5_isIn : ByteArray := prog_7_method_3_code
def yX5_isIn : MethodName := ⟨RX5, "isIn", "(III)Z"⟩
abbrev cX5_isFloor : ByteArray := prog_7_method_4_code
def yX5_isFloor : MethodName := ⟨RX5, "isFloor", "(I)Z"⟩
abbrev cX5_isCar : ByteArray := prog_7_method_5_code
def yX5_isCar : MethodName := ⟨RX5, "isCar", "(I)Z"⟩
abbrev cX5_isOpenCall : ByteArray := prog_7_method_6_code
def yX5_isOpenCall : MethodName := ⟨RX5, "isOpenCall", "(I)Z"⟩
abbrev cX5_car : ByteArray := prog_7_method_7_code
def yX5_car : MethodName := ⟨RX5, "car", "(II)I"⟩
abbrev cX5_free : ByteArray := prog_7_method_8_code
def yX5_free : MethodName := ⟨RX5, "free", "(III)V"⟩
abbrev cX5_zone : ByteArray := prog_7_method_9_code
def yX5_zone : MethodName := ⟨RX5, "zone", "(III)V"⟩
abbrev cX5_sleep : ByteArray := prog_7_method_10_code
def yX5_sleep : MethodName := ⟨RX5, "sleep", "(IZ)Z"⟩
abbrev cX5_call : ByteArray := prog_7_method_11_code
def yX5_call : MethodName := ⟨RX5, "call", "(II)I"⟩
abbrev cX5_urgent : ByteArray := prog_7_method_12_code
def yX5_urgent : MethodName := ⟨RX5, "urgent", "(IZ)Z"⟩
abbrev cX5_isWithin : ByteArray := prog_7_method_13_code
def yX5_isWithin : MethodName := ⟨RX5, "isWithin", "(II)Z"⟩
abbrev cX5_begin : ByteArray := prog_7_method_14_code
def yX5_begin : MethodName := ⟨RX5, "begin", "(II)Z"⟩
abbrev cX5_done : ByteArray := prog_7_method_15_code
def yX5_done : MethodName := ⟨RX5, "done", "(I)V"⟩
abbrev cX5_pass : ByteArray := prog_7_method_16_code
def yX5_pass : MethodName := ⟨RX5, "pass", "(I)I"⟩
abbrev cX5_weightOf : ByteArray := prog_7_method_17_code
def yX5_weightOf : MethodName := ⟨RX5, "weightOf", "(I)I"⟩
abbrev cX5_carsOf : ByteArray := prog_7_method_18_code
def yX5_carsOf : MethodName := ⟨RX5, "carsOf", "(I)I"⟩
abbrev cX5_way : ByteArray := prog_7_method_19_code
def yX5_way : MethodName := ⟨RX5, "way", "(II)I"⟩
abbrev cX5_sumOf : ByteArray := prog_7_method_20_code
def yX5_sumOf : MethodName := ⟨RX5, "sumOf", "(IIZ)J"⟩
abbrev cX5_nextOrder : ByteArray := prog_7_method_21_code
def yX5_nextOrder : MethodName := ⟨RX5, "nextOrder", "(I)Z"⟩
abbrev cX5_findRows : ByteArray := prog_7_method_22_code
def yX5_findRows : MethodName := ⟨RX5, "findRows", "(II)V"⟩
abbrev cX5_setOf : ByteArray := prog_7_method_23_code
def yX5_setOf : MethodName := ⟨RX5, "setOf", "(I)I"⟩
abbrev cX5_give : ByteArray := prog_7_method_24_code
def yX5_give : MethodName := ⟨RX5, "give", "()J"⟩
abbrev cX5_deal : ByteArray := prog_7_method_25_code
def yX5_deal : MethodName := ⟨RX5, "deal", "(I)V"⟩
abbrev cX5_wasCall : ByteArray := prog_7_method_26_code
def yX5_wasCall : MethodName := ⟨RX5, "wasCall", "(I)Z"⟩
abbrev cX5_carOf : ByteArray := prog_7_method_27_code
def yX5_carOf : MethodName := ⟨RX5, "carOf", "(I)I"⟩
abbrev cX5_turn : ByteArray := prog_7_method_28_code
def yX5_turn : MethodName := ⟨RX5, "turn", "(II)I"⟩
abbrev cX5_told : ByteArray := prog_7_method_29_code
def yX5_told : MethodName := ⟨RX5, "told", "(II)I"⟩
abbrev cX5_left : ByteArray := prog_7_method_30_code
def yX5_left : MethodName := ⟨RX5, "left", "()I"⟩
abbrev cX5_cars : ByteArray := prog_7_method_31_code
def yX5_cars : MethodName := ⟨RX5, "cars", "(I)I"⟩
abbrev cX5_open : ByteArray := prog_7_method_32_code
def yX5_open : MethodName := ⟨RX5, "open", "()I"⟩
abbrev cX5_weight : ByteArray := prog_7_method_33_code
def yX5_weight : MethodName := ⟨RX5, "weight", "(I)I"⟩
def RJ9 : String := "java/lang/Math"
def TJ9 : u_T := fun k => match k with
  | _ => ("", "", "", false)
def tyJ9 : Nat → FieldType := fun k => match k with
  | _ => .int
abbrev wsJ90 : List Cond := u_ws RJ9 TJ9 0
theorem nmJ9 : ∀ a, a < 0 → ∀ b, b < 0 → a ≠ b → (TJ9 a).2.1 ≠ (TJ9 b).2.1 := by decide +kernel
theorem tyJ9_ok : ∀ k, k < 0 → parseFieldDescriptor (TJ9 k).2.2.1 = some (tyJ9 k) := by decide +kernel
abbrev cJ9_abs_0f7a4 : ByteArray := prog_11_method_59_code
def yJ9_abs_0f7a4 : MethodName := ⟨RJ9, "abs", "(I)I"⟩
abbrev cJ9_max_7cf53 : ByteArray := prog_11_method_65_code
def yJ9_max_7cf53 : MethodName := ⟨RJ9, "max", "(II)I"⟩
abbrev cJ9_min_7cf53 : ByteArray := prog_11_method_69_code
def yJ9_min_7cf53 : MethodName := ⟨RJ9, "min", "(II)I"⟩
def RJ0 : String := "java/lang/String"
def TJ0 : u_T := fun k => match k with
  | _ => ("", "", "", false)
def tyJ0 : Nat → FieldType := fun k => match k with
  | _ => .int
abbrev wsJ00 : List Cond := u_ws RJ0 TJ0 0
theorem nmJ0 : ∀ a, a < 0 → ∀ b, b < 0 → a ≠ b → (TJ0 a).2.1 ≠ (TJ0 b).2.1 := by decide +kernel
theorem tyJ0_ok : ∀ k, k < 0 → parseFieldDescriptor (TJ0 k).2.2.1 = some (tyJ0 k) := by decide +kernel
def RJ10 : String := "java/lang/System"
def TJ10 : u_T := fun k => match k with
  | _ => ("", "", "", false)
def tyJ10 : Nat → FieldType := fun k => match k with
  | _ => .int
abbrev wsJ100 : List Cond := u_ws RJ10 TJ10 0
theorem nmJ10 : ∀ a, a < 0 → ∀ b, b < 0 → a ≠ b → (TJ10 a).2.1 ≠ (TJ10 b).2.1 := by decide +kernel
theorem tyJ10_ok : ∀ k, k < 0 → parseFieldDescriptor (TJ10 k).2.2.1 = some (tyJ10 k) := by decide +kernel
def RL : String := "CallSumsLaw"
abbrev cL_cell : ByteArray := method_2_code
def yL_cell : MethodName := ⟨RL, "cell", "([II)I"⟩
abbrev cL_car : ByteArray := method_3_code
def yL_car : MethodName := ⟨RL, "car", "(LCallSums;II[J)I"⟩
abbrev cL_free : ByteArray := method_4_code
def yL_free : MethodName := ⟨RL, "free", "(LCallSums;III)I"⟩
abbrev cL_zone : ByteArray := method_5_code
def yL_zone : MethodName := ⟨RL, "zone", "(LCallSums;III)I"⟩
abbrev cL_sleep : ByteArray := method_6_code
def yL_sleep : MethodName := ⟨RL, "sleep", "(LCallSums;IZ[J)I"⟩
abbrev cL_call : ByteArray := method_7_code
def yL_call : MethodName := ⟨RL, "call", "(LCallSums;II[J)I"⟩
abbrev cL_urgent : ByteArray := method_8_code
def yL_urgent : MethodName := ⟨RL, "urgent", "(LCallSums;IZ[J)I"⟩
abbrev cL_begin : ByteArray := method_9_code
def yL_begin : MethodName := ⟨RL, "begin", "(LCallSums;II[J)I"⟩
abbrev cL_done : ByteArray := method_10_code
def yL_done : MethodName := ⟨RL, "done", "(LCallSums;I)I"⟩
abbrev cL_pass : ByteArray := method_11_code
def yL_pass : MethodName := ⟨RL, "pass", "(LCallSums;I[J)I"⟩
abbrev cL_carOf : ByteArray := method_12_code
def yL_carOf : MethodName := ⟨RL, "carOf", "(LCallSums;I[J)I"⟩
abbrev cL_turn : ByteArray := method_13_code
def yL_turn : MethodName := ⟨RL, "turn", "(LCallSums;II[J)I"⟩
abbrev cL_told : ByteArray := method_14_code
def yL_told : MethodName := ⟨RL, "told", "(LCallSums;II[J)I"⟩
abbrev cL_cars : ByteArray := method_15_code
def yL_cars : MethodName := ⟨RL, "cars", "(LCallSums;I[J)I"⟩
abbrev cL_weight : ByteArray := method_16_code
def yL_weight : MethodName := ⟨RL, "weight", "(LCallSums;I[J)I"⟩
abbrev cL_law : ByteArray := code
def yL_law : MethodName := ⟨RL, "law", "([I)Z"⟩
abbrev vwCl : List vw_C := [(RX0, TX0, 15), (RX1, TX1, 7), (RX2, TX2, 6), (RX3, TX3, 6), (RX4, TX4, 8), (RX5, TX5, 31)]
/-- the tables' words that stay -/
def UW : List Cond := lw_tbl.filter goodWord
theorem uw_good : ∀ w ∈ UW, ((w.onTables && w.keeps) = true ∨ ∃ ty, w = .arrayClass ty) := fun w h => good_of_word (List.mem_filter.mp h).2
theorem uw_in : ∀ w ∈ UW, w ∈ lw_tbl := fun w h => (List.mem_filter.mp h).1
theorem mt1 {i : Nat} {w : Cond} (h : tables_1_1[i]? = some w) (hg : goodWord w = true) : w ∈ UW := List.mem_filter.mpr ⟨List.mem_append_right _ (List.mem_append_left _ (List.mem_of_getElem? h)), hg⟩
theorem mt2 {i : Nat} {w : Cond} (h : tables_1_2[i]? = some w) (hg : goodWord w = true) : w ∈ UW := List.mem_filter.mpr ⟨List.mem_append_right _ (List.mem_append_right _ (List.mem_append_left _ (List.mem_of_getElem? h))), hg⟩
theorem mt3 {i : Nat} {w : Cond} (h : tables_1_3[i]? = some w) (hg : goodWord w = true) : w ∈ UW := List.mem_filter.mpr ⟨List.mem_append_right _ (List.mem_append_right _ (List.mem_append_right _ (List.mem_append_left _ (List.mem_of_getElem? h)))), hg⟩
theorem mt4 {i : Nat} {w : Cond} (h : tables_1_4[i]? = some w) (hg : goodWord w = true) : w ∈ UW := List.mem_filter.mpr ⟨List.mem_append_right _ (List.mem_append_right _ (List.mem_append_right _ (List.mem_append_right _ (List.mem_of_getElem? h)))), hg⟩
theorem mp1 {i : Nat} {q : MethodName × Nat} (h : lw_privs_1[i]? = some q) : Cond.selects q.1.cls q.1 q.1 ∈ UW := List.mem_filter.mpr ⟨List.mem_append_left _ (List.mem_map.mpr ⟨q, List.mem_append_left _ (List.mem_of_getElem? h), rfl⟩), rfl⟩
theorem mp2 {i : Nat} {q : MethodName × Nat} (h : lw_privs_2[i]? = some q) : Cond.selects q.1.cls q.1 q.1 ∈ UW := List.mem_filter.mpr ⟨List.mem_append_left _ (List.mem_map.mpr ⟨q, List.mem_append_right _ (List.mem_of_getElem? h), rfl⟩), rfl⟩
abbrev Mi : Type := MethodName × ByteArray × Nat × Option FieldType
abbrev miX4_init : Mi := (yX4_init, cX4_init, 2, none)
abbrev miX0_init : Mi := (yX0_init, cX0_init, 1, none)
abbrev miX0_clearRows : Mi := (yX0_clearRows, cX0_clearRows, 2, none)
abbrev miJ9_min_7cf53 : Mi := (yJ9_min_7cf53, cJ9_min_7cf53, 2, (some .int))
abbrev miJ9_max_7cf53 : Mi := (yJ9_max_7cf53, cJ9_max_7cf53, 2, (some .int))
abbrev miX4_give : Mi := (yX4_give, cX4_give, 6, (some .long))
abbrev miX0_clear : Mi := (yX0_clear, cX0_clear, 1, none)
abbrev miX4_ableCars : Mi := (yX4_ableCars, cX4_ableCars, 6, (some .int))
abbrev miX1_reaches : Mi := (yX1_reaches, cX1_reaches, 2, (some .boolean))
abbrev miX1_within : Mi := (yX1_within, cX1_within, 2, (some .boolean))
abbrev miX4_weightNow : Mi := (yX4_weightNow, cX4_weightNow, 3, (some .int))
abbrev miX0_add : Mi := (yX0_add, cX0_add, 4, none)
abbrev miX0_make : Mi := (yX0_make, cX0_make, 5, (some .long))
abbrev miX0_weighSets : Mi := (yX0_weighSets, cX0_weighSets, 3, none)
abbrev miX3_weigh : Mi := (yX3_weigh, cX3_weigh, 8, none)
abbrev miX0_begunSlot : Mi := (yX0_begunSlot, cX0_begunSlot, 3, (some .int))
abbrev miX0_slotsFor : Mi := (yX0_slotsFor, cX0_slotsFor, 4, (some .int))
abbrev miX3_choose : Mi := (yX3_choose, cX3_choose, 12, none)
abbrev miX3_cell : Mi := (yX3_cell, cX3_cell, 2, (some .int))
abbrev miX3_secondsTo : Mi := (yX3_secondsTo, cX3_secondsTo, 4, (some .int))
abbrev miJ9_abs_0f7a4 : Mi := (yJ9_abs_0f7a4, cJ9_abs_0f7a4, 1, (some .int))
abbrev miX3_secondsWith : Mi := (yX3_secondsWith, cX3_secondsWith, 3, (some .int))
abbrev miX3_firsts : Mi := (yX3_firsts, cX3_firsts, 2, (some .int))
abbrev miX0_place : Mi := (yX0_place, cX0_place, 11, none)
abbrev miX0_keep : Mi := (yX0_keep, cX0_keep, 3, none)
abbrev miX3_costOf : Mi := (yX3_costOf, cX3_costOf, 2, (some .long))
abbrev miX0_tell : Mi := (yX0_tell, cX0_tell, 8, none)
abbrev miX3_firstOf : Mi := (yX3_firstOf, cX3_firstOf, 3, (some .int))
abbrev miX4_left : Mi := (yX4_left, cX4_left, 6, (some .int))
abbrev miX4_open : Mi := (yX4_open, cX4_open, 1, (some .int))
abbrev miL_cell : Mi := (yL_cell, cL_cell, 2, (some .int))
abbrev miX4_car : Mi := (yX4_car, cX4_car, 3, (some .int))
abbrev miX4_isFloor : Mi := (yX4_isFloor, cX4_isFloor, 2, (some .boolean))
abbrev miX1_init : Mi := (yX1_init, cX1_init, 4, none)
abbrev miX3_init : Mi := (yX3_init, cX3_init, 1, none)
abbrev miX4_free : Mi := (yX4_free, cX4_free, 5, none)
abbrev miX4_liftOf : Mi := (yX4_liftOf, cX4_liftOf, 2, (some (.object "CallSums$Lift")))
abbrev miX4_zone : Mi := (yX4_zone, cX4_zone, 5, none)
abbrev miX4_sleep : Mi := (yX4_sleep, cX4_sleep, 5, (some .boolean))
abbrev miX4_call : Mi := (yX4_call, cX4_call, 3, (some .int))
abbrev miX2_init : Mi := (yX2_init, cX2_init, 5, none)
abbrev miX4_urgent : Mi := (yX4_urgent, cX4_urgent, 5, (some .boolean))
abbrev miX4_openRide : Mi := (yX4_openRide, cX4_openRide, 6, (some (.object "CallSums$Ride")))
abbrev miX4_begin : Mi := (yX4_begin, cX4_begin, 5, (some .boolean))
abbrev miX4_hasBegunAnother : Mi := (yX4_hasBegunAnother, cX4_hasBegunAnother, 7, (some .boolean))
abbrev miX4_done : Mi := (yX4_done, cX4_done, 2, none)
abbrev miX4_dropRide : Mi := (yX4_dropRide, cX4_dropRide, 5, none)
abbrev miX4_pass : Mi := (yX4_pass, cX4_pass, 2, (some .int))
abbrev miX4_carOf : Mi := (yX4_carOf, cX4_carOf, 3, (some .int))
abbrev miX4_wasCalled : Mi := (yX4_wasCalled, cX4_wasCalled, 2, (some .boolean))
abbrev miX0_slotOf : Mi := (yX0_slotOf, cX0_slotOf, 3, (some .int))
abbrev miX4_turn : Mi := (yX4_turn, cX4_turn, 3, (some .int))
abbrev miX0_inRow : Mi := (yX0_inRow, cX0_inRow, 3, (some .int))
abbrev miX4_told : Mi := (yX4_told, cX4_told, 4, (some .int))
abbrev miX4_cars : Mi := (yX4_cars, cX4_cars, 3, (some .int))
abbrev miX4_weight : Mi := (yX4_weight, cX4_weight, 3, (some .int))
abbrev miX5_init : Mi := (yX5_init, cX5_init, 3, none)
abbrev miX5_thrown : Mi := (yX5_thrown, cX5_thrown, 1, (some .int))
abbrev miX5_car : Mi := (yX5_car, cX5_car, 3, (some .int))
abbrev miX5_isFloor : Mi := (yX5_isFloor, cX5_isFloor, 2, (some .boolean))
abbrev miX5_isIn : Mi := (yX5_isIn, cX5_isIn, 3, (some .boolean))
abbrev miX5_free : Mi := (yX5_free, cX5_free, 4, none)
abbrev miX5_isCar : Mi := (yX5_isCar, cX5_isCar, 2, (some .boolean))
abbrev miX5_zone : Mi := (yX5_zone, cX5_zone, 4, none)
abbrev miX5_sleep : Mi := (yX5_sleep, cX5_sleep, 4, (some .boolean))
abbrev miX5_call : Mi := (yX5_call, cX5_call, 3, (some .int))
abbrev miX5_urgent : Mi := (yX5_urgent, cX5_urgent, 4, (some .boolean))
abbrev miX5_isOpenCall : Mi := (yX5_isOpenCall, cX5_isOpenCall, 2, (some .boolean))
abbrev miX5_begin : Mi := (yX5_begin, cX5_begin, 5, (some .boolean))
abbrev miX5_isWithin : Mi := (yX5_isWithin, cX5_isWithin, 3, (some .boolean))
abbrev miX5_done : Mi := (yX5_done, cX5_done, 2, none)
abbrev miX5_pass : Mi := (yX5_pass, cX5_pass, 2, (some .int))
abbrev miX5_give : Mi := (yX5_give, cX5_give, 10, (some .long))
abbrev miX5_carsOf : Mi := (yX5_carsOf, cX5_carsOf, 5, (some .int))
abbrev miX5_findRows : Mi := (yX5_findRows, cX5_findRows, 10, none)
abbrev miX5_sumOf : Mi := (yX5_sumOf, cX5_sumOf, 12, (some .long))
abbrev miX5_way : Mi := (yX5_way, cX5_way, 2, (some .int))
abbrev miX5_weightOf : Mi := (yX5_weightOf, cX5_weightOf, 2, (some .int))
abbrev miX5_nextOrder : Mi := (yX5_nextOrder, cX5_nextOrder, 7, (some .boolean))
abbrev miX5_deal : Mi := (yX5_deal, cX5_deal, 4, none)
abbrev miX5_setOf : Mi := (yX5_setOf, cX5_setOf, 4, (some .int))
abbrev miX5_carOf : Mi := (yX5_carOf, cX5_carOf, 2, (some .int))
abbrev miX5_wasCall : Mi := (yX5_wasCall, cX5_wasCall, 2, (some .boolean))
abbrev miX5_turn : Mi := (yX5_turn, cX5_turn, 3, (some .int))
abbrev miX5_told : Mi := (yX5_told, cX5_told, 3, (some .int))
abbrev miX5_left : Mi := (yX5_left, cX5_left, 3, (some .int))
abbrev miX5_cars : Mi := (yX5_cars, cX5_cars, 2, (some .int))
abbrev miX5_open : Mi := (yX5_open, cX5_open, 1, (some .int))
abbrev miX5_weight : Mi := (yX5_weight, cX5_weight, 2, (some .int))
/-- the link of a field: own's pool entry idx is field kf of class ci, of type ty, final or not -/
def FL (own : String) (idx ci kf : Nat) (ty : FieldType) (fin : Bool) : Prop := ∃ (C : String) (T : u_T) (N : Nat), vwCl[ci]? = some (C, T, N) ∧ kf < N ∧ Cond.fieldLink own idx C (T kf).2.1 (T kf).2.2.1 ∈ UW ∧ parseFieldDescriptor (T kf).2.2.1 = some ty ∧ (T kf).2.2.2 = fin ∧ (T kf).1 = C
theorem fX0_9 : FL RX0 9 0 0 (.array .int) true := ⟨RX0, TX0, 15, rfl, by decide, mt1 (i := 36) rfl rfl, by decide +kernel, rfl, rfl⟩
theorem fX3_75 : FL RX3 75 0 0 (.array .int) true := ⟨RX0, TX0, 15, rfl, by decide, mt1 (i := 37) rfl rfl, by decide +kernel, rfl, rfl⟩
theorem fX0_15 : FL RX0 15 0 1 (.array .int) true := ⟨RX0, TX0, 15, rfl, by decide, mt1 (i := 38) rfl rfl, by decide +kernel, rfl, rfl⟩
theorem fX3_72 : FL RX3 72 0 1 (.array .int) true := ⟨RX0, TX0, 15, rfl, by decide, mt1 (i := 39) rfl rfl, by decide +kernel, rfl, rfl⟩
theorem fX0_18 : FL RX0 18 0 2 (.array .int) true := ⟨RX0, TX0, 15, rfl, by decide, mt1 (i := 40) rfl rfl, by decide +kernel, rfl, rfl⟩
theorem fX3_66 : FL RX3 66 0 2 (.array .int) true := ⟨RX0, TX0, 15, rfl, by decide, mt1 (i := 41) rfl rfl, by decide +kernel, rfl, rfl⟩
theorem fX4_178 : FL RX4 178 0 2 (.array .int) true := ⟨RX0, TX0, 15, rfl, by decide, mt1 (i := 42) rfl rfl, by decide +kernel, rfl, rfl⟩
theorem fX0_21 : FL RX0 21 0 3 (.array .int) true := ⟨RX0, TX0, 15, rfl, by decide, mt1 (i := 43) rfl rfl, by decide +kernel, rfl, rfl⟩
theorem fX4_161 : FL RX4 161 0 3 (.array .int) true := ⟨RX0, TX0, 15, rfl, by decide, mt1 (i := 44) rfl rfl, by decide +kernel, rfl, rfl⟩
theorem fX0_24 : FL RX0 24 0 4 (.array .int) true := ⟨RX0, TX0, 15, rfl, by decide, mt1 (i := 45) rfl rfl, by decide +kernel, rfl, rfl⟩
theorem fX4_172 : FL RX4 172 0 4 (.array .int) true := ⟨RX0, TX0, 15, rfl, by decide, mt1 (i := 46) rfl rfl, by decide +kernel, rfl, rfl⟩
theorem fX0_27 : FL RX0 27 0 5 (.array .int) true := ⟨RX0, TX0, 15, rfl, by decide, mt1 (i := 47) rfl rfl, by decide +kernel, rfl, rfl⟩
theorem fX4_175 : FL RX4 175 0 5 (.array .int) true := ⟨RX0, TX0, 15, rfl, by decide, mt1 (i := 48) rfl rfl, by decide +kernel, rfl, rfl⟩
theorem fX0_32 : FL RX0 32 0 6 (.array .int) true := ⟨RX0, TX0, 15, rfl, by decide, mt1 (i := 49) rfl rfl, by decide +kernel, rfl, rfl⟩
theorem fX3_69 : FL RX3 69 0 6 (.array .int) true := ⟨RX0, TX0, 15, rfl, by decide, mt1 (i := 50) rfl rfl, by decide +kernel, rfl, rfl⟩
theorem fX0_56 : FL RX0 56 0 7 (.int) false := ⟨RX0, TX0, 15, rfl, by decide, mt1 (i := 51) rfl rfl, by decide +kernel, rfl, rfl⟩
theorem fX0_35 : FL RX0 35 0 8 (.array .int) true := ⟨RX0, TX0, 15, rfl, by decide, mt1 (i := 52) rfl rfl, by decide +kernel, rfl, rfl⟩
theorem fX0_38 : FL RX0 38 0 9 (.array .int) true := ⟨RX0, TX0, 15, rfl, by decide, mt1 (i := 53) rfl rfl, by decide +kernel, rfl, rfl⟩
theorem fX0_41 : FL RX0 41 0 10 (.array .int) true := ⟨RX0, TX0, 15, rfl, by decide, mt1 (i := 54) rfl rfl, by decide +kernel, rfl, rfl⟩
theorem fX0_44 : FL RX0 44 0 11 (.array .int) true := ⟨RX0, TX0, 15, rfl, by decide, mt1 (i := 55) rfl rfl, by decide +kernel, rfl, rfl⟩
theorem fX0_47 : FL RX0 47 0 12 (.array .int) true := ⟨RX0, TX0, 15, rfl, by decide, mt1 (i := 56) rfl rfl, by decide +kernel, rfl, rfl⟩
theorem fX0_50 : FL RX0 50 0 13 (.array .int) true := ⟨RX0, TX0, 15, rfl, by decide, mt1 (i := 57) rfl rfl, by decide +kernel, rfl, rfl⟩
theorem fX0_94 : FL RX0 94 0 14 (.long) false := ⟨RX0, TX0, 15, rfl, by decide, mt1 (i := 58) rfl rfl, by decide +kernel, rfl, rfl⟩
theorem fX4_37 : FL RX4 37 4 0 (.int) true := ⟨RX4, TX4, 8, rfl, by decide, mt1 (i := 97) rfl rfl, by decide +kernel, rfl, rfl⟩
theorem fX4_11 : FL RX4 11 4 1 (.array (.object "CallSums$Lift")) true := ⟨RX4, TX4, 8, rfl, by decide, mt1 (i := 98) rfl rfl, by decide +kernel, rfl, rfl⟩
theorem fX4_52 : FL RX4 52 4 2 (.int) false := ⟨RX4, TX4, 8, rfl, by decide, mt1 (i := 99) rfl rfl, by decide +kernel, rfl, rfl⟩
theorem fX4_17 : FL RX4 17 4 3 (.array (.object "CallSums$Ride")) true := ⟨RX4, TX4, 8, rfl, by decide, mt1 (i := 100) rfl rfl, by decide +kernel, rfl, rfl⟩
theorem fX4_92 : FL RX4 92 4 4 (.int) false := ⟨RX4, TX4, 8, rfl, by decide, mt1 (i := 101) rfl rfl, by decide +kernel, rfl, rfl⟩
theorem fX4_95 : FL RX4 95 4 5 (.int) false := ⟨RX4, TX4, 8, rfl, by decide, mt1 (i := 102) rfl rfl, by decide +kernel, rfl, rfl⟩
theorem fX4_100 : FL RX4 100 4 6 (.int) false := ⟨RX4, TX4, 8, rfl, by decide, mt1 (i := 103) rfl rfl, by decide +kernel, rfl, rfl⟩
theorem fX4_24 : FL RX4 24 4 7 (.object "CallSums$Giving") true := ⟨RX4, TX4, 8, rfl, by decide, mt1 (i := 104) rfl rfl, by decide +kernel, rfl, rfl⟩
theorem fX3_29 : FL RX3 29 3 0 (.int) false := ⟨RX3, TX3, 6, rfl, by decide, mt2 (i := 97) rfl rfl, by decide +kernel, rfl, rfl⟩
theorem fX3_33 : FL RX3 33 3 1 (.int) false := ⟨RX3, TX3, 6, rfl, by decide, mt2 (i := 98) rfl rfl, by decide +kernel, rfl, rfl⟩
theorem fX3_34 : FL RX3 34 3 2 (.int) false := ⟨RX3, TX3, 6, rfl, by decide, mt2 (i := 99) rfl rfl, by decide +kernel, rfl, rfl⟩
theorem fX3_43 : FL RX3 43 3 3 (.int) false := ⟨RX3, TX3, 6, rfl, by decide, mt2 (i := 100) rfl rfl, by decide +kernel, rfl, rfl⟩
theorem fX3_11 : FL RX3 11 3 4 (.array .long) true := ⟨RX3, TX3, 6, rfl, by decide, mt2 (i := 101) rfl rfl, by decide +kernel, rfl, rfl⟩
theorem fX3_15 : FL RX3 15 3 5 (.array .int) true := ⟨RX3, TX3, 6, rfl, by decide, mt2 (i := 102) rfl rfl, by decide +kernel, rfl, rfl⟩
theorem fX1_16 : FL RX1 16 1 0 (.int) true := ⟨RX1, TX1, 7, rfl, by decide, mt2 (i := 117) rfl rfl, by decide +kernel, rfl, rfl⟩
theorem fX3_23 : FL RX3 23 1 0 (.int) true := ⟨RX1, TX1, 7, rfl, by decide, mt2 (i := 118) rfl rfl, by decide +kernel, rfl, rfl⟩
theorem fX1_20 : FL RX1 20 1 1 (.int) false := ⟨RX1, TX1, 7, rfl, by decide, mt2 (i := 119) rfl rfl, by decide +kernel, rfl, rfl⟩
theorem fX4_70 : FL RX4 70 1 1 (.int) false := ⟨RX1, TX1, 7, rfl, by decide, mt2 (i := 120) rfl rfl, by decide +kernel, rfl, rfl⟩
theorem fX3_30 : FL RX3 30 1 1 (.int) false := ⟨RX1, TX1, 7, rfl, by decide, mt2 (i := 121) rfl rfl, by decide +kernel, rfl, rfl⟩
theorem fX4_73 : FL RX4 73 1 2 (.int) false := ⟨RX1, TX1, 7, rfl, by decide, mt2 (i := 122) rfl rfl, by decide +kernel, rfl, rfl⟩
theorem fX0_79 : FL RX0 79 1 2 (.int) false := ⟨RX1, TX1, 7, rfl, by decide, mt2 (i := 123) rfl rfl, by decide +kernel, rfl, rfl⟩
theorem fX1_38 : FL RX1 38 1 3 (.int) false := ⟨RX1, TX1, 7, rfl, by decide, mt2 (i := 124) rfl rfl, by decide +kernel, rfl, rfl⟩
theorem fX4_78 : FL RX4 78 1 3 (.int) false := ⟨RX1, TX1, 7, rfl, by decide, mt2 (i := 125) rfl rfl, by decide +kernel, rfl, rfl⟩
theorem fX1_23 : FL RX1 23 1 4 (.int) false := ⟨RX1, TX1, 7, rfl, by decide, mt2 (i := 126) rfl rfl, by decide +kernel, rfl, rfl⟩
theorem fX4_81 : FL RX4 81 1 4 (.int) false := ⟨RX1, TX1, 7, rfl, by decide, mt2 (i := 127) rfl rfl, by decide +kernel, rfl, rfl⟩
theorem fX4_86 : FL RX4 86 1 5 (.boolean) false := ⟨RX1, TX1, 7, rfl, by decide, mt2 (i := 128) rfl rfl, by decide +kernel, rfl, rfl⟩
theorem fX1_10 : FL RX1 10 1 6 (.object "CallSums$Rows") true := ⟨RX1, TX1, 7, rfl, by decide, mt2 (i := 129) rfl rfl, by decide +kernel, rfl, rfl⟩
theorem fX0_73 : FL RX0 73 1 6 (.object "CallSums$Rows") true := ⟨RX1, TX1, 7, rfl, by decide, mt2 (i := 130) rfl rfl, by decide +kernel, rfl, rfl⟩
theorem fX2_15 : FL RX2 15 2 0 (.int) true := ⟨RX2, TX2, 6, rfl, by decide, mt2 (i := 189) rfl rfl, by decide +kernel, rfl, rfl⟩
theorem fX0_60 : FL RX0 60 2 0 (.int) true := ⟨RX2, TX2, 6, rfl, by decide, mt2 (i := 190) rfl rfl, by decide +kernel, rfl, rfl⟩
theorem fX4_181 : FL RX4 181 2 0 (.int) true := ⟨RX2, TX2, 6, rfl, by decide, mt2 (i := 191) rfl rfl, by decide +kernel, rfl, rfl⟩
theorem fX2_18 : FL RX2 18 2 1 (.int) true := ⟨RX2, TX2, 6, rfl, by decide, mt2 (i := 192) rfl rfl, by decide +kernel, rfl, rfl⟩
theorem fX1_26 : FL RX1 26 2 1 (.int) true := ⟨RX2, TX2, 6, rfl, by decide, mt2 (i := 193) rfl rfl, by decide +kernel, rfl, rfl⟩
theorem fX0_64 : FL RX0 64 2 1 (.int) true := ⟨RX2, TX2, 6, rfl, by decide, mt2 (i := 194) rfl rfl, by decide +kernel, rfl, rfl⟩
theorem fX2_21 : FL RX2 21 2 2 (.int) true := ⟨RX2, TX2, 6, rfl, by decide, mt2 (i := 195) rfl rfl, by decide +kernel, rfl, rfl⟩
theorem fX1_35 : FL RX1 35 2 2 (.int) true := ⟨RX2, TX2, 6, rfl, by decide, mt2 (i := 196) rfl rfl, by decide +kernel, rfl, rfl⟩
theorem fX0_66 : FL RX0 66 2 2 (.int) true := ⟨RX2, TX2, 6, rfl, by decide, mt2 (i := 197) rfl rfl, by decide +kernel, rfl, rfl⟩
theorem fX2_24 : FL RX2 24 2 3 (.int) true := ⟨RX2, TX2, 6, rfl, by decide, mt2 (i := 198) rfl rfl, by decide +kernel, rfl, rfl⟩
theorem fX4_184 : FL RX4 184 2 3 (.int) true := ⟨RX2, TX2, 6, rfl, by decide, mt2 (i := 199) rfl rfl, by decide +kernel, rfl, rfl⟩
theorem fX4_112 : FL RX4 112 2 4 (.boolean) false := ⟨RX2, TX2, 6, rfl, by decide, mt2 (i := 200) rfl rfl, by decide +kernel, rfl, rfl⟩
theorem fX2_9 : FL RX2 9 2 5 (.int) false := ⟨RX2, TX2, 6, rfl, by decide, mt2 (i := 201) rfl rfl, by decide +kernel, rfl, rfl⟩
theorem fX0_68 : FL RX0 68 2 5 (.int) false := ⟨RX2, TX2, 6, rfl, by decide, mt2 (i := 202) rfl rfl, by decide +kernel, rfl, rfl⟩
theorem fX4_125 : FL RX4 125 2 5 (.int) false := ⟨RX2, TX2, 6, rfl, by decide, mt2 (i := 203) rfl rfl, by decide +kernel, rfl, rfl⟩
theorem fX5_88 : FL RX5 88 5 0 (.int) false := ⟨RX5, TX5, 31, rfl, by decide, mt3 (i := 76) rfl rfl, by decide +kernel, rfl, rfl⟩
theorem fX5_84 : FL RX5 84 5 1 (.int) true := ⟨RX5, TX5, 31, rfl, by decide, mt3 (i := 77) rfl rfl, by decide +kernel, rfl, rfl⟩
theorem fX5_105 : FL RX5 105 5 2 (.int) false := ⟨RX5, TX5, 31, rfl, by decide, mt3 (i := 78) rfl rfl, by decide +kernel, rfl, rfl⟩
theorem fX5_95 : FL RX5 95 5 3 (.int) false := ⟨RX5, TX5, 31, rfl, by decide, mt3 (i := 79) rfl rfl, by decide +kernel, rfl, rfl⟩
theorem fX5_7 : FL RX5 7 5 4 (.array .int) true := ⟨RX5, TX5, 31, rfl, by decide, mt3 (i := 80) rfl rfl, by decide +kernel, rfl, rfl⟩
theorem fX5_13 : FL RX5 13 5 5 (.array .int) true := ⟨RX5, TX5, 31, rfl, by decide, mt3 (i := 81) rfl rfl, by decide +kernel, rfl, rfl⟩
theorem fX5_16 : FL RX5 16 5 6 (.array .int) true := ⟨RX5, TX5, 31, rfl, by decide, mt3 (i := 82) rfl rfl, by decide +kernel, rfl, rfl⟩
theorem fX5_19 : FL RX5 19 5 7 (.array .int) true := ⟨RX5, TX5, 31, rfl, by decide, mt3 (i := 83) rfl rfl, by decide +kernel, rfl, rfl⟩
theorem fX5_22 : FL RX5 22 5 8 (.array .int) true := ⟨RX5, TX5, 31, rfl, by decide, mt3 (i := 84) rfl rfl, by decide +kernel, rfl, rfl⟩
theorem fX5_25 : FL RX5 25 5 9 (.array .boolean) true := ⟨RX5, TX5, 31, rfl, by decide, mt3 (i := 85) rfl rfl, by decide +kernel, rfl, rfl⟩
theorem fX5_98 : FL RX5 98 5 10 (.int) false := ⟨RX5, TX5, 31, rfl, by decide, mt3 (i := 86) rfl rfl, by decide +kernel, rfl, rfl⟩
theorem fX5_29 : FL RX5 29 5 11 (.array .int) true := ⟨RX5, TX5, 31, rfl, by decide, mt3 (i := 87) rfl rfl, by decide +kernel, rfl, rfl⟩
theorem fX5_32 : FL RX5 32 5 12 (.array .int) true := ⟨RX5, TX5, 31, rfl, by decide, mt3 (i := 88) rfl rfl, by decide +kernel, rfl, rfl⟩
theorem fX5_35 : FL RX5 35 5 13 (.array .int) true := ⟨RX5, TX5, 31, rfl, by decide, mt3 (i := 89) rfl rfl, by decide +kernel, rfl, rfl⟩
theorem fX5_38 : FL RX5 38 5 14 (.array .boolean) true := ⟨RX5, TX5, 31, rfl, by decide, mt3 (i := 90) rfl rfl, by decide +kernel, rfl, rfl⟩
theorem fX5_41 : FL RX5 41 5 15 (.array .boolean) true := ⟨RX5, TX5, 31, rfl, by decide, mt3 (i := 91) rfl rfl, by decide +kernel, rfl, rfl⟩
theorem fX5_44 : FL RX5 44 5 16 (.array .int) true := ⟨RX5, TX5, 31, rfl, by decide, mt3 (i := 92) rfl rfl, by decide +kernel, rfl, rfl⟩
theorem fX5_112 : FL RX5 112 5 17 (.int) false := ⟨RX5, TX5, 31, rfl, by decide, mt3 (i := 93) rfl rfl, by decide +kernel, rfl, rfl⟩
theorem fX5_47 : FL RX5 47 5 18 (.array .int) true := ⟨RX5, TX5, 31, rfl, by decide, mt3 (i := 94) rfl rfl, by decide +kernel, rfl, rfl⟩
theorem fX5_50 : FL RX5 50 5 19 (.array .int) true := ⟨RX5, TX5, 31, rfl, by decide, mt3 (i := 95) rfl rfl, by decide +kernel, rfl, rfl⟩
theorem fX5_53 : FL RX5 53 5 20 (.array .int) true := ⟨RX5, TX5, 31, rfl, by decide, mt3 (i := 96) rfl rfl, by decide +kernel, rfl, rfl⟩
theorem fX5_56 : FL RX5 56 5 21 (.array .int) true := ⟨RX5, TX5, 31, rfl, by decide, mt3 (i := 97) rfl rfl, by decide +kernel, rfl, rfl⟩
theorem fX5_59 : FL RX5 59 5 22 (.array .int) true := ⟨RX5, TX5, 31, rfl, by decide, mt3 (i := 98) rfl rfl, by decide +kernel, rfl, rfl⟩
theorem fX5_62 : FL RX5 62 5 23 (.array .int) true := ⟨RX5, TX5, 31, rfl, by decide, mt3 (i := 99) rfl rfl, by decide +kernel, rfl, rfl⟩
theorem fX5_130 : FL RX5 130 5 24 (.int) false := ⟨RX5, TX5, 31, rfl, by decide, mt3 (i := 100) rfl rfl, by decide +kernel, rfl, rfl⟩
theorem fX5_65 : FL RX5 65 5 25 (.array .int) true := ⟨RX5, TX5, 31, rfl, by decide, mt3 (i := 101) rfl rfl, by decide +kernel, rfl, rfl⟩
theorem fX5_68 : FL RX5 68 5 26 (.array .int) true := ⟨RX5, TX5, 31, rfl, by decide, mt3 (i := 102) rfl rfl, by decide +kernel, rfl, rfl⟩
theorem fX5_71 : FL RX5 71 5 27 (.array .long) true := ⟨RX5, TX5, 31, rfl, by decide, mt3 (i := 103) rfl rfl, by decide +kernel, rfl, rfl⟩
theorem fX5_75 : FL RX5 75 5 28 (.array .int) true := ⟨RX5, TX5, 31, rfl, by decide, mt3 (i := 104) rfl rfl, by decide +kernel, rfl, rfl⟩
theorem fX5_78 : FL RX5 78 5 29 (.array .int) true := ⟨RX5, TX5, 31, rfl, by decide, mt3 (i := 105) rfl rfl, by decide +kernel, rfl, rfl⟩
theorem fX5_81 : FL RX5 81 5 30 (.array .int) true := ⟨RX5, TX5, 31, rfl, by decide, mt3 (i := 106) rfl rfl, by decide +kernel, rfl, rfl⟩
theorem inlX0 : ∀ w ∈ wsX00, w ∈ UW := List.forall_mem_cons.mpr ⟨mt1 (i := 59) rfl rfl, List.forall_mem_cons.mpr ⟨mt1 (i := 61) rfl rfl, List.forall_mem_cons.mpr ⟨mt1 (i := 63) rfl rfl, List.forall_mem_cons.mpr ⟨mt1 (i := 65) rfl rfl, List.forall_mem_cons.mpr ⟨mt1 (i := 67) rfl rfl, List.forall_mem_cons.mpr ⟨mt1 (i := 69) rfl rfl, List.forall_mem_cons.mpr ⟨mt1 (i := 71) rfl rfl, List.forall_mem_cons.mpr ⟨mt1 (i := 73) rfl rfl, List.forall_mem_cons.mpr ⟨mt1 (i := 75) rfl rfl, List.forall_mem_cons.mpr ⟨mt1 (i := 77) rfl rfl, List.forall_mem_cons.mpr ⟨mt1 (i := 79) rfl rfl, List.forall_mem_cons.mpr ⟨mt1 (i := 81) rfl rfl, List.forall_mem_cons.mpr ⟨mt1 (i := 83) rfl rfl, List.forall_mem_cons.mpr ⟨mt1 (i := 85) rfl rfl, List.forall_mem_cons.mpr ⟨mt1 (i := 87) rfl rfl, fun _ h => (List.not_mem_nil h).elim⟩⟩⟩⟩⟩⟩⟩⟩⟩⟩⟩⟩⟩⟩⟩
theorem inlX1 : ∀ w ∈ wsX10, w ∈ UW := List.forall_mem_cons.mpr ⟨mt2 (i := 131) rfl rfl, List.forall_mem_cons.mpr ⟨mt2 (i := 133) rfl rfl, List.forall_mem_cons.mpr ⟨mt2 (i := 135) rfl rfl, List.forall_mem_cons.mpr ⟨mt2 (i := 137) rfl rfl, List.forall_mem_cons.mpr ⟨mt2 (i := 139) rfl rfl, List.forall_mem_cons.mpr ⟨mt2 (i := 141) rfl rfl, List.forall_mem_cons.mpr ⟨mt2 (i := 143) rfl rfl, fun _ h => (List.not_mem_nil h).elim⟩⟩⟩⟩⟩⟩⟩
theorem inlX2 : ∀ w ∈ wsX20, w ∈ UW := List.forall_mem_cons.mpr ⟨mt2 (i := 204) rfl rfl, List.forall_mem_cons.mpr ⟨mt2 (i := 206) rfl rfl, List.forall_mem_cons.mpr ⟨mt2 (i := 208) rfl rfl, List.forall_mem_cons.mpr ⟨mt2 (i := 210) rfl rfl, List.forall_mem_cons.mpr ⟨mt2 (i := 212) rfl rfl, List.forall_mem_cons.mpr ⟨mt2 (i := 214) rfl rfl, fun _ h => (List.not_mem_nil h).elim⟩⟩⟩⟩⟩⟩
theorem inlX3 : ∀ w ∈ wsX30, w ∈ UW := List.forall_mem_cons.mpr ⟨mt2 (i := 103) rfl rfl, List.forall_mem_cons.mpr ⟨mt2 (i := 105) rfl rfl, List.forall_mem_cons.mpr ⟨mt2 (i := 107) rfl rfl, List.forall_mem_cons.mpr ⟨mt2 (i := 109) rfl rfl, List.forall_mem_cons.mpr ⟨mt2 (i := 111) rfl rfl, List.forall_mem_cons.mpr ⟨mt2 (i := 113) rfl rfl, fun _ h => (List.not_mem_nil h).elim⟩⟩⟩⟩⟩⟩
theorem inlX4 : ∀ w ∈ wsX40, w ∈ UW := List.forall_mem_cons.mpr ⟨mt1 (i := 105) rfl rfl, List.forall_mem_cons.mpr ⟨mt1 (i := 107) rfl rfl, List.forall_mem_cons.mpr ⟨mt1 (i := 109) rfl rfl, List.forall_mem_cons.mpr ⟨mt1 (i := 111) rfl rfl, List.forall_mem_cons.mpr ⟨mt1 (i := 113) rfl rfl, List.forall_mem_cons.mpr ⟨mt1 (i := 115) rfl rfl, List.forall_mem_cons.mpr ⟨mt1 (i := 117) rfl rfl, List.forall_mem_cons.mpr ⟨mt1 (i := 119) rfl rfl, fun _ h => (List.not_mem_nil h).elim⟩⟩⟩⟩⟩⟩⟩⟩
theorem inlX5 : ∀ w ∈ wsX50, w ∈ UW := List.forall_mem_cons.mpr ⟨mt3 (i := 107) rfl rfl, List.forall_mem_cons.mpr ⟨mt3 (i := 109) rfl rfl, List.forall_mem_cons.mpr ⟨mt3 (i := 111) rfl rfl, List.forall_mem_cons.mpr ⟨mt3 (i := 113) rfl rfl, List.forall_mem_cons.mpr ⟨mt3 (i := 115) rfl rfl, List.forall_mem_cons.mpr ⟨mt3 (i := 117) rfl rfl, List.forall_mem_cons.mpr ⟨mt3 (i := 119) rfl rfl, List.forall_mem_cons.mpr ⟨mt3 (i := 121) rfl rfl, List.forall_mem_cons.mpr ⟨mt3 (i := 123) rfl rfl, List.forall_mem_cons.mpr ⟨mt3 (i := 125) rfl rfl, List.forall_mem_cons.mpr ⟨mt3 (i := 127) rfl rfl, List.forall_mem_cons.mpr ⟨mt3 (i := 129) rfl rfl, List.forall_mem_cons.mpr ⟨mt3 (i := 131) rfl rfl, List.forall_mem_cons.mpr ⟨mt3 (i := 133) rfl rfl, List.forall_mem_cons.mpr ⟨mt3 (i := 135) rfl rfl, List.forall_mem_cons.mpr ⟨mt3 (i := 137) rfl rfl, List.forall_mem_cons.mpr ⟨mt3 (i := 139) rfl rfl, List.forall_mem_cons.mpr ⟨mt3 (i := 141) rfl rfl, List.forall_mem_cons.mpr ⟨mt3 (i := 143) rfl rfl, List.forall_mem_cons.mpr ⟨mt3 (i := 145) rfl rfl, List.forall_mem_cons.mpr ⟨mt3 (i := 147) rfl rfl, List.forall_mem_cons.mpr ⟨mt3 (i := 149) rfl rfl, List.forall_mem_cons.mpr ⟨mt3 (i := 151) rfl rfl, List.forall_mem_cons.mpr ⟨mt3 (i := 153) rfl rfl, List.forall_mem_cons.mpr ⟨mt3 (i := 155) rfl rfl, List.forall_mem_cons.mpr ⟨mt3 (i := 157) rfl rfl, List.forall_mem_cons.mpr ⟨mt3 (i := 159) rfl rfl, List.forall_mem_cons.mpr ⟨mt3 (i := 161) rfl rfl, List.forall_mem_cons.mpr ⟨mt3 (i := 163) rfl rfl, List.forall_mem_cons.mpr ⟨mt3 (i := 165) rfl rfl, List.forall_mem_cons.mpr ⟨mt3 (i := 167) rfl rfl, fun _ h => (List.not_mem_nil h).elim⟩⟩⟩⟩⟩⟩⟩⟩⟩⟩⟩⟩⟩⟩⟩⟩⟩⟩⟩⟩⟩⟩⟩⟩⟩⟩⟩⟩⟩⟩⟩
theorem cls_in : ∀ {ci : Nat} {C : String} {T : u_T} {N : Nat}, vwCl[ci]? = some (C, T, N) → ∀ w ∈ u_ws C T N, w ∈ UW
  | 0, _, _, _, h => by cases h; exact inlX0
  | 1, _, _, _, h => by cases h; exact inlX1
  | 2, _, _, _, h => by cases h; exact inlX2
  | 3, _, _, _, h => by cases h; exact inlX3
  | 4, _, _, _, h => by cases h; exact inlX4
  | 5, _, _, _, h => by cases h; exact inlX5
  | n + 6, _, _, _, h => by simp [vwCl] at h
theorem cls_nm : ∀ {ci : Nat} {C : String} {T : u_T} {N : Nat}, vwCl[ci]? = some (C, T, N) → ∀ a, a < N → ∀ b, b < N → a ≠ b → (T a).2.1 ≠ (T b).2.1
  | 0, _, _, _, h => by cases h; exact nmX0
  | 1, _, _, _, h => by cases h; exact nmX1
  | 2, _, _, _, h => by cases h; exact nmX2
  | 3, _, _, _, h => by cases h; exact nmX3
  | 4, _, _, _, h => by cases h; exact nmX4
  | 5, _, _, _, h => by cases h; exact nmX5
  | n + 6, _, _, _, h => by simp [vwCl] at h
theorem cls_ty : ∀ {ci : Nat} {C : String} {T : u_T} {N : Nat}, vwCl[ci]? = some (C, T, N) → ∃ ty : Nat → FieldType, ∀ k, k < N → parseFieldDescriptor (T k).2.2.1 = some (ty k)
  | 0, _, _, _, h => by cases h; exact ⟨tyX0, tyX0_ok⟩
  | 1, _, _, _, h => by cases h; exact ⟨tyX1, tyX1_ok⟩
  | 2, _, _, _, h => by cases h; exact ⟨tyX2, tyX2_ok⟩
  | 3, _, _, _, h => by cases h; exact ⟨tyX3, tyX3_ok⟩
  | 4, _, _, _, h => by cases h; exact ⟨tyX4, tyX4_ok⟩
  | 5, _, _, _, h => by cases h; exact ⟨tyX5, tyX5_ok⟩
  | n + 6, _, _, _, h => by simp [vwCl] at h
/-- the words of a call -/
def CV (own : String) (idx : Nat) (mi : Mi) (n : Nat) : Prop := Cond.methodLink own idx mi.1 ∈ UW ∧ Cond.instanceMethod mi.1 ∈ UW ∧ Cond.selects mi.1.cls mi.1 mi.1 ∈ UW ∧ Cond.initialized mi.1.cls ∈ UW ∧ Cond.code mi.1 mi.2.1 mi.2.2.1 mi.2.2.2 ∈ UW ∧ (mi.1.cls ≠ "java/lang/invoke/MethodHandle" ∧ mi.1.cls ≠ "java/lang/invoke/VarHandle") ∧ (parseMethodDescriptor mi.1.desc).map (fun d => d.parameters.length) = some n
def CSt (own : String) (idx : Nat) (mi : Mi) (n : Nat) : Prop := Cond.methodLink own idx mi.1 ∈ UW ∧ Cond.static mi.1 ∈ UW ∧ Cond.initialized mi.1.cls ∈ UW ∧ Cond.code mi.1 mi.2.1 mi.2.2.1 mi.2.2.2 ∈ UW ∧ (mi.1.cls ≠ "java/lang/invoke/MethodHandle" ∧ mi.1.cls ≠ "java/lang/invoke/VarHandle") ∧ (parseMethodDescriptor mi.1.desc).map (fun d => d.parameters.length) = some n
def CIn (own : String) (idx : Nat) (mi : Mi) (n : Nat) : Prop := Cond.methodLink own idx mi.1 ∈ UW ∧ Cond.instanceMethod mi.1 ∈ UW ∧ Cond.initialized mi.1.cls ∈ UW ∧ Cond.code mi.1 mi.2.1 mi.2.2.1 mi.2.2.2 ∈ UW ∧ (mi.1.cls ≠ "java/lang/invoke/MethodHandle" ∧ mi.1.cls ≠ "java/lang/invoke/VarHandle") ∧ (parseMethodDescriptor mi.1.desc).map (fun d => d.parameters.length) = some n
theorem kL_67 : CIn RL 67 miX4_init 1 := ⟨mt1 (i := 16) rfl rfl, mt1 (i := 17) rfl rfl, mt1 (i := 1) rfl rfl, mt1 (i := 18) rfl rfl, ⟨by decide +kernel, by decide +kernel⟩, by decide +kernel⟩
theorem kX4_23 : CIn RX4 23 miX0_init 0 := ⟨mt1 (i := 28) rfl rfl, mt1 (i := 29) rfl rfl, mt1 (i := 2) rfl rfl, mt1 (i := 30) rfl rfl, ⟨by decide +kernel, by decide +kernel⟩, by decide +kernel⟩
theorem kX0_53 : CV RX0 53 miX0_clearRows 0 := ⟨mt1 (i := 32) rfl rfl, mt1 (i := 34) rfl rfl, mp1 (i := 0) rfl, mt1 (i := 2) rfl rfl, mt1 (i := 35) rfl rfl, ⟨by decide +kernel, by decide +kernel⟩, by decide +kernel⟩
theorem kX4_28 : CSt RX4 28 miJ9_min_7cf53 2 := ⟨mt1 (i := 91) rfl rfl, mt1 (i := 92) rfl rfl, mt1 (i := 3) rfl rfl, mt1 (i := 93) rfl rfl, ⟨by decide +kernel, by decide +kernel⟩, by decide +kernel⟩
theorem kX4_34 : CSt RX4 34 miJ9_max_7cf53 2 := ⟨mt1 (i := 94) rfl rfl, mt1 (i := 95) rfl rfl, mt1 (i := 3) rfl rfl, mt1 (i := 96) rfl rfl, ⟨by decide +kernel, by decide +kernel⟩, by decide +kernel⟩
theorem kL_108 : CV RL 108 miX4_give 0 := ⟨mt1 (i := 122) rfl rfl, mt1 (i := 123) rfl rfl, mt1 (i := 124) rfl rfl, mt1 (i := 1) rfl rfl, mt1 (i := 125) rfl rfl, ⟨by decide +kernel, by decide +kernel⟩, by decide +kernel⟩
theorem kX4_134 : CV RX4 134 miX0_clear 0 := ⟨mt1 (i := 126) rfl rfl, mt1 (i := 127) rfl rfl, mt1 (i := 128) rfl rfl, mt1 (i := 2) rfl rfl, mt1 (i := 129) rfl rfl, ⟨by decide +kernel, by decide +kernel⟩, by decide +kernel⟩
theorem kX4_137 : CV RX4 137 miX4_ableCars 1 := ⟨mt1 (i := 130) rfl rfl, mt1 (i := 132) rfl rfl, mp1 (i := 1) rfl, mt1 (i := 1) rfl rfl, mt1 (i := 133) rfl rfl, ⟨by decide +kernel, by decide +kernel⟩, by decide +kernel⟩
theorem kX4_117 : CV RX4 117 miX1_reaches 1 := ⟨mt1 (i := 134) rfl rfl, mt1 (i := 135) rfl rfl, mt1 (i := 136) rfl rfl, mt1 (i := 10) rfl rfl, mt1 (i := 137) rfl rfl, ⟨by decide +kernel, by decide +kernel⟩, by decide +kernel⟩
theorem kX1_31 : CV RX1 31 miX1_within 1 := ⟨mt1 (i := 138) rfl rfl, mt1 (i := 140) rfl rfl, mp1 (i := 2) rfl, mt1 (i := 10) rfl rfl, mt1 (i := 142) rfl rfl, ⟨by decide +kernel, by decide +kernel⟩, by decide +kernel⟩
theorem kX4_141 : CV RX4 141 miX4_weightNow 1 := ⟨mt1 (i := 143) rfl rfl, mt1 (i := 145) rfl rfl, mp1 (i := 3) rfl, mt1 (i := 1) rfl rfl, mt1 (i := 146) rfl rfl, ⟨by decide +kernel, by decide +kernel⟩, by decide +kernel⟩
theorem kX4_144 : CV RX4 144 miX0_add 3 := ⟨mt1 (i := 147) rfl rfl, mt1 (i := 148) rfl rfl, mt1 (i := 149) rfl rfl, mt1 (i := 2) rfl rfl, mt1 (i := 150) rfl rfl, ⟨by decide +kernel, by decide +kernel⟩, by decide +kernel⟩
theorem kX4_148 : CV RX4 148 miX0_make 2 := ⟨mt1 (i := 151) rfl rfl, mt1 (i := 152) rfl rfl, mt1 (i := 153) rfl rfl, mt1 (i := 2) rfl rfl, mt1 (i := 154) rfl rfl, ⟨by decide +kernel, by decide +kernel⟩, by decide +kernel⟩
theorem kX0_70 : CV RX0 70 miX0_weighSets 0 := ⟨mt1 (i := 155) rfl rfl, mt1 (i := 157) rfl rfl, mp1 (i := 4) rfl, mt1 (i := 2) rfl rfl, mt1 (i := 158) rfl rfl, ⟨by decide +kernel, by decide +kernel⟩, by decide +kernel⟩
theorem kX0_82 : CSt RX0 82 miJ9_max_7cf53 2 := ⟨mt1 (i := 159) rfl rfl, mt1 (i := 95) rfl rfl, mt1 (i := 3) rfl rfl, mt1 (i := 96) rfl rfl, ⟨by decide +kernel, by decide +kernel⟩, by decide +kernel⟩
theorem kX0_88 : CV RX0 88 miX3_weigh 4 := ⟨mt1 (i := 160) rfl rfl, mt1 (i := 161) rfl rfl, mt1 (i := 162) rfl rfl, mt1 (i := 11) rfl rfl, mt1 (i := 163) rfl rfl, ⟨by decide +kernel, by decide +kernel⟩, by decide +kernel⟩
theorem kX3_37 : CV RX3 37 miX0_begunSlot 1 := ⟨mt1 (i := 164) rfl rfl, mt1 (i := 165) rfl rfl, mt1 (i := 166) rfl rfl, mt1 (i := 2) rfl rfl, mt1 (i := 167) rfl rfl, ⟨by decide +kernel, by decide +kernel⟩, by decide +kernel⟩
theorem kX3_46 : CV RX3 46 miX0_slotsFor 1 := ⟨mt1 (i := 168) rfl rfl, mt1 (i := 169) rfl rfl, mt1 (i := 170) rfl rfl, mt1 (i := 2) rfl rfl, mt1 (i := 171) rfl rfl, ⟨by decide +kernel, by decide +kernel⟩, by decide +kernel⟩
theorem kX3_49 : CV RX3 49 miX3_choose 4 := ⟨mt1 (i := 172) rfl rfl, mt1 (i := 174) rfl rfl, mp1 (i := 5) rfl, mt1 (i := 11) rfl rfl, mt1 (i := 176) rfl rfl, ⟨by decide +kernel, by decide +kernel⟩, by decide +kernel⟩
theorem kX3_19 : CSt RX3 19 miX3_cell 2 := ⟨mt1 (i := 177) rfl rfl, mt1 (i := 178) rfl rfl, mt1 (i := 11) rfl rfl, mt1 (i := 179) rfl rfl, ⟨by decide +kernel, by decide +kernel⟩, by decide +kernel⟩
theorem kX3_58 : CV RX3 58 miX3_secondsTo 3 := ⟨mt1 (i := 181) rfl rfl, mt1 (i := 182) rfl rfl, mt1 (i := 183) rfl rfl, mt1 (i := 11) rfl rfl, mt1 (i := 184) rfl rfl, ⟨by decide +kernel, by decide +kernel⟩, by decide +kernel⟩
theorem kX3_78 : CSt RX3 78 miJ9_abs_0f7a4 1 := ⟨mt1 (i := 185) rfl rfl, mt1 (i := 186) rfl rfl, mt1 (i := 3) rfl rfl, mt1 (i := 187) rfl rfl, ⟨by decide +kernel, by decide +kernel⟩, by decide +kernel⟩
theorem kX3_62 : CV RX3 62 miX3_secondsWith 2 := ⟨mt1 (i := 188) rfl rfl, mt1 (i := 189) rfl rfl, mt1 (i := 190) rfl rfl, mt1 (i := 11) rfl rfl, mt1 (i := 191) rfl rfl, ⟨by decide +kernel, by decide +kernel⟩, by decide +kernel⟩
theorem kX3_53 : CV RX3 53 miX3_firsts 1 := ⟨mt1 (i := 192) rfl rfl, mt1 (i := 194) rfl rfl, mp1 (i := 6) rfl, mt1 (i := 11) rfl rfl, mt1 (i := 195) rfl rfl, ⟨by decide +kernel, by decide +kernel⟩, by decide +kernel⟩
theorem kX0_98 : CSt RX0 98 miX0_place 4 := ⟨mt1 (i := 197) rfl rfl, mt1 (i := 198) rfl rfl, mt1 (i := 2) rfl rfl, mt1 (i := 199) rfl rfl, ⟨by decide +kernel, by decide +kernel⟩, by decide +kernel⟩
theorem kX0_106 : CV RX0 106 miX0_keep 1 := ⟨mt1 (i := 200) rfl rfl, mt1 (i := 202) rfl rfl, mp1 (i := 7) rfl, mt1 (i := 2) rfl rfl, mt1 (i := 203) rfl rfl, ⟨by decide +kernel, by decide +kernel⟩, by decide +kernel⟩
theorem kX0_110 : CV RX0 110 miX3_costOf 1 := ⟨mt1 (i := 207) rfl rfl, mt1 (i := 208) rfl rfl, mt1 (i := 209) rfl rfl, mt1 (i := 11) rfl rfl, mt1 (i := 210) rfl rfl, ⟨by decide +kernel, by decide +kernel⟩, by decide +kernel⟩
theorem kX0_102 : CV RX0 102 miX0_tell 2 := ⟨mt1 (i := 211) rfl rfl, mt1 (i := 213) rfl rfl, mp1 (i := 8) rfl, mt1 (i := 2) rfl rfl, mt1 (i := 214) rfl rfl, ⟨by decide +kernel, by decide +kernel⟩, by decide +kernel⟩
theorem kX0_120 : CV RX0 120 miX3_firstOf 2 := ⟨mt1 (i := 215) rfl rfl, mt1 (i := 216) rfl rfl, mt1 (i := 217) rfl rfl, mt1 (i := 11) rfl rfl, mt1 (i := 218) rfl rfl, ⟨by decide +kernel, by decide +kernel⟩, by decide +kernel⟩
theorem kX0_123 : CV RX0 123 miX3_secondsTo 3 := ⟨mt1 (i := 219) rfl rfl, mt1 (i := 182) rfl rfl, mt1 (i := 183) rfl rfl, mt1 (i := 11) rfl rfl, mt1 (i := 184) rfl rfl, ⟨by decide +kernel, by decide +kernel⟩, by decide +kernel⟩
theorem kX0_127 : CV RX0 127 miX3_secondsWith 2 := ⟨mt1 (i := 220) rfl rfl, mt1 (i := 189) rfl rfl, mt1 (i := 190) rfl rfl, mt1 (i := 11) rfl rfl, mt1 (i := 191) rfl rfl, ⟨by decide +kernel, by decide +kernel⟩, by decide +kernel⟩
theorem kL_122 : CV RL 122 miX4_left 0 := ⟨mt1 (i := 221) rfl rfl, mt1 (i := 222) rfl rfl, mt1 (i := 223) rfl rfl, mt1 (i := 1) rfl rfl, mt1 (i := 224) rfl rfl, ⟨by decide +kernel, by decide +kernel⟩, by decide +kernel⟩
theorem kL_129 : CV RL 129 miX4_open 0 := ⟨mt1 (i := 225) rfl rfl, mt1 (i := 226) rfl rfl, mt1 (i := 227) rfl rfl, mt1 (i := 1) rfl rfl, mt1 (i := 228) rfl rfl, ⟨by decide +kernel, by decide +kernel⟩, by decide +kernel⟩
theorem kL_61 : CSt RL 61 miL_cell 2 := ⟨mt1 (i := 229) rfl rfl, mt1 (i := 230) rfl rfl, mt1 (i := 0) rfl rfl, mt1 (i := 231) rfl rfl, ⟨by decide +kernel, by decide +kernel⟩, by decide +kernel⟩
theorem kL_7 : CV RL 7 miX4_car 2 := ⟨mt1 (i := 237) rfl rfl, mt1 (i := 238) rfl rfl, mt1 (i := 239) rfl rfl, mt1 (i := 1) rfl rfl, mt2 (i := 0) rfl rfl, ⟨by decide +kernel, by decide +kernel⟩, by decide +kernel⟩
theorem kX4_41 : CV RX4 41 miX4_isFloor 1 := ⟨mt2 (i := 1) rfl rfl, mt2 (i := 3) rfl rfl, mp1 (i := 9) rfl, mt1 (i := 1) rfl rfl, mt2 (i := 4) rfl rfl, ⟨by decide +kernel, by decide +kernel⟩, by decide +kernel⟩
theorem kX4_60 : CIn RX4 60 miX1_init 3 := ⟨mt2 (i := 88) rfl rfl, mt2 (i := 89) rfl rfl, mt1 (i := 10) rfl rfl, mt2 (i := 90) rfl rfl, ⟨by decide +kernel, by decide +kernel⟩, by decide +kernel⟩
theorem kL_17 : CV RL 17 miX4_free 3 := ⟨mt2 (i := 149) rfl rfl, mt2 (i := 150) rfl rfl, mt2 (i := 151) rfl rfl, mt1 (i := 1) rfl rfl, mt2 (i := 152) rfl rfl, ⟨by decide +kernel, by decide +kernel⟩, by decide +kernel⟩
theorem kX4_63 : CV RX4 63 miX4_liftOf 1 := ⟨mt2 (i := 153) rfl rfl, mt2 (i := 155) rfl rfl, mp1 (i := 11) rfl, mt1 (i := 1) rfl rfl, mt2 (i := 156) rfl rfl, ⟨by decide +kernel, by decide +kernel⟩, by decide +kernel⟩
theorem kL_21 : CV RL 21 miX4_zone 3 := ⟨mt2 (i := 162) rfl rfl, mt2 (i := 163) rfl rfl, mt2 (i := 164) rfl rfl, mt1 (i := 1) rfl rfl, mt2 (i := 165) rfl rfl, ⟨by decide +kernel, by decide +kernel⟩, by decide +kernel⟩
theorem kL_24 : CV RL 24 miX4_sleep 2 := ⟨mt2 (i := 170) rfl rfl, mt2 (i := 171) rfl rfl, mt2 (i := 172) rfl rfl, mt1 (i := 1) rfl rfl, mt2 (i := 173) rfl rfl, ⟨by decide +kernel, by decide +kernel⟩, by decide +kernel⟩
theorem kL_28 : CV RL 28 miX4_call 2 := ⟨mt2 (i := 178) rfl rfl, mt2 (i := 179) rfl rfl, mt2 (i := 180) rfl rfl, mt1 (i := 1) rfl rfl, mt2 (i := 181) rfl rfl, ⟨by decide +kernel, by decide +kernel⟩, by decide +kernel⟩
theorem kX4_103 : CIn RX4 103 miX2_init 4 := ⟨mt2 (i := 185) rfl rfl, mt2 (i := 186) rfl rfl, mt1 (i := 12) rfl rfl, mt2 (i := 187) rfl rfl, ⟨by decide +kernel, by decide +kernel⟩, by decide +kernel⟩
theorem kL_31 : CV RL 31 miX4_urgent 2 := ⟨mt2 (i := 220) rfl rfl, mt2 (i := 221) rfl rfl, mt2 (i := 222) rfl rfl, mt1 (i := 1) rfl rfl, mt2 (i := 223) rfl rfl, ⟨by decide +kernel, by decide +kernel⟩, by decide +kernel⟩
theorem kX4_106 : CV RX4 106 miX4_openRide 1 := ⟨mt2 (i := 224) rfl rfl, mt2 (i := 226) rfl rfl, mp1 (i := 12) rfl, mt1 (i := 1) rfl rfl, mt2 (i := 227) rfl rfl, ⟨by decide +kernel, by decide +kernel⟩, by decide +kernel⟩
theorem kL_34 : CV RL 34 miX4_begin 2 := ⟨mt2 (i := 232) rfl rfl, mt2 (i := 233) rfl rfl, mt2 (i := 234) rfl rfl, mt1 (i := 1) rfl rfl, mt2 (i := 235) rfl rfl, ⟨by decide +kernel, by decide +kernel⟩, by decide +kernel⟩
theorem kX4_121 : CV RX4 121 miX4_hasBegunAnother 2 := ⟨mt2 (i := 237) rfl rfl, mt2 (i := 239) rfl rfl, mp1 (i := 13) rfl, mt1 (i := 1) rfl rfl, mt3 (i := 0) rfl rfl, ⟨by decide +kernel, by decide +kernel⟩, by decide +kernel⟩
theorem kL_38 : CV RL 38 miX4_done 1 := ⟨mt3 (i := 4) rfl rfl, mt3 (i := 5) rfl rfl, mt3 (i := 6) rfl rfl, mt1 (i := 1) rfl rfl, mt3 (i := 7) rfl rfl, ⟨by decide +kernel, by decide +kernel⟩, by decide +kernel⟩
theorem kX4_128 : CV RX4 128 miX4_dropRide 1 := ⟨mt3 (i := 8) rfl rfl, mt3 (i := 10) rfl rfl, mp1 (i := 14) rfl, mt1 (i := 1) rfl rfl, mt3 (i := 11) rfl rfl, ⟨by decide +kernel, by decide +kernel⟩, by decide +kernel⟩
theorem kL_42 : CV RL 42 miX4_pass 1 := ⟨mt3 (i := 15) rfl rfl, mt3 (i := 16) rfl rfl, mt3 (i := 17) rfl rfl, mt1 (i := 1) rfl rfl, mt3 (i := 18) rfl rfl, ⟨by decide +kernel, by decide +kernel⟩, by decide +kernel⟩
theorem kL_46 : CV RL 46 miX4_carOf 1 := ⟨mt3 (i := 23) rfl rfl, mt3 (i := 24) rfl rfl, mt3 (i := 25) rfl rfl, mt1 (i := 1) rfl rfl, mt3 (i := 26) rfl rfl, ⟨by decide +kernel, by decide +kernel⟩, by decide +kernel⟩
theorem kX4_152 : CV RX4 152 miX4_wasCalled 1 := ⟨mt3 (i := 27) rfl rfl, mt3 (i := 29) rfl rfl, mp1 (i := 15) rfl, mt1 (i := 1) rfl rfl, mt3 (i := 30) rfl rfl, ⟨by decide +kernel, by decide +kernel⟩, by decide +kernel⟩
theorem kX4_157 : CV RX4 157 miX0_slotOf 1 := ⟨mt3 (i := 32) rfl rfl, mt3 (i := 33) rfl rfl, mt3 (i := 34) rfl rfl, mt1 (i := 2) rfl rfl, mt3 (i := 35) rfl rfl, ⟨by decide +kernel, by decide +kernel⟩, by decide +kernel⟩
theorem kL_49 : CV RL 49 miX4_turn 2 := ⟨mt3 (i := 39) rfl rfl, mt3 (i := 40) rfl rfl, mt3 (i := 41) rfl rfl, mt1 (i := 1) rfl rfl, mt3 (i := 42) rfl rfl, ⟨by decide +kernel, by decide +kernel⟩, by decide +kernel⟩
theorem kX4_167 : CV RX4 167 miX0_inRow 2 := ⟨mt3 (i := 44) rfl rfl, mt3 (i := 45) rfl rfl, mt3 (i := 46) rfl rfl, mt1 (i := 2) rfl rfl, mt3 (i := 47) rfl rfl, ⟨by decide +kernel, by decide +kernel⟩, by decide +kernel⟩
theorem kL_52 : CV RL 52 miX4_told 2 := ⟨mt3 (i := 51) rfl rfl, mt3 (i := 52) rfl rfl, mt3 (i := 53) rfl rfl, mt1 (i := 1) rfl rfl, mt3 (i := 54) rfl rfl, ⟨by decide +kernel, by decide +kernel⟩, by decide +kernel⟩
theorem kL_55 : CV RL 55 miX4_cars 1 := ⟨mt3 (i := 59) rfl rfl, mt3 (i := 60) rfl rfl, mt3 (i := 61) rfl rfl, mt1 (i := 1) rfl rfl, mt3 (i := 62) rfl rfl, ⟨by decide +kernel, by decide +kernel⟩, by decide +kernel⟩
theorem kL_58 : CV RL 58 miX4_weight 1 := ⟨mt3 (i := 66) rfl rfl, mt3 (i := 67) rfl rfl, mt3 (i := 68) rfl rfl, mt1 (i := 1) rfl rfl, mt3 (i := 69) rfl rfl, ⟨by decide +kernel, by decide +kernel⟩, by decide +kernel⟩
theorem kL_71 : CIn RL 71 miX5_init 1 := ⟨mt3 (i := 72) rfl rfl, mt3 (i := 73) rfl rfl, mt1 (i := 4) rfl rfl, mt3 (i := 74) rfl rfl, ⟨by decide +kernel, by decide +kernel⟩, by decide +kernel⟩
theorem kL_76 : CV RL 76 miX5_thrown 0 := ⟨mt3 (i := 171) rfl rfl, mt3 (i := 172) rfl rfl, mt3 (i := 173) rfl rfl, mt1 (i := 4) rfl rfl, mt3 (i := 174) rfl rfl, ⟨by decide +kernel, by decide +kernel⟩, by decide +kernel⟩
theorem kL_75 : CV RL 75 miX5_car 2 := ⟨mt3 (i := 175) rfl rfl, mt3 (i := 176) rfl rfl, mt3 (i := 177) rfl rfl, mt1 (i := 4) rfl rfl, mt3 (i := 178) rfl rfl, ⟨by decide +kernel, by decide +kernel⟩, by decide +kernel⟩
theorem kX5_101 : CV RX5 101 miX5_isFloor 1 := ⟨mt3 (i := 179) rfl rfl, mt3 (i := 181) rfl rfl, mp2 (i := 0) rfl, mt1 (i := 4) rfl rfl, mt3 (i := 182) rfl rfl, ⟨by decide +kernel, by decide +kernel⟩, by decide +kernel⟩
theorem kX5_91 : CSt RX5 91 miX5_isIn 3 := ⟨mt3 (i := 183) rfl rfl, mt3 (i := 184) rfl rfl, mt1 (i := 4) rfl rfl, mt3 (i := 185) rfl rfl, ⟨by decide +kernel, by decide +kernel⟩, by decide +kernel⟩
theorem kL_83 : CV RL 83 miX5_free 3 := ⟨mt3 (i := 186) rfl rfl, mt3 (i := 187) rfl rfl, mt3 (i := 188) rfl rfl, mt1 (i := 4) rfl rfl, mt3 (i := 189) rfl rfl, ⟨by decide +kernel, by decide +kernel⟩, by decide +kernel⟩
theorem kX5_108 : CV RX5 108 miX5_isCar 1 := ⟨mt3 (i := 190) rfl rfl, mt3 (i := 192) rfl rfl, mp2 (i := 1) rfl, mt1 (i := 4) rfl rfl, mt3 (i := 193) rfl rfl, ⟨by decide +kernel, by decide +kernel⟩, by decide +kernel⟩
theorem kL_86 : CV RL 86 miX5_zone 3 := ⟨mt3 (i := 195) rfl rfl, mt3 (i := 196) rfl rfl, mt3 (i := 197) rfl rfl, mt1 (i := 4) rfl rfl, mt3 (i := 198) rfl rfl, ⟨by decide +kernel, by decide +kernel⟩, by decide +kernel⟩
theorem kL_90 : CV RL 90 miX5_sleep 2 := ⟨mt3 (i := 199) rfl rfl, mt3 (i := 200) rfl rfl, mt3 (i := 201) rfl rfl, mt1 (i := 4) rfl rfl, mt3 (i := 202) rfl rfl, ⟨by decide +kernel, by decide +kernel⟩, by decide +kernel⟩
theorem kL_93 : CV RL 93 miX5_call 2 := ⟨mt3 (i := 203) rfl rfl, mt3 (i := 204) rfl rfl, mt3 (i := 205) rfl rfl, mt1 (i := 4) rfl rfl, mt3 (i := 206) rfl rfl, ⟨by decide +kernel, by decide +kernel⟩, by decide +kernel⟩
theorem kL_96 : CV RL 96 miX5_urgent 2 := ⟨mt3 (i := 207) rfl rfl, mt3 (i := 208) rfl rfl, mt3 (i := 209) rfl rfl, mt1 (i := 4) rfl rfl, mt3 (i := 210) rfl rfl, ⟨by decide +kernel, by decide +kernel⟩, by decide +kernel⟩
theorem kX5_115 : CV RX5 115 miX5_isOpenCall 1 := ⟨mt3 (i := 211) rfl rfl, mt3 (i := 213) rfl rfl, mp2 (i := 2) rfl, mt1 (i := 4) rfl rfl, mt3 (i := 214) rfl rfl, ⟨by decide +kernel, by decide +kernel⟩, by decide +kernel⟩
theorem kL_99 : CV RL 99 miX5_begin 2 := ⟨mt3 (i := 215) rfl rfl, mt3 (i := 216) rfl rfl, mt3 (i := 217) rfl rfl, mt1 (i := 4) rfl rfl, mt3 (i := 218) rfl rfl, ⟨by decide +kernel, by decide +kernel⟩, by decide +kernel⟩
theorem kX5_118 : CV RX5 118 miX5_isWithin 2 := ⟨mt3 (i := 219) rfl rfl, mt3 (i := 221) rfl rfl, mp2 (i := 3) rfl, mt1 (i := 4) rfl rfl, mt3 (i := 222) rfl rfl, ⟨by decide +kernel, by decide +kernel⟩, by decide +kernel⟩
theorem kL_103 : CV RL 103 miX5_done 1 := ⟨mt3 (i := 223) rfl rfl, mt3 (i := 224) rfl rfl, mt3 (i := 225) rfl rfl, mt1 (i := 4) rfl rfl, mt3 (i := 226) rfl rfl, ⟨by decide +kernel, by decide +kernel⟩, by decide +kernel⟩
theorem kL_107 : CV RL 107 miX5_pass 1 := ⟨mt3 (i := 227) rfl rfl, mt3 (i := 228) rfl rfl, mt3 (i := 229) rfl rfl, mt1 (i := 4) rfl rfl, mt3 (i := 230) rfl rfl, ⟨by decide +kernel, by decide +kernel⟩, by decide +kernel⟩
theorem kL_112 : CV RL 112 miX5_give 0 := ⟨mt3 (i := 231) rfl rfl, mt3 (i := 232) rfl rfl, mt3 (i := 233) rfl rfl, mt1 (i := 4) rfl rfl, mt3 (i := 234) rfl rfl, ⟨by decide +kernel, by decide +kernel⟩, by decide +kernel⟩
theorem kX5_142 : CV RX5 142 miX5_carsOf 1 := ⟨mt3 (i := 235) rfl rfl, mt3 (i := 237) rfl rfl, mp2 (i := 4) rfl, mt1 (i := 4) rfl rfl, mt3 (i := 238) rfl rfl, ⟨by decide +kernel, by decide +kernel⟩, by decide +kernel⟩
theorem kX5_145 : CV RX5 145 miX5_findRows 2 := ⟨mt3 (i := 239) rfl rfl, mt4 (i := 1) rfl rfl, mp2 (i := 5) rfl, mt1 (i := 4) rfl rfl, mt4 (i := 2) rfl rfl, ⟨by decide +kernel, by decide +kernel⟩, by decide +kernel⟩
theorem kX5_135 : CV RX5 135 miX5_sumOf 3 := ⟨mt4 (i := 4) rfl rfl, mt4 (i := 6) rfl rfl, mp2 (i := 6) rfl, mt1 (i := 4) rfl rfl, mt4 (i := 7) rfl rfl, ⟨by decide +kernel, by decide +kernel⟩, by decide +kernel⟩
theorem kX5_122 : CSt RX5 122 miX5_way 2 := ⟨mt4 (i := 8) rfl rfl, mt4 (i := 9) rfl rfl, mt1 (i := 4) rfl rfl, mt4 (i := 10) rfl rfl, ⟨by decide +kernel, by decide +kernel⟩, by decide +kernel⟩
theorem kX5_126 : CV RX5 126 miX5_weightOf 1 := ⟨mt4 (i := 11) rfl rfl, mt4 (i := 13) rfl rfl, mp2 (i := 7) rfl, mt1 (i := 4) rfl rfl, mt4 (i := 14) rfl rfl, ⟨by decide +kernel, by decide +kernel⟩, by decide +kernel⟩
theorem kX5_139 : CV RX5 139 miX5_nextOrder 1 := ⟨mt4 (i := 15) rfl rfl, mt4 (i := 17) rfl rfl, mp2 (i := 8) rfl, mt1 (i := 4) rfl rfl, mt4 (i := 18) rfl rfl, ⟨by decide +kernel, by decide +kernel⟩, by decide +kernel⟩
theorem kX5_149 : CV RX5 149 miX5_deal 1 := ⟨mt4 (i := 19) rfl rfl, mt4 (i := 21) rfl rfl, mp2 (i := 9) rfl, mt1 (i := 4) rfl rfl, mt4 (i := 22) rfl rfl, ⟨by decide +kernel, by decide +kernel⟩, by decide +kernel⟩
theorem kX5_153 : CV RX5 153 miX5_setOf 1 := ⟨mt4 (i := 23) rfl rfl, mt4 (i := 25) rfl rfl, mp2 (i := 10) rfl, mt1 (i := 4) rfl rfl, mt4 (i := 26) rfl rfl, ⟨by decide +kernel, by decide +kernel⟩, by decide +kernel⟩
theorem kL_115 : CV RL 115 miX5_carOf 1 := ⟨mt4 (i := 27) rfl rfl, mt4 (i := 28) rfl rfl, mt4 (i := 29) rfl rfl, mt1 (i := 4) rfl rfl, mt4 (i := 30) rfl rfl, ⟨by decide +kernel, by decide +kernel⟩, by decide +kernel⟩
theorem kX5_156 : CV RX5 156 miX5_wasCall 1 := ⟨mt4 (i := 31) rfl rfl, mt4 (i := 33) rfl rfl, mp2 (i := 11) rfl, mt1 (i := 4) rfl rfl, mt4 (i := 34) rfl rfl, ⟨by decide +kernel, by decide +kernel⟩, by decide +kernel⟩
theorem kL_118 : CV RL 118 miX5_turn 2 := ⟨mt4 (i := 35) rfl rfl, mt4 (i := 36) rfl rfl, mt4 (i := 37) rfl rfl, mt1 (i := 4) rfl rfl, mt4 (i := 38) rfl rfl, ⟨by decide +kernel, by decide +kernel⟩, by decide +kernel⟩
theorem kL_121 : CV RL 121 miX5_told 2 := ⟨mt4 (i := 39) rfl rfl, mt4 (i := 40) rfl rfl, mt4 (i := 41) rfl rfl, mt1 (i := 4) rfl rfl, mt4 (i := 42) rfl rfl, ⟨by decide +kernel, by decide +kernel⟩, by decide +kernel⟩
theorem kL_125 : CV RL 125 miX5_left 0 := ⟨mt4 (i := 43) rfl rfl, mt4 (i := 44) rfl rfl, mt4 (i := 45) rfl rfl, mt1 (i := 4) rfl rfl, mt4 (i := 46) rfl rfl, ⟨by decide +kernel, by decide +kernel⟩, by decide +kernel⟩
theorem kL_128 : CV RL 128 miX5_cars 1 := ⟨mt4 (i := 47) rfl rfl, mt4 (i := 48) rfl rfl, mt4 (i := 49) rfl rfl, mt1 (i := 4) rfl rfl, mt4 (i := 50) rfl rfl, ⟨by decide +kernel, by decide +kernel⟩, by decide +kernel⟩
theorem kL_132 : CV RL 132 miX5_open 0 := ⟨mt4 (i := 51) rfl rfl, mt4 (i := 52) rfl rfl, mt4 (i := 53) rfl rfl, mt1 (i := 4) rfl rfl, mt4 (i := 54) rfl rfl, ⟨by decide +kernel, by decide +kernel⟩, by decide +kernel⟩
theorem kL_135 : CV RL 135 miX5_weight 1 := ⟨mt4 (i := 55) rfl rfl, mt4 (i := 56) rfl rfl, mt4 (i := 57) rfl rfl, mt1 (i := 4) rfl rfl, mt4 (i := 58) rfl rfl, ⟨by decide +kernel, by decide +kernel⟩, by decide +kernel⟩
theorem nL_8 : Cond.classLink RL 8 RX4 ∈ UW ∧ Cond.instantiable RX4 8 ∈ UW ∧ Cond.initialized RX4 ∈ UW := ⟨mt1 (i := 14) rfl rfl, mt1 (i := 15) rfl rfl, mt1 (i := 1) rfl rfl⟩
theorem nX4_9 : Cond.classLink RX4 9 RX1 ∈ UW ∧ Cond.instantiable RX1 7 ∈ UW ∧ Cond.initialized RX1 ∈ UW := ⟨mt1 (i := 22) rfl rfl, mt1 (i := 141) rfl rfl, mt1 (i := 10) rfl rfl⟩
theorem nX4_15 : Cond.classLink RX4 15 RX2 ∈ UW ∧ Cond.instantiable RX2 6 ∈ UW ∧ Cond.initialized RX2 ∈ UW := ⟨mt1 (i := 24) rfl rfl, mt2 (i := 184) rfl rfl, mt1 (i := 12) rfl rfl⟩
theorem nX4_21 : Cond.classLink RX4 21 RX0 ∈ UW ∧ Cond.instantiable RX0 15 ∈ UW ∧ Cond.initialized RX0 ∈ UW := ⟨mt1 (i := 26) rfl rfl, mt1 (i := 27) rfl rfl, mt1 (i := 2) rfl rfl⟩
theorem arr_int : Cond.arrayClass .int ∈ UW := mt1 (i := 90) rfl rfl
theorem vX3_56 : Cond.constantLong RX3 56 (1152921504606846976) ∈ UW := mt1 (i := 180) rfl rfl
theorem vX0_92 : Cond.constantLong RX0 92 (1152921504606846976) ∈ UW := mt1 (i := 196) rfl rfl
theorem nL_13 : Cond.classLink RL 13 "java/lang/IllegalArgumentException" ∈ UW ∧ Cond.instantiable "java/lang/IllegalArgumentException" 6 ∈ UW ∧ Cond.initialized "java/lang/IllegalArgumentException" ∈ UW := ⟨mt1 (i := 235) rfl rfl, mt2 (i := 6) rfl rfl, mt1 (i := 8) rfl rfl⟩
theorem nL_15 : Cond.classLink RL 15 "java/lang/IllegalStateException" ∈ UW ∧ Cond.instantiable "java/lang/IllegalStateException" 6 ∈ UW ∧ Cond.initialized "java/lang/IllegalStateException" ∈ UW := ⟨mt1 (i := 236) rfl rfl, mt2 (i := 73) rfl rfl, mt1 (i := 9) rfl rfl⟩
theorem nX4_45 : Cond.classLink RX4 45 "java/lang/IllegalArgumentException" ∈ UW ∧ Cond.instantiable "java/lang/IllegalArgumentException" 6 ∈ UW ∧ Cond.initialized "java/lang/IllegalArgumentException" ∈ UW := ⟨mt2 (i := 5) rfl rfl, mt2 (i := 6) rfl rfl, mt1 (i := 8) rfl rfl⟩
theorem arr_byte : Cond.arrayClass .byte ∈ UW := mt2 (i := 71) rfl rfl
theorem nX4_55 : Cond.classLink RX4 55 "java/lang/IllegalStateException" ∈ UW ∧ Cond.instantiable "java/lang/IllegalStateException" 6 ∈ UW ∧ Cond.initialized "java/lang/IllegalStateException" ∈ UW := ⟨mt2 (i := 72) rfl rfl, mt2 (i := 73) rfl rfl, mt1 (i := 9) rfl rfl⟩
theorem nX1_7 : Cond.classLink RX1 7 RX3 ∈ UW ∧ Cond.instantiable RX3 6 ∈ UW ∧ Cond.initialized RX3 ∈ UW := ⟨mt2 (i := 92) rfl rfl, mt1 (i := 175) rfl rfl, mt1 (i := 11) rfl rfl⟩
theorem arr_long : Cond.arrayClass .long ∈ UW := mt2 (i := 116) rfl rfl
theorem vX4_67 : Cond.constant RX4 67 (100000) ∈ UW := mt2 (i := 157) rfl rfl
theorem nL_69 : Cond.classLink RL 69 RX5 ∈ UW ∧ Cond.instantiable RX5 31 ∈ UW ∧ Cond.initialized RX5 ∈ UW := ⟨mt3 (i := 70) rfl rfl, mt3 (i := 71) rfl rfl, mt1 (i := 4) rfl rfl⟩
theorem arr_boolean : Cond.arrayClass .boolean ∈ UW := mt3 (i := 170) rfl rfl
theorem vX5_111 : Cond.constant RX5 111 (100000) ∈ UW := mt3 (i := 194) rfl rfl
theorem vX5_133 : Cond.constantLong RX5 133 (-1) ∈ UW := mt4 (i := 3) rfl rfl
