/-! ===== BEGIN printed: names, fields, word lists, decode rows ===== -/
def RX0 : String := "Spotbeat$Body"
def TX0 : u_T := fun k => match k with
  | 0 => ("Spotbeat$Body", "number", "I", true)
  | 1 => ("Spotbeat$Body", "variant", "I", true)
  | 2 => ("Spotbeat$Body", "makers", "[I", true)
  | 3 => ("Spotbeat$Body", "where", "I", false)
  | _ => ("Spotbeat$Body", "measure", "I", false)
def tyX0 : Nat → FieldType := fun k => match k with
  | 0 => .int
  | 1 => .int
  | 2 => .array .int
  | 3 => .int
  | _ => .int
abbrev wsX00 : List Cond := u_ws RX0 TX0 5
theorem nmX0 : ∀ a, a < 5 → ∀ b, b < 5 → a ≠ b → (TX0 a).2.1 ≠ (TX0 b).2.1 := by decide +kernel
theorem tyX0_ok : ∀ k, k < 5 → parseFieldDescriptor (TX0 k).2.2.1 = some (tyX0 k) := by decide +kernel
abbrev cX0_init : ByteArray := prog_2_method_1_code
def yX0_init : MethodName := ⟨RX0, "<init>", "(II)V"⟩
abbrev cX0_makerOf : ByteArray := prog_2_method_2_code
def yX0_makerOf : MethodName := ⟨RX0, "makerOf", "(LSpotbeat$Spot;)I"⟩
abbrev cX0_setMaker : ByteArray := prog_2_method_3_code
def yX0_setMaker : MethodName := ⟨RX0, "setMaker", "(LSpotbeat$Spot;I)V"⟩
abbrev cX0_isWithout : ByteArray := prog_2_method_4_code
def yX0_isWithout : MethodName := ⟨RX0, "isWithout", "(LSpotbeat$Spot;)Z"⟩
def RX1 : String := "Spotbeat$Paces"
def TX1 : u_T := fun k => match k with
  | 0 => ("Spotbeat$Paces", "tracks", "[LSpotbeat$Track;", true)
  | 1 => ("Spotbeat$Paces", "seen", "[Z", true)
  | 2 => ("Spotbeat$Paces", "last", "I", false)
  | 3 => ("Spotbeat$Paces", "reached", "I", false)
  | 4 => ("Spotbeat$Paces", "canMeet", "Z", false)
  | _ => ("Spotbeat$Paces", "canStick", "Z", false)
def tyX1 : Nat → FieldType := fun k => match k with
  | 0 => .array (.object "Spotbeat$Track")
  | 1 => .array .boolean
  | 2 => .int
  | 3 => .int
  | 4 => .boolean
  | _ => .boolean
abbrev wsX10 : List Cond := u_ws RX1 TX1 6
theorem nmX1 : ∀ a, a < 6 → ∀ b, b < 6 → a ≠ b → (TX1 a).2.1 ≠ (TX1 b).2.1 := by decide +kernel
theorem tyX1_ok : ∀ k, k < 6 → parseFieldDescriptor (TX1 k).2.2.1 = some (tyX1 k) := by decide +kernel
abbrev cX1_init : ByteArray := prog_3_method_1_code
def yX1_init : MethodName := ⟨RX1, "<init>", "()V"⟩
abbrev cX1_lay : ByteArray := prog_3_method_2_code
def yX1_lay : MethodName := ⟨RX1, "lay", "(LSpotbeat$Station;I)V"⟩
abbrev cX1_explore : ByteArray := prog_3_method_3_code
def yX1_explore : MethodName := ⟨RX1, "explore", "()V"⟩
abbrev cX1_visit : ByteArray := prog_3_method_4_code
def yX1_visit : MethodName := ⟨RX1, "visit", "(I)V"⟩
abbrev cX1_place : ByteArray := prog_3_method_5_code
def yX1_place : MethodName := ⟨RX1, "place", "(I)V"⟩
abbrev cX1_isMeeting : ByteArray := prog_3_method_6_code
def yX1_isMeeting : MethodName := ⟨RX1, "isMeeting", "()Z"⟩
abbrev cX1_hasStepsLeft : ByteArray := prog_3_method_7_code
def yX1_hasStepsLeft : MethodName := ⟨RX1, "hasStepsLeft", "()Z"⟩
abbrev cX1_markNext : ByteArray := prog_3_method_8_code
def yX1_markNext : MethodName := ⟨RX1, "markNext", "(I)I"⟩
abbrev cX1_canStep : ByteArray := prog_3_method_9_code
def yX1_canStep : MethodName := ⟨RX1, "canStep", "(LSpotbeat$Track;)Z"⟩
abbrev cX1_mark : ByteArray := prog_3_method_10_code
def yX1_mark : MethodName := ⟨RX1, "mark", "(I)V"⟩
abbrev cX1_leavesZone : ByteArray := prog_3_method_11_code
def yX1_leavesZone : MethodName := ⟨RX1, "leavesZone", "()Z"⟩
def RX2 : String := "Spotbeat$Program"
def TX2 : u_T := fun k => match k with
  | 0 => ("Spotbeat$Program", "base", "I", true)
  | 1 => ("Spotbeat$Program", "kinds", "[C", true)
  | 2 => ("Spotbeat$Program", "numbers", "[I", true)
  | _ => ("Spotbeat$Program", "length", "I", false)
def tyX2 : Nat → FieldType := fun k => match k with
  | 0 => .int
  | 1 => .array .char
  | 2 => .array .int
  | _ => .int
abbrev wsX20 : List Cond := u_ws RX2 TX2 4
theorem nmX2 : ∀ a, a < 4 → ∀ b, b < 4 → a ≠ b → (TX2 a).2.1 ≠ (TX2 b).2.1 := by decide +kernel
theorem tyX2_ok : ∀ k, k < 4 → parseFieldDescriptor (TX2 k).2.2.1 = some (tyX2 k) := by decide +kernel
abbrev cX2_init : ByteArray := prog_4_method_1_code
def yX2_init : MethodName := ⟨RX2, "<init>", "(I)V"⟩
abbrev cX2_add : ByteArray := prog_4_method_2_code
def yX2_add : MethodName := ⟨RX2, "add", "(CI)V"⟩
abbrev cX2_kindAt : ByteArray := prog_4_method_3_code
def yX2_kindAt : MethodName := ⟨RX2, "kindAt", "(I)C"⟩
abbrev cX2_numberAt : ByteArray := prog_4_method_4_code
def yX2_numberAt : MethodName := ⟨RX2, "numberAt", "(I)I"⟩
abbrev cX2_placeAhead : ByteArray := prog_4_method_5_code
def yX2_placeAhead : MethodName := ⟨RX2, "placeAhead", "(I)I"⟩
def RX3 : String := "Spotbeat$Robot"
def TX3 : u_T := fun k => match k with
  | 0 => ("Spotbeat$Robot", "number", "I", true)
  | 1 => ("Spotbeat$Robot", "station", "I", true)
  | 2 => ("Spotbeat$Robot", "base", "I", true)
  | 3 => ("Spotbeat$Robot", "reach", "I", true)
  | 4 => ("Spotbeat$Robot", "programs", "[LSpotbeat$Program;", true)
  | 5 => ("Spotbeat$Robot", "current", "I", false)
  | 6 => ("Spotbeat$Robot", "worn", "I", false)
  | 7 => ("Spotbeat$Robot", "dressed", "I", false)
  | 8 => ("Spotbeat$Robot", "goodWelds", "I", false)
  | 9 => ("Spotbeat$Robot", "substitute", "I", false)
  | _ => ("Spotbeat$Robot", "dead", "Z", false)
def tyX3 : Nat → FieldType := fun k => match k with
  | 0 => .int
  | 1 => .int
  | 2 => .int
  | 3 => .int
  | 4 => .array (.object "Spotbeat$Program")
  | 5 => .int
  | 6 => .int
  | 7 => .int
  | 8 => .int
  | 9 => .int
  | _ => .boolean
abbrev wsX30 : List Cond := u_ws RX3 TX3 11
theorem nmX3 : ∀ a, a < 11 → ∀ b, b < 11 → a ≠ b → (TX3 a).2.1 ≠ (TX3 b).2.1 := by decide +kernel
theorem tyX3_ok : ∀ k, k < 11 → parseFieldDescriptor (TX3 k).2.2.1 = some (tyX3 k) := by decide +kernel
abbrev cX3_init : ByteArray := prog_5_method_1_code
def yX3_init : MethodName := ⟨RX3, "<init>", "(IIII)V"⟩
abbrev cX3_programFor : ByteArray := prog_5_method_2_code
def yX3_programFor : MethodName := ⟨RX3, "programFor", "(I)LSpotbeat$Program;"⟩
abbrev cX3_canReach : ByteArray := prog_5_method_3_code
def yX3_canReach : MethodName := ⟨RX3, "canReach", "(I)Z"⟩
abbrev cX3_strength : ByteArray := prog_5_method_4_code
def yX3_strength : MethodName := ⟨RX3, "strength", "()I"⟩
def RX4 : String := "Spotbeat$Spot"
def TX4 : u_T := fun k => match k with
  | 0 => ("Spotbeat$Spot", "number", "I", true)
  | 1 => ("Spotbeat$Spot", "child", "I", true)
  | 2 => ("Spotbeat$Spot", "place", "I", true)
  | 3 => ("Spotbeat$Spot", "variants", "I", true)
  | 4 => ("Spotbeat$Spot", "need", "I", true)
  | _ => ("Spotbeat$Spot", "holds", "Z", true)
def tyX4 : Nat → FieldType := fun k => match k with
  | 0 => .int
  | 1 => .int
  | 2 => .int
  | 3 => .int
  | 4 => .int
  | _ => .boolean
abbrev wsX40 : List Cond := u_ws RX4 TX4 6
theorem nmX4 : ∀ a, a < 6 → ∀ b, b < 6 → a ≠ b → (TX4 a).2.1 ≠ (TX4 b).2.1 := by decide +kernel
theorem tyX4_ok : ∀ k, k < 6 → parseFieldDescriptor (TX4 k).2.2.1 = some (tyX4 k) := by decide +kernel
abbrev cX4_init : ByteArray := prog_6_method_1_code
def yX4_init : MethodName := ⟨RX4, "<init>", "(IIIIIZ)V"⟩
abbrev cX4_isOf : ByteArray := prog_6_method_2_code
def yX4_isOf : MethodName := ⟨RX4, "isOf", "(I)Z"⟩
def RX5 : String := "Spotbeat$Station"
def TX5 : u_T := fun k => match k with
  | 0 => ("Spotbeat$Station", "number", "I", true)
  | 1 => ("Spotbeat$Station", "firstBeat", "I", true)
  | 2 => ("Spotbeat$Station", "crew", "[LSpotbeat$Robot;", true)
  | 3 => ("Spotbeat$Station", "crewSize", "I", false)
  | 4 => ("Spotbeat$Station", "body", "LSpotbeat$Body;", false)
  | 5 => ("Spotbeat$Station", "worked", "Z", false)
  | 6 => ("Spotbeat$Station", "stands", "Z", false)
  | 7 => ("Spotbeat$Station", "offset", "I", false)
  | 8 => ("Spotbeat$Station", "stood", "I", false)
  | 9 => ("Spotbeat$Station", "wasEmpty", "I", false)
  | 10 => ("Spotbeat$Station", "wasBlocked", "I", false)
  | _ => ("Spotbeat$Station", "went", "I", false)
def tyX5 : Nat → FieldType := fun k => match k with
  | 0 => .int
  | 1 => .int
  | 2 => .array (.object "Spotbeat$Robot")
  | 3 => .int
  | 4 => .object "Spotbeat$Body"
  | 5 => .boolean
  | 6 => .boolean
  | 7 => .int
  | 8 => .int
  | 9 => .int
  | 10 => .int
  | _ => .int
abbrev wsX50 : List Cond := u_ws RX5 TX5 12
theorem nmX5 : ∀ a, a < 12 → ∀ b, b < 12 → a ≠ b → (TX5 a).2.1 ≠ (TX5 b).2.1 := by decide +kernel
theorem tyX5_ok : ∀ k, k < 12 → parseFieldDescriptor (TX5 k).2.2.1 = some (tyX5 k) := by decide +kernel
abbrev cX5_init : ByteArray := prog_7_method_1_code
def yX5_init : MethodName := ⟨RX5, "<init>", "(II)V"⟩
abbrev cX5_isFull : ByteArray := prog_7_method_2_code
def yX5_isFull : MethodName := ⟨RX5, "isFull", "()Z"⟩
abbrev cX5_add : ByteArray := prog_7_method_3_code
def yX5_add : MethodName := ⟨RX5, "add", "(LSpotbeat$Robot;)V"⟩
abbrev cX5_hasBaseAt : ByteArray := prog_7_method_4_code
def yX5_hasBaseAt : MethodName := ⟨RX5, "hasBaseAt", "(I)Z"⟩
abbrev cX5_take : ByteArray := prog_7_method_5_code
def yX5_take : MethodName := ⟨RX5, "take", "(LSpotbeat$Body;)V"⟩
abbrev cX5_letterSum : ByteArray := prog_7_method_6_code
def yX5_letterSum : MethodName := ⟨RX5, "letterSum", "()I"⟩
def RX6 : String := "Spotbeat$Track"
def TX6 : u_T := fun k => match k with
  | 0 => ("Spotbeat$Track", "zones", "[I", true)
  | 1 => ("Spotbeat$Track", "claims", "[I", true)
  | 2 => ("Spotbeat$Track", "lowCells", "[J", true)
  | 3 => ("Spotbeat$Track", "highCells", "[J", true)
  | 4 => ("Spotbeat$Track", "length", "I", false)
  | _ => ("Spotbeat$Track", "pace", "I", false)
def tyX6 : Nat → FieldType := fun k => match k with
  | 0 => .array .int
  | 1 => .array .int
  | 2 => .array .long
  | 3 => .array .long
  | 4 => .int
  | _ => .int
abbrev wsX60 : List Cond := u_ws RX6 TX6 6
theorem nmX6 : ∀ a, a < 6 → ∀ b, b < 6 → a ≠ b → (TX6 a).2.1 ≠ (TX6 b).2.1 := by decide +kernel
theorem tyX6_ok : ∀ k, k < 6 → parseFieldDescriptor (TX6 k).2.2.1 = some (tyX6 k) := by decide +kernel
abbrev cX6_init : ByteArray := prog_8_method_1_code
def yX6_init : MethodName := ⟨RX6, "<init>", "()V"⟩
abbrev cX6_layNothing : ByteArray := prog_8_method_2_code
def yX6_layNothing : MethodName := ⟨RX6, "layNothing", "()V"⟩
abbrev cX6_lay : ByteArray := prog_8_method_3_code
def yX6_lay : MethodName := ⟨RX6, "lay", "(LSpotbeat$Program;)V"⟩
abbrev cX6_layCells : ByteArray := prog_8_method_4_code
def yX6_layCells : MethodName := ⟨RX6, "layCells", "(III)V"⟩
abbrev cX6_layCell : ByteArray := prog_8_method_5_code
def yX6_layCell : MethodName := ⟨RX6, "layCell", "(III)V"⟩
abbrev cX6_isEnded : ByteArray := prog_8_method_6_code
def yX6_isEnded : MethodName := ⟨RX6, "isEnded", "()Z"⟩
abbrev cX6_zonesHeld : ByteArray := prog_8_method_7_code
def yX6_zonesHeld : MethodName := ⟨RX6, "zonesHeld", "()I"⟩
abbrev cX6_zoneClaimed : ByteArray := prog_8_method_8_code
def yX6_zoneClaimed : MethodName := ⟨RX6, "zoneClaimed", "()I"⟩
abbrev cX6_zonesAtEnd : ByteArray := prog_8_method_9_code
def yX6_zonesAtEnd : MethodName := ⟨RX6, "zonesAtEnd", "()I"⟩
abbrev cX6_meets : ByteArray := prog_8_method_10_code
def yX6_meets : MethodName := ⟨RX6, "meets", "(LSpotbeat$Track;)Z"⟩
abbrev cX6_lowHeld : ByteArray := prog_8_method_11_code
def yX6_lowHeld : MethodName := ⟨RX6, "lowHeld", "()J"⟩
abbrev cX6_highHeld : ByteArray := prog_8_method_12_code
def yX6_highHeld : MethodName := ⟨RX6, "highHeld", "()J"⟩
def RX7 : String := "Spotbeat"
def TX7 : u_T := fun k => match k with
  | 0 => ("Spotbeat", "parents", "[I", true)
  | 1 => ("Spotbeat", "spotRow", "[LSpotbeat$Spot;", true)
  | 2 => ("Spotbeat", "stationRow", "[LSpotbeat$Station;", true)
  | 3 => ("Spotbeat", "robotRow", "[LSpotbeat$Robot;", true)
  | 4 => ("Spotbeat", "bodyRow", "[LSpotbeat$Body;", true)
  | 5 => ("Spotbeat", "paces", "LSpotbeat$Paces;", true)
  | 6 => ("Spotbeat", "panelCount", "I", false)
  | 7 => ("Spotbeat", "spotCount", "I", false)
  | 8 => ("Spotbeat", "stationCount", "I", false)
  | 9 => ("Spotbeat", "robotCount", "I", false)
  | 10 => ("Spotbeat", "bodyCount", "I", false)
  | _ => ("Spotbeat", "beatCount", "I", false)
def tyX7 : Nat → FieldType := fun k => match k with
  | 0 => .array .int
  | 1 => .array (.object "Spotbeat$Spot")
  | 2 => .array (.object "Spotbeat$Station")
  | 3 => .array (.object "Spotbeat$Robot")
  | 4 => .array (.object "Spotbeat$Body")
  | 5 => .object "Spotbeat$Paces"
  | 6 => .int
  | 7 => .int
  | 8 => .int
  | 9 => .int
  | 10 => .int
  | _ => .int
abbrev wsX70 : List Cond := u_ws RX7 TX7 12
theorem nmX7 : ∀ a, a < 12 → ∀ b, b < 12 → a ≠ b → (TX7 a).2.1 ≠ (TX7 b).2.1 := by decide +kernel
theorem tyX7_ok : ∀ k, k < 12 → parseFieldDescriptor (TX7 k).2.2.1 = some (tyX7 k) := by decide +kernel
abbrev cX7_init : ByteArray := prog_1_method_1_code
def yX7_init : MethodName := ⟨RX7, "<init>", "()V"⟩
abbrev cX7_panel : ByteArray := prog_1_method_2_code
def yX7_panel : MethodName := ⟨RX7, "panel", "(I)I"⟩
abbrev cX7_spot : ByteArray := prog_1_method_3_code
def yX7_spot : MethodName := ⟨RX7, "spot", "(IIIIIZ)I"⟩
abbrev cX7_spots : ByteArray := prog_1_method_4_code
def yX7_spots : MethodName := ⟨RX7, "spots", "(I)I"⟩
abbrev cX7_isHeld : ByteArray := prog_1_method_5_code
def yX7_isHeld : MethodName := ⟨RX7, "isHeld", "(I)Z"⟩
abbrev cX7_isPanel : ByteArray := prog_1_method_6_code
def yX7_isPanel : MethodName := ⟨RX7, "isPanel", "(I)Z"⟩
abbrev cX7_childOf : ByteArray := prog_1_method_7_code
def yX7_childOf : MethodName := ⟨RX7, "childOf", "(II)I"⟩
abbrev cX7_isPanelHeld : ByteArray := prog_1_method_8_code
def yX7_isPanelHeld : MethodName := ⟨RX7, "isPanelHeld", "(II)Z"⟩
abbrev cX7_station : ByteArray := prog_1_method_9_code
def yX7_station : MethodName := ⟨RX7, "station", "()I"⟩
abbrev cX7_robot : ByteArray := prog_1_method_10_code
def yX7_robot : MethodName := ⟨RX7, "robot", "(III)I"⟩
abbrev cX7_reaches : ByteArray := prog_1_method_11_code
def yX7_reaches : MethodName := ⟨RX7, "reaches", "(II)Z"⟩
abbrev cX7_swept : ByteArray := prog_1_method_12_code
def yX7_swept : MethodName := ⟨RX7, "swept", "(II)I"⟩
abbrev cX7_current : ByteArray := prog_1_method_13_code
def yX7_current : MethodName := ⟨RX7, "current", "(II)I"⟩
abbrev cX7_isPlace : ByteArray := prog_1_method_14_code
def yX7_isPlace : MethodName := ⟨RX7, "isPlace", "(I)Z"⟩
abbrev cX7_requirePlace : ByteArray := prog_1_method_15_code
def yX7_requirePlace : MethodName := ⟨RX7, "requirePlace", "(I)V"⟩
abbrev cX7_xOf : ByteArray := prog_1_method_16_code
def yX7_xOf : MethodName := ⟨RX7, "xOf", "(I)I"⟩
abbrev cX7_yOf : ByteArray := prog_1_method_17_code
def yX7_yOf : MethodName := ⟨RX7, "yOf", "(I)I"⟩
abbrev cX7_distance : ByteArray := prog_1_method_18_code
def yX7_distance : MethodName := ⟨RX7, "distance", "(II)I"⟩
abbrev cX7_requireVariant : ByteArray := prog_1_method_19_code
def yX7_requireVariant : MethodName := ⟨RX7, "requireVariant", "(I)V"⟩
abbrev cX7_spotAt : ByteArray := prog_1_method_20_code
def yX7_spotAt : MethodName := ⟨RX7, "spotAt", "(I)LSpotbeat$Spot;"⟩
abbrev cX7_robotAt : ByteArray := prog_1_method_21_code
def yX7_robotAt : MethodName := ⟨RX7, "robotAt", "(I)LSpotbeat$Robot;"⟩
abbrev cX7_stationAt : ByteArray := prog_1_method_22_code
def yX7_stationAt : MethodName := ⟨RX7, "stationAt", "(I)LSpotbeat$Station;"⟩
abbrev cX7_bodyAt : ByteArray := prog_1_method_23_code
def yX7_bodyAt : MethodName := ⟨RX7, "bodyAt", "(I)LSpotbeat$Body;"⟩
abbrev cX7_requireSpot : ByteArray := prog_1_method_24_code
def yX7_requireSpot : MethodName := ⟨RX7, "requireSpot", "(I)LSpotbeat$Spot;"⟩
abbrev cX7_requireRobot : ByteArray := prog_1_method_25_code
def yX7_requireRobot : MethodName := ⟨RX7, "requireRobot", "(I)LSpotbeat$Robot;"⟩
abbrev cX7_requireStation : ByteArray := prog_1_method_26_code
def yX7_requireStation : MethodName := ⟨RX7, "requireStation", "(I)LSpotbeat$Station;"⟩
abbrev cX7_requireBody : ByteArray := prog_1_method_27_code
def yX7_requireBody : MethodName := ⟨RX7, "requireBody", "(I)LSpotbeat$Body;"⟩
abbrev cX7_step : ByteArray := prog_1_method_28_code
def yX7_step : MethodName := ⟨RX7, "step", "(IICI)I"⟩
abbrev cX7_erase : ByteArray := prog_1_method_29_code
def yX7_erase : MethodName := ⟨RX7, "erase", "(II)I"⟩
abbrev cX7_steps : ByteArray := prog_1_method_30_code
def yX7_steps : MethodName := ⟨RX7, "steps", "(II)I"⟩
abbrev cX7_welds : ByteArray := prog_1_method_31_code
def yX7_welds : MethodName := ⟨RX7, "welds", "(II)I"⟩
abbrev cX7_proof : ByteArray := prog_1_method_32_code
def yX7_proof : MethodName := ⟨RX7, "proof", "(II)C"⟩
abbrev cX7_states : ByteArray := prog_1_method_33_code
def yX7_states : MethodName := ⟨RX7, "states", "(II)I"⟩
abbrev cX7_uncovered : ByteArray := prog_1_method_34_code
def yX7_uncovered : MethodName := ⟨RX7, "uncovered", "(I)I"⟩
abbrev cX7_deal : ByteArray := prog_1_method_35_code
def yX7_deal : MethodName := ⟨RX7, "deal", "(I)I"⟩
abbrev cX7_requireProgram : ByteArray := prog_1_method_36_code
def yX7_requireProgram : MethodName := ⟨RX7, "requireProgram", "(II)LSpotbeat$Program;"⟩
abbrev cX7_isStep : ByteArray := prog_1_method_37_code
def yX7_isStep : MethodName := ⟨RX7, "isStep", "(CI)Z"⟩
abbrev cX7_fits : ByteArray := prog_1_method_38_code
def yX7_fits : MethodName := ⟨RX7, "fits", "(IICI)Z"⟩
abbrev cX7_spotWelded : ByteArray := prog_1_method_39_code
def yX7_spotWelded : MethodName := ⟨RX7, "spotWelded", "(LSpotbeat$Program;I)LSpotbeat$Spot;"⟩
abbrev cX7_explore : ByteArray := prog_1_method_40_code
def yX7_explore : MethodName := ⟨RX7, "explore", "(II)V"⟩
abbrev cX7_isUncovered : ByteArray := prog_1_method_41_code
def yX7_isUncovered : MethodName := ⟨RX7, "isUncovered", "(LSpotbeat$Spot;I)Z"⟩
abbrev cX7_hasWeld : ByteArray := prog_1_method_42_code
def yX7_hasWeld : MethodName := ⟨RX7, "hasWeld", "(LSpotbeat$Program;LSpotbeat$Spot;)Z"⟩
abbrev cX7_dealSpot : ByteArray := prog_1_method_43_code
def yX7_dealSpot : MethodName := ⟨RX7, "dealSpot", "(LSpotbeat$Spot;I)Z"⟩
abbrev cX7_canBeDealt : ByteArray := prog_1_method_44_code
def yX7_canBeDealt : MethodName := ⟨RX7, "canBeDealt", "(LSpotbeat$Robot;LSpotbeat$Spot;)Z"⟩
abbrev cX7_order : ByteArray := prog_1_method_45_code
def yX7_order : MethodName := ⟨RX7, "order", "(I)I"⟩
abbrev cX7_beat : ByteArray := prog_1_method_46_code
def yX7_beat : MethodName := ⟨RX7, "beat", "()I"⟩
abbrev cX7_beats : ByteArray := prog_1_method_47_code
def yX7_beats : MethodName := ⟨RX7, "beats", "()I"⟩
abbrev cX7_at : ByteArray := prog_1_method_48_code
def yX7_at : MethodName := ⟨RX7, "at", "(I)I"⟩
abbrev cX7_where : ByteArray := prog_1_method_49_code
def yX7_where : MethodName := ⟨RX7, "where", "(I)I"⟩
abbrev cX7_waiting : ByteArray := prog_1_method_50_code
def yX7_waiting : MethodName := ⟨RX7, "waiting", "()I"⟩
abbrev cX7_stand : ByteArray := prog_1_method_51_code
def yX7_stand : MethodName := ⟨RX7, "stand", "(IZ)Z"⟩
abbrev cX7_letters : ByteArray := prog_1_method_52_code
def yX7_letters : MethodName := ⟨RX7, "letters", "(IC)I"⟩
abbrev cX7_run : ByteArray := prog_1_method_53_code
def yX7_run : MethodName := ⟨RX7, "run", "(LSpotbeat$Station;)Z"⟩
abbrev cX7_bringWaiting : ByteArray := prog_1_method_54_code
def yX7_bringWaiting : MethodName := ⟨RX7, "bringWaiting", "()V"⟩
abbrev cX7_countAt : ByteArray := prog_1_method_55_code
def yX7_countAt : MethodName := ⟨RX7, "countAt", "(I)I"⟩
abbrev cX7_work : ByteArray := prog_1_method_56_code
def yX7_work : MethodName := ⟨RX7, "work", "(LSpotbeat$Station;LSpotbeat$Body;)V"⟩
abbrev cX7_welderFor : ByteArray := prog_1_method_57_code
def yX7_welderFor : MethodName := ⟨RX7, "welderFor", "(LSpotbeat$Robot;LSpotbeat$Spot;)LSpotbeat$Robot;"⟩
abbrev cX7_weld : ByteArray := prog_1_method_58_code
def yX7_weld : MethodName := ⟨RX7, "weld", "(LSpotbeat$Robot;LSpotbeat$Spot;LSpotbeat$Body;)V"⟩
abbrev cX7_lackingOf : ByteArray := prog_1_method_59_code
def yX7_lackingOf : MethodName := ⟨RX7, "lackingOf", "(LSpotbeat$Body;Z)I"⟩
abbrev cX7_lackingOf_ : ByteArray := prog_1_method_60_code
def yX7_lackingOf_ : MethodName := ⟨RX7, "lackingOf", "(LSpotbeat$Body;)I"⟩
abbrev cX7_measureOf : ByteArray := prog_1_method_61_code
def yX7_measureOf : MethodName := ⟨RX7, "measureOf", "(LSpotbeat$Body;)I"⟩
abbrev cX7_die : ByteArray := prog_1_method_62_code
def yX7_die : MethodName := ⟨RX7, "die", "(IZ)Z"⟩
abbrev cX7_standIn : ByteArray := prog_1_method_63_code
def yX7_standIn : MethodName := ⟨RX7, "standIn", "(II)I"⟩
abbrev cX7_wear : ByteArray := prog_1_method_64_code
def yX7_wear : MethodName := ⟨RX7, "wear", "(I)I"⟩
abbrev cX7_dress : ByteArray := prog_1_method_65_code
def yX7_dress : MethodName := ⟨RX7, "dress", "(I)I"⟩
abbrev cX7_change : ByteArray := prog_1_method_66_code
def yX7_change : MethodName := ⟨RX7, "change", "(I)I"⟩
abbrev cX7_made : ByteArray := prog_1_method_67_code
def yX7_made : MethodName := ⟨RX7, "made", "(I)I"⟩
abbrev cX7_lacks : ByteArray := prog_1_method_68_code
def yX7_lacks : MethodName := ⟨RX7, "lacks", "(I)I"⟩
abbrev cX7_isLacking : ByteArray := prog_1_method_69_code
def yX7_isLacking : MethodName := ⟨RX7, "isLacking", "(II)Z"⟩
abbrev cX7_firstLacking : ByteArray := prog_1_method_70_code
def yX7_firstLacking : MethodName := ⟨RX7, "firstLacking", "(I)I"⟩
abbrev cX7_mend : ByteArray := prog_1_method_71_code
def yX7_mend : MethodName := ⟨RX7, "mend", "(II)I"⟩
abbrev cX7_maker : ByteArray := prog_1_method_72_code
def yX7_maker : MethodName := ⟨RX7, "maker", "(II)I"⟩
abbrev cX7_whole : ByteArray := prog_1_method_73_code
def yX7_whole : MethodName := ⟨RX7, "whole", "()I"⟩
abbrev cX7_offset : ByteArray := prog_1_method_74_code
def yX7_offset : MethodName := ⟨RX7, "offset", "(II)I"⟩
abbrev cX7_measure : ByteArray := prog_1_method_75_code
def yX7_measure : MethodName := ⟨RX7, "measure", "(I)I"⟩
abbrev cX7_feedBack : ByteArray := prog_1_method_76_code
def yX7_feedBack : MethodName := ⟨RX7, "feedBack", "(II)I"⟩
abbrev cX7_meanOfLast : ByteArray := prog_1_method_77_code
def yX7_meanOfLast : MethodName := ⟨RX7, "meanOfLast", "(I)I"⟩
abbrev cX7_checksum : ByteArray := prog_1_method_78_code
def yX7_checksum : MethodName := ⟨RX7, "checksum", "()J"⟩
abbrev cX7_wholeShare : ByteArray := prog_1_method_79_code
def yX7_wholeShare : MethodName := ⟨RX7, "wholeShare", "()F"⟩
abbrev cX7_meanMeasure : ByteArray := prog_1_method_80_code
def yX7_meanMeasure : MethodName := ⟨RX7, "meanMeasure", "()D"⟩
abbrev cX7_isSound : ByteArray := prog_1_method_81_code
def yX7_isSound : MethodName := ⟨RX7, "isSound", "()Z"⟩
abbrev cX7_stationsAreSound : ByteArray := prog_1_method_82_code
def yX7_stationsAreSound : MethodName := ⟨RX7, "stationsAreSound", "()Z"⟩
abbrev cX7_orderIsSound : ByteArray := prog_1_method_83_code
def yX7_orderIsSound : MethodName := ⟨RX7, "orderIsSound", "()Z"⟩
abbrev cX7_isPlaced : ByteArray := prog_1_method_84_code
def yX7_isPlaced : MethodName := ⟨RX7, "isPlaced", "(LSpotbeat$Body;)Z"⟩
abbrev cX7_isBehind : ByteArray := prog_1_method_85_code
def yX7_isBehind : MethodName := ⟨RX7, "isBehind", "(LSpotbeat$Body;LSpotbeat$Body;)Z"⟩
abbrev cX7_makersAreSound : ByteArray := prog_1_method_86_code
def yX7_makersAreSound : MethodName := ⟨RX7, "makersAreSound", "()Z"⟩
abbrev cX7_isMakerSound : ByteArray := prog_1_method_87_code
def yX7_isMakerSound : MethodName := ⟨RX7, "isMakerSound", "(ILSpotbeat$Spot;)Z"⟩
def RX8 : String := "SpotbeatModel$Body"
def TX8 : u_T := fun k => match k with
  | 0 => ("SpotbeatModel$Body", "variant", "I", true)
  | 1 => ("SpotbeatModel$Body", "makers", "[I", true)
  | 2 => ("SpotbeatModel$Body", "where", "I", false)
  | _ => ("SpotbeatModel$Body", "measure", "I", false)
def tyX8 : Nat → FieldType := fun k => match k with
  | 0 => .int
  | 1 => .array .int
  | 2 => .int
  | _ => .int
abbrev wsX80 : List Cond := u_ws RX8 TX8 4
theorem nmX8 : ∀ a, a < 4 → ∀ b, b < 4 → a ≠ b → (TX8 a).2.1 ≠ (TX8 b).2.1 := by decide +kernel
theorem tyX8_ok : ∀ k, k < 4 → parseFieldDescriptor (TX8 k).2.2.1 = some (tyX8 k) := by decide +kernel
abbrev cX8_init : ByteArray := prog_11_method_1_code
def yX8_init : MethodName := ⟨RX8, "<init>", "(I)V"⟩
def RX9 : String := "SpotbeatModel$Robot"
def TX9 : u_T := fun k => match k with
  | 0 => ("SpotbeatModel$Robot", "station", "I", true)
  | 1 => ("SpotbeatModel$Robot", "base", "I", true)
  | 2 => ("SpotbeatModel$Robot", "reach", "I", true)
  | 3 => ("SpotbeatModel$Robot", "programs", "Ljava/util/List;", true)
  | 4 => ("SpotbeatModel$Robot", "current", "I", false)
  | 5 => ("SpotbeatModel$Robot", "wear", "I", false)
  | 6 => ("SpotbeatModel$Robot", "dressed", "I", false)
  | 7 => ("SpotbeatModel$Robot", "standIn", "I", false)
  | 8 => ("SpotbeatModel$Robot", "made", "I", false)
  | _ => ("SpotbeatModel$Robot", "isDead", "Z", false)
def tyX9 : Nat → FieldType := fun k => match k with
  | 0 => .int
  | 1 => .int
  | 2 => .int
  | 3 => .object "java/util/List"
  | 4 => .int
  | 5 => .int
  | 6 => .int
  | 7 => .int
  | 8 => .int
  | _ => .boolean
abbrev wsX90 : List Cond := u_ws RX9 TX9 10
theorem nmX9 : ∀ a, a < 10 → ∀ b, b < 10 → a ≠ b → (TX9 a).2.1 ≠ (TX9 b).2.1 := by decide +kernel
theorem tyX9_ok : ∀ k, k < 10 → parseFieldDescriptor (TX9 k).2.2.1 = some (tyX9 k) := by decide +kernel
abbrev cX9_init : ByteArray := prog_12_method_1_code
def yX9_init : MethodName := ⟨RX9, "<init>", "(III)V"⟩
abbrev cX9_reaches : ByteArray := prog_12_method_2_code
def yX9_reaches : MethodName := ⟨RX9, "reaches", "(I)Z"⟩
abbrev cX9_placeAt : ByteArray := prog_12_method_3_code
def yX9_placeAt : MethodName := ⟨RX9, "placeAt", "(II)I"⟩
abbrev cX9_zonesAt : ByteArray := prog_12_method_4_code
def yX9_zonesAt : MethodName := ⟨RX9, "zonesAt", "(II)I"⟩
def RX10 : String := "SpotbeatModel$Spot"
def TX10 : u_T := fun k => match k with
  | 0 => ("SpotbeatModel$Spot", "one", "I", true)
  | 1 => ("SpotbeatModel$Spot", "other", "I", true)
  | 2 => ("SpotbeatModel$Spot", "place", "I", true)
  | 3 => ("SpotbeatModel$Spot", "variants", "I", true)
  | 4 => ("SpotbeatModel$Spot", "need", "I", true)
  | _ => ("SpotbeatModel$Spot", "holds", "Z", true)
def tyX10 : Nat → FieldType := fun k => match k with
  | 0 => .int
  | 1 => .int
  | 2 => .int
  | 3 => .int
  | 4 => .int
  | _ => .boolean
abbrev wsX100 : List Cond := u_ws RX10 TX10 6
theorem nmX10 : ∀ a, a < 6 → ∀ b, b < 6 → a ≠ b → (TX10 a).2.1 ≠ (TX10 b).2.1 := by decide +kernel
theorem tyX10_ok : ∀ k, k < 6 → parseFieldDescriptor (TX10 k).2.2.1 = some (tyX10 k) := by decide +kernel
abbrev cX10_init : ByteArray := prog_13_method_1_code
def yX10_init : MethodName := ⟨RX10, "<init>", "(IIIIIZ)V"⟩
abbrev cX10_isOf : ByteArray := prog_13_method_2_code
def yX10_isOf : MethodName := ⟨RX10, "isOf", "(I)Z"⟩
def RX11 : String := "SpotbeatModel$Station"
def TX11 : u_T := fun k => match k with
  | 0 => ("SpotbeatModel$Station", "robots", "Ljava/util/List;", true)
  | 1 => ("SpotbeatModel$Station", "letters", "[I", true)
  | 2 => ("SpotbeatModel$Station", "body", "I", false)
  | 3 => ("SpotbeatModel$Station", "offset", "I", false)
  | 4 => ("SpotbeatModel$Station", "stands", "Z", false)
  | _ => ("SpotbeatModel$Station", "isWorked", "Z", false)
def tyX11 : Nat → FieldType := fun k => match k with
  | 0 => .object "java/util/List"
  | 1 => .array .int
  | 2 => .int
  | 3 => .int
  | 4 => .boolean
  | _ => .boolean
abbrev wsX110 : List Cond := u_ws RX11 TX11 6
theorem nmX11 : ∀ a, a < 6 → ∀ b, b < 6 → a ≠ b → (TX11 a).2.1 ≠ (TX11 b).2.1 := by decide +kernel
theorem tyX11_ok : ∀ k, k < 6 → parseFieldDescriptor (TX11 k).2.2.1 = some (tyX11 k) := by decide +kernel
abbrev cX11_init : ByteArray := prog_14_method_1_code
def yX11_init : MethodName := ⟨RX11, "<init>", "()V"⟩
def RX12 : String := "SpotbeatModel"
def TX12 : u_T := fun k => match k with
  | 0 => ("SpotbeatModel", "thrown", "I", false)
  | 1 => ("SpotbeatModel", "parents", "Ljava/util/List;", true)
  | 2 => ("SpotbeatModel", "spots", "Ljava/util/List;", true)
  | 3 => ("SpotbeatModel", "stations", "Ljava/util/List;", true)
  | 4 => ("SpotbeatModel", "robots", "Ljava/util/List;", true)
  | 5 => ("SpotbeatModel", "bodies", "Ljava/util/List;", true)
  | 6 => ("SpotbeatModel", "waits", "I", false)
  | _ => ("SpotbeatModel", "beats", "I", false)
def tyX12 : Nat → FieldType := fun k => match k with
  | 0 => .int
  | 1 => .object "java/util/List"
  | 2 => .object "java/util/List"
  | 3 => .object "java/util/List"
  | 4 => .object "java/util/List"
  | 5 => .object "java/util/List"
  | 6 => .int
  | _ => .int
abbrev wsX120 : List Cond := u_ws RX12 TX12 8
theorem nmX12 : ∀ a, a < 8 → ∀ b, b < 8 → a ≠ b → (TX12 a).2.1 ≠ (TX12 b).2.1 := by decide +kernel
theorem tyX12_ok : ∀ k, k < 8 → parseFieldDescriptor (TX12 k).2.2.1 = some (tyX12 k) := by decide +kernel
abbrev cX12_init : ByteArray := prog_10_method_1_code
def yX12_init : MethodName := ⟨RX12, "<init>", "()V"⟩
abbrev cX12_thrown : ByteArray := prog_10_method_2_code
def yX12_thrown : MethodName := ⟨RX12, "thrown", "()I"⟩
abbrev cX12_isWrong : ByteArray := prog_10_method_3_code
def yX12_isWrong : MethodName := ⟨RX12, "isWrong", "(I)Z"⟩
abbrev cX12_isBetween : ByteArray := prog_10_method_4_code
def yX12_isBetween : MethodName := ⟨RX12, "isBetween", "(III)Z"⟩
abbrev cX12_isOf : ByteArray := prog_10_method_5_code
def yX12_isOf : MethodName := ⟨RX12, "isOf", "(Ljava/util/List;I)Z"⟩
abbrev cX12_isPlace : ByteArray := prog_10_method_6_code
def yX12_isPlace : MethodName := ⟨RX12, "isPlace", "(I)Z"⟩
abbrev cX12_isVariant : ByteArray := prog_10_method_7_code
def yX12_isVariant : MethodName := ⟨RX12, "isVariant", "(I)Z"⟩
abbrev cX12_panel : ByteArray := prog_10_method_8_code
def yX12_panel : MethodName := ⟨RX12, "panel", "(I)I"⟩
abbrev cX12_spot : ByteArray := prog_10_method_9_code
def yX12_spot : MethodName := ⟨RX12, "spot", "(IIIIIZ)I"⟩
abbrev cX12_spots : ByteArray := prog_10_method_10_code
def yX12_spots : MethodName := ⟨RX12, "spots", "(I)I"⟩
abbrev cX12_isHeld : ByteArray := prog_10_method_11_code
def yX12_isHeld : MethodName := ⟨RX12, "isHeld", "(I)Z"⟩
abbrev cX12_station : ByteArray := prog_10_method_12_code
def yX12_station : MethodName := ⟨RX12, "station", "()I"⟩
abbrev cX12_robot : ByteArray := prog_10_method_13_code
def yX12_robot : MethodName := ⟨RX12, "robot", "(III)I"⟩
abbrev cX12_reaches : ByteArray := prog_10_method_14_code
def yX12_reaches : MethodName := ⟨RX12, "reaches", "(II)Z"⟩
abbrev cX12_swept : ByteArray := prog_10_method_15_code
def yX12_swept : MethodName := ⟨RX12, "swept", "(II)I"⟩
abbrev cX12_current : ByteArray := prog_10_method_16_code
def yX12_current : MethodName := ⟨RX12, "current", "(II)I"⟩
abbrev cX12_step : ByteArray := prog_10_method_17_code
def yX12_step : MethodName := ⟨RX12, "step", "(IICI)I"⟩
abbrev cX12_isNoProgram : ByteArray := prog_10_method_18_code
def yX12_isNoProgram : MethodName := ⟨RX12, "isNoProgram", "(II)Z"⟩
abbrev cX12_erase : ByteArray := prog_10_method_19_code
def yX12_erase : MethodName := ⟨RX12, "erase", "(II)I"⟩
abbrev cX12_steps : ByteArray := prog_10_method_20_code
def yX12_steps : MethodName := ⟨RX12, "steps", "(II)I"⟩
abbrev cX12_isWeld : ByteArray := prog_10_method_21_code
def yX12_isWeld : MethodName := ⟨RX12, "isWeld", "(LSpotbeatModel$Robot;II)Z"⟩
abbrev cX12_welds : ByteArray := prog_10_method_22_code
def yX12_welds : MethodName := ⟨RX12, "welds", "(II)I"⟩
abbrev cX12_canStep : ByteArray := prog_10_method_23_code
def yX12_canStep : MethodName := ⟨RX12, "canStep", "([ILjava/util/List;II)Z"⟩
abbrev cX12_isHolding : ByteArray := prog_10_method_24_code
def yX12_isHolding : MethodName := ⟨RX12, "isHolding", "(LSpotbeatModel$Robot;III)Z"⟩
abbrev cX12_canMeet : ByteArray := prog_10_method_25_code
def yX12_canMeet : MethodName := ⟨RX12, "canMeet", "([ILjava/util/List;I)Z"⟩
abbrev cX12_robotsOf : ByteArray := prog_10_method_26_code
def yX12_robotsOf : MethodName := ⟨RX12, "robotsOf", "(I)Ljava/util/List;"⟩
abbrev cX12_reached : ByteArray := prog_10_method_27_code
def yX12_reached : MethodName := ⟨RX12, "reached", "(II)Ljava/util/List;"⟩
abbrev cX12_isNoStation : ByteArray := prog_10_method_28_code
def yX12_isNoStation : MethodName := ⟨RX12, "isNoStation", "(II)Z"⟩
abbrev cX12_proof : ByteArray := prog_10_method_29_code
def yX12_proof : MethodName := ⟨RX12, "proof", "(II)C"⟩
abbrev cX12_states : ByteArray := prog_10_method_30_code
def yX12_states : MethodName := ⟨RX12, "states", "(II)I"⟩
abbrev cX12_isCovered : ByteArray := prog_10_method_31_code
def yX12_isCovered : MethodName := ⟨RX12, "isCovered", "(II)Z"⟩
abbrev cX12_uncovered : ByteArray := prog_10_method_32_code
def yX12_uncovered : MethodName := ⟨RX12, "uncovered", "(I)I"⟩
abbrev cX12_deal : ByteArray := prog_10_method_33_code
def yX12_deal : MethodName := ⟨RX12, "deal", "(I)I"⟩
abbrev cX12_isLackingNow : ByteArray := prog_10_method_34_code
def yX12_isLackingNow : MethodName := ⟨RX12, "isLackingNow", "(LSpotbeatModel$Body;I)Z"⟩
abbrev cX12_lacking : ByteArray := prog_10_method_35_code
def yX12_lacking : MethodName := ⟨RX12, "lacking", "(LSpotbeatModel$Body;Z)I"⟩
abbrev cX12_lacking_ : ByteArray := prog_10_method_36_code
def yX12_lacking_ : MethodName := ⟨RX12, "lacking", "(LSpotbeatModel$Body;)I"⟩
abbrev cX12_order : ByteArray := prog_10_method_37_code
def yX12_order : MethodName := ⟨RX12, "order", "(I)I"⟩
abbrev cX12_welds_ : ByteArray := prog_10_method_38_code
def yX12_welds_ : MethodName := ⟨RX12, "welds", "(LSpotbeatModel$Body;II)V"⟩
abbrev cX12_works : ByteArray := prog_10_method_39_code
def yX12_works : MethodName := ⟨RX12, "works", "(LSpotbeatModel$Station;)V"⟩
abbrev cX12_goesOff : ByteArray := prog_10_method_40_code
def yX12_goesOff : MethodName := ⟨RX12, "goesOff", "(LSpotbeatModel$Body;)V"⟩
abbrev cX12_beat : ByteArray := prog_10_method_41_code
def yX12_beat : MethodName := ⟨RX12, "beat", "()I"⟩
abbrev cX12_comes : ByteArray := prog_10_method_42_code
def yX12_comes : MethodName := ⟨RX12, "comes", "(II)V"⟩
abbrev cX12_beats : ByteArray := prog_10_method_43_code
def yX12_beats : MethodName := ⟨RX12, "beats", "()I"⟩
abbrev cX12_at : ByteArray := prog_10_method_44_code
def yX12_at : MethodName := ⟨RX12, "at", "(I)I"⟩
abbrev cX12_isNoBody : ByteArray := prog_10_method_45_code
def yX12_isNoBody : MethodName := ⟨RX12, "isNoBody", "(I)Z"⟩
abbrev cX12_where : ByteArray := prog_10_method_46_code
def yX12_where : MethodName := ⟨RX12, "where", "(I)I"⟩
abbrev cX12_waiting : ByteArray := prog_10_method_47_code
def yX12_waiting : MethodName := ⟨RX12, "waiting", "()I"⟩
abbrev cX12_stand : ByteArray := prog_10_method_48_code
def yX12_stand : MethodName := ⟨RX12, "stand", "(IZ)Z"⟩
abbrev cX12_letters : ByteArray := prog_10_method_49_code
def yX12_letters : MethodName := ⟨RX12, "letters", "(IC)I"⟩
abbrev cX12_isNoRobot : ByteArray := prog_10_method_50_code
def yX12_isNoRobot : MethodName := ⟨RX12, "isNoRobot", "(I)Z"⟩
abbrev cX12_die : ByteArray := prog_10_method_51_code
def yX12_die : MethodName := ⟨RX12, "die", "(IZ)Z"⟩
abbrev cX12_standIn : ByteArray := prog_10_method_52_code
def yX12_standIn : MethodName := ⟨RX12, "standIn", "(II)I"⟩
abbrev cX12_wear : ByteArray := prog_10_method_53_code
def yX12_wear : MethodName := ⟨RX12, "wear", "(I)I"⟩
abbrev cX12_dress : ByteArray := prog_10_method_54_code
def yX12_dress : MethodName := ⟨RX12, "dress", "(I)I"⟩
abbrev cX12_change : ByteArray := prog_10_method_55_code
def yX12_change : MethodName := ⟨RX12, "change", "(I)I"⟩
abbrev cX12_made : ByteArray := prog_10_method_56_code
def yX12_made : MethodName := ⟨RX12, "made", "(I)I"⟩
abbrev cX12_lacks : ByteArray := prog_10_method_57_code
def yX12_lacks : MethodName := ⟨RX12, "lacks", "(I)I"⟩
abbrev cX12_isNoSpot : ByteArray := prog_10_method_58_code
def yX12_isNoSpot : MethodName := ⟨RX12, "isNoSpot", "(II)Z"⟩
abbrev cX12_isLacking : ByteArray := prog_10_method_59_code
def yX12_isLacking : MethodName := ⟨RX12, "isLacking", "(II)Z"⟩
abbrev cX12_firstLacking : ByteArray := prog_10_method_60_code
def yX12_firstLacking : MethodName := ⟨RX12, "firstLacking", "(I)I"⟩
abbrev cX12_mend : ByteArray := prog_10_method_61_code
def yX12_mend : MethodName := ⟨RX12, "mend", "(II)I"⟩
abbrev cX12_maker : ByteArray := prog_10_method_62_code
def yX12_maker : MethodName := ⟨RX12, "maker", "(II)I"⟩
abbrev cX12_off : ByteArray := prog_10_method_63_code
def yX12_off : MethodName := ⟨RX12, "off", "()I"⟩
abbrev cX12_wholes : ByteArray := prog_10_method_64_code
def yX12_wholes : MethodName := ⟨RX12, "wholes", "()I"⟩
abbrev cX12_whole : ByteArray := prog_10_method_65_code
def yX12_whole : MethodName := ⟨RX12, "whole", "()I"⟩
abbrev cX12_offset : ByteArray := prog_10_method_66_code
def yX12_offset : MethodName := ⟨RX12, "offset", "(II)I"⟩
abbrev cX12_measure : ByteArray := prog_10_method_67_code
def yX12_measure : MethodName := ⟨RX12, "measure", "(I)I"⟩
abbrev cX12_feedBack : ByteArray := prog_10_method_68_code
def yX12_feedBack : MethodName := ⟨RX12, "feedBack", "(II)I"⟩
abbrev cX12_checksum : ByteArray := prog_10_method_69_code
def yX12_checksum : MethodName := ⟨RX12, "checksum", "()J"⟩
abbrev cX12_wholeShare : ByteArray := prog_10_method_70_code
def yX12_wholeShare : MethodName := ⟨RX12, "wholeShare", "()F"⟩
abbrev cX12_meanMeasure : ByteArray := prog_10_method_71_code
def yX12_meanMeasure : MethodName := ⟨RX12, "meanMeasure", "()D"⟩
abbrev cX12_isSound : ByteArray := prog_10_method_72_code
def yX12_isSound : MethodName := ⟨RX12, "isSound", "()Z"⟩
def RJx145de : String := "java/io/Serializable"
def TJx145de : u_T := fun k => match k with
  | _ => ("", "", "", false)
def tyJx145de : Nat → FieldType := fun k => match k with
  | _ => .int
abbrev wsJx145de0 : List Cond := u_ws RJx145de TJx145de 0
theorem nmJx145de : ∀ a, a < 0 → ∀ b, b < 0 → a ≠ b → (TJx145de a).2.1 ≠ (TJx145de b).2.1 := by decide +kernel
theorem tyJx145de_ok : ∀ k, k < 0 → parseFieldDescriptor (TJx145de k).2.2.1 = some (tyJx145de k) := by decide +kernel
def RJx9f9b0 : String := "java/lang/CharSequence"
def TJx9f9b0 : u_T := fun k => match k with
  | _ => ("", "", "", false)
def tyJx9f9b0 : Nat → FieldType := fun k => match k with
  | _ => .int
abbrev wsJx9f9b00 : List Cond := u_ws RJx9f9b0 TJx9f9b0 0
theorem nmJx9f9b0 : ∀ a, a < 0 → ∀ b, b < 0 → a ≠ b → (TJx9f9b0 a).2.1 ≠ (TJx9f9b0 b).2.1 := by decide +kernel
theorem tyJx9f9b0_ok : ∀ k, k < 0 → parseFieldDescriptor (TJx9f9b0 k).2.2.1 = some (tyJx9f9b0 k) := by decide +kernel
def RJ11 : String := "java/lang/Character"
def TJ11 : u_T := fun k => match k with
  | _ => ("", "", "", false)
def tyJ11 : Nat → FieldType := fun k => match k with
  | _ => .int
abbrev wsJ110 : List Cond := u_ws RJ11 TJ11 0
theorem nmJ11 : ∀ a, a < 0 → ∀ b, b < 0 → a ≠ b → (TJ11 a).2.1 ≠ (TJ11 b).2.1 := by decide +kernel
theorem tyJ11_ok : ∀ k, k < 0 → parseFieldDescriptor (TJ11 k).2.2.1 = some (tyJ11 k) := by decide +kernel
abbrev cJ11_isValidCodePoint_9a6ad : ByteArray := prog_17_method_11_code
def yJ11_isValidCodePoint_9a6ad : MethodName := ⟨RJ11, "isValidCodePoint", "(I)Z"⟩
abbrev cJ11_highSurrogate_5068e : ByteArray := prog_17_method_28_code
def yJ11_highSurrogate_5068e : MethodName := ⟨RJ11, "highSurrogate", "(I)C"⟩
abbrev cJ11_lowSurrogate_5068e : ByteArray := prog_17_method_29_code
def yJ11_lowSurrogate_5068e : MethodName := ⟨RJ11, "lowSurrogate", "(I)C"⟩
def RJx8e188 : String := "java/lang/Cloneable"
def TJx8e188 : u_T := fun k => match k with
  | _ => ("", "", "", false)
def tyJx8e188 : Nat → FieldType := fun k => match k with
  | _ => .int
abbrev wsJx8e1880 : List Cond := u_ws RJx8e188 TJx8e188 0
theorem nmJx8e188 : ∀ a, a < 0 → ∀ b, b < 0 → a ≠ b → (TJx8e188 a).2.1 ≠ (TJx8e188 b).2.1 := by decide +kernel
theorem tyJx8e188_ok : ∀ k, k < 0 → parseFieldDescriptor (TJx8e188 k).2.2.1 = some (tyJx8e188 k) := by decide +kernel
def RJxb160c : String := "java/lang/Comparable"
def TJxb160c : u_T := fun k => match k with
  | _ => ("", "", "", false)
def tyJxb160c : Nat → FieldType := fun k => match k with
  | _ => .int
abbrev wsJxb160c0 : List Cond := u_ws RJxb160c TJxb160c 0
theorem nmJxb160c : ∀ a, a < 0 → ∀ b, b < 0 → a ≠ b → (TJxb160c a).2.1 ≠ (TJxb160c b).2.1 := by decide +kernel
theorem tyJxb160c_ok : ∀ k, k < 0 → parseFieldDescriptor (TJxb160c k).2.2.1 = some (tyJxb160c k) := by decide +kernel
def RJxabbfe : String := "java/lang/Integer$IntegerCache"
def TJxabbfe : u_T := fun k => match k with
  | _ => ("", "", "", false)
def tyJxabbfe : Nat → FieldType := fun k => match k with
  | _ => .int
abbrev wsJxabbfe0 : List Cond := u_ws RJxabbfe TJxabbfe 0
theorem nmJxabbfe : ∀ a, a < 0 → ∀ b, b < 0 → a ≠ b → (TJxabbfe a).2.1 ≠ (TJxabbfe b).2.1 := by decide +kernel
theorem tyJxabbfe_ok : ∀ k, k < 0 → parseFieldDescriptor (TJxabbfe k).2.2.1 = some (tyJxabbfe k) := by decide +kernel
def RJ6 : String := "java/lang/Integer"
def TJ6 : u_T := fun k => match k with
  | _ => ("java/lang/Integer", "value", "I", true)
def tyJ6 : Nat → FieldType := fun k => match k with
  | _ => .int
abbrev wsJ60 : List Cond := u_ws RJ6 TJ6 1
theorem nmJ6 : ∀ a, a < 1 → ∀ b, b < 1 → a ≠ b → (TJ6 a).2.1 ≠ (TJ6 b).2.1 := by decide +kernel
theorem tyJ6_ok : ∀ k, k < 1 → parseFieldDescriptor (TJ6 k).2.2.1 = some (tyJ6 k) := by decide +kernel
abbrev cJ6_valueOf_2dffe : ByteArray := prog_24_method_22_code
def yJ6_valueOf_2dffe : MethodName := ⟨RJ6, "valueOf", "(I)Ljava/lang/Integer;"⟩
abbrev cJ6_init_d00df : ByteArray := prog_24_method_23_code
def yJ6_init_d00df : MethodName := ⟨RJ6, "<init>", "(I)V"⟩
abbrev cJ6_intValue_8abf5 : ByteArray := prog_24_method_27_code
def yJ6_intValue_8abf5 : MethodName := ⟨RJ6, "intValue", "()I"⟩
def RJxab1ab : String := "java/lang/Iterable"
def TJxab1ab : u_T := fun k => match k with
  | _ => ("", "", "", false)
def tyJxab1ab : Nat → FieldType := fun k => match k with
  | _ => .int
abbrev wsJxab1ab0 : List Cond := u_ws RJxab1ab TJxab1ab 0
theorem nmJxab1ab : ∀ a, a < 0 → ∀ b, b < 0 → a ≠ b → (TJxab1ab a).2.1 ≠ (TJxab1ab b).2.1 := by decide +kernel
theorem tyJxab1ab_ok : ∀ k, k < 0 → parseFieldDescriptor (TJxab1ab k).2.2.1 = some (tyJxab1ab k) := by decide +kernel
def RJ9 : String := "java/lang/Math"
def TJ9 : u_T := fun k => match k with
  | _ => ("", "", "", false)
def tyJ9 : Nat → FieldType := fun k => match k with
  | _ => .int
abbrev wsJ90 : List Cond := u_ws RJ9 TJ9 0
theorem nmJ9 : ∀ a, a < 0 → ∀ b, b < 0 → a ≠ b → (TJ9 a).2.1 ≠ (TJ9 b).2.1 := by decide +kernel
theorem tyJ9_ok : ∀ k, k < 0 → parseFieldDescriptor (TJ9 k).2.2.1 = some (tyJ9 k) := by decide +kernel
abbrev cJ9_abs_0f7a4 : ByteArray := prog_27_method_59_code
def yJ9_abs_0f7a4 : MethodName := ⟨RJ9, "abs", "(I)I"⟩
abbrev cJ9_max_7cf53 : ByteArray := prog_27_method_65_code
def yJ9_max_7cf53 : MethodName := ⟨RJ9, "max", "(II)I"⟩
abbrev cJ9_min_7cf53 : ByteArray := prog_27_method_69_code
def yJ9_min_7cf53 : MethodName := ⟨RJ9, "min", "(II)I"⟩
def RJxd2413 : String := "java/lang/Number"
def TJxd2413 : u_T := fun k => match k with
  | _ => ("", "", "", false)
def tyJxd2413 : Nat → FieldType := fun k => match k with
  | _ => .int
abbrev wsJxd24130 : List Cond := u_ws RJxd2413 TJxd2413 0
theorem nmJxd2413 : ∀ a, a < 0 → ∀ b, b < 0 → a ≠ b → (TJxd2413 a).2.1 ≠ (TJxd2413 b).2.1 := by decide +kernel
theorem tyJxd2413_ok : ∀ k, k < 0 → parseFieldDescriptor (TJxd2413 k).2.2.1 = some (tyJxd2413 k) := by decide +kernel
abbrev cJxd2413_init_da8c8 : ByteArray := prog_28_method_1_code
def yJxd2413_init_da8c8 : MethodName := ⟨RJxd2413, "<init>", "()V"⟩
def RJ0 : String := "java/lang/String"
def TJ0 : u_T := fun k => match k with
  | _ => ("", "", "", false)
def tyJ0 : Nat → FieldType := fun k => match k with
  | _ => .int
abbrev wsJ00 : List Cond := u_ws RJ0 TJ0 0
theorem nmJ0 : ∀ a, a < 0 → ∀ b, b < 0 → a ≠ b → (TJ0 a).2.1 ≠ (TJ0 b).2.1 := by decide +kernel
theorem tyJ0_ok : ∀ k, k < 0 → parseFieldDescriptor (TJ0 k).2.2.1 = some (tyJ0 k) := by decide +kernel
abbrev cJ0_length_8abf5 : ByteArray := prog_30_method_54_code
def yJ0_length_8abf5 : MethodName := ⟨RJ0, "length", "()I"⟩
abbrev cJ0_indexOf_0f7a4 : ByteArray := prog_30_method_79_code
def yJ0_indexOf_0f7a4 : MethodName := ⟨RJ0, "indexOf", "(I)I"⟩
abbrev cJ0_indexOf_7cf53 : ByteArray := prog_30_method_80_code
def yJ0_indexOf_7cf53 : MethodName := ⟨RJ0, "indexOf", "(II)I"⟩
abbrev cJ0_coder_7d493 : ByteArray := prog_30_method_152_code
def yJ0_coder_7d493 : MethodName := ⟨RJ0, "coder", "()B"⟩
abbrev cJ0_isLatin1_aae02 : ByteArray := prog_30_method_154_code
def yJ0_isLatin1_aae02 : MethodName := ⟨RJ0, "isLatin1", "()Z"⟩
abbrev cJ0_checkBoundsBeginEnd_23922 : ByteArray := prog_30_method_158_code
def yJ0_checkBoundsBeginEnd_23922 : MethodName := ⟨RJ0, "checkBoundsBeginEnd", "(III)V"⟩
def RJ1 : String := "java/lang/StringLatin1"
def TJ1 : u_T := fun k => match k with
  | _ => ("", "", "", false)
def tyJ1 : Nat → FieldType := fun k => match k with
  | _ => .int
abbrev wsJ10 : List Cond := u_ws RJ1 TJ1 0
theorem nmJ1 : ∀ a, a < 0 → ∀ b, b < 0 → a ≠ b → (TJ1 a).2.1 ≠ (TJ1 b).2.1 := by decide +kernel
theorem tyJ1_ok : ∀ k, k < 0 → parseFieldDescriptor (TJ1 k).2.2.1 = some (tyJ1 k) := by decide +kernel
abbrev cJ1_canEncode_9a6ad : ByteArray := prog_31_method_4_code
def yJ1_canEncode_9a6ad : MethodName := ⟨RJ1, "canEncode", "(I)Z"⟩
abbrev cJ1_indexOf_4cfef : ByteArray := prog_31_method_22_code
def yJ1_indexOf_4cfef : MethodName := ⟨RJ1, "indexOf", "([BIII)I"⟩
abbrev cJ1_indexOfChar_4cfef : ByteArray := prog_31_method_23_code
def yJ1_indexOfChar_4cfef : MethodName := ⟨RJ1, "indexOfChar", "([BIII)I"⟩
def RJ2 : String := "java/lang/StringUTF16"
def TJ2 : u_T := fun k => match k with
  | _ => ("", "", "", false)
def tyJ2 : Nat → FieldType := fun k => match k with
  | _ => .int
abbrev wsJ20 : List Cond := u_ws RJ2 TJ2 0
theorem nmJ2 : ∀ a, a < 0 → ∀ b, b < 0 → a ≠ b → (TJ2 a).2.1 ≠ (TJ2 b).2.1 := by decide +kernel
theorem tyJ2_ok : ∀ k, k < 0 → parseFieldDescriptor (TJ2 k).2.2.1 = some (tyJ2 k) := by decide +kernel
abbrev cJ2_getChar_3b067 : ByteArray := prog_32_method_5_code
def yJ2_getChar_3b067 : MethodName := ⟨RJ2, "getChar", "([BI)C"⟩
abbrev cJ2_length_9d52b : ByteArray := prog_32_method_6_code
def yJ2_length_9d52b : MethodName := ⟨RJ2, "length", "([B)I"⟩
abbrev cJ2_indexOf_4cfef : ByteArray := prog_32_method_40_code
def yJ2_indexOf_4cfef : MethodName := ⟨RJ2, "indexOf", "([BIII)I"⟩
abbrev cJ2_indexOfChar_4cfef : ByteArray := prog_32_method_47_code
def yJ2_indexOfChar_4cfef : MethodName := ⟨RJ2, "indexOfChar", "([BIII)I"⟩
abbrev cJ2_indexOfCharUnsafe_4cfef : ByteArray := prog_32_method_48_code
def yJ2_indexOfCharUnsafe_4cfef : MethodName := ⟨RJ2, "indexOfCharUnsafe", "([BIII)I"⟩
abbrev cJ2_indexOfSupplementary_4cfef : ByteArray := prog_32_method_49_code
def yJ2_indexOfSupplementary_4cfef : MethodName := ⟨RJ2, "indexOfSupplementary", "([BIII)I"⟩
abbrev cJ2_checkBoundsBeginEnd_d044e : ByteArray := prog_32_method_93_code
def yJ2_checkBoundsBeginEnd_d044e : MethodName := ⟨RJ2, "checkBoundsBeginEnd", "(II[B)V"⟩
def RJ10 : String := "java/lang/System"
def TJ10 : u_T := fun k => match k with
  | _ => ("", "", "", false)
def tyJ10 : Nat → FieldType := fun k => match k with
  | _ => .int
abbrev wsJ100 : List Cond := u_ws RJ10 TJ10 0
theorem nmJ10 : ∀ a, a < 0 → ∀ b, b < 0 → a ≠ b → (TJ10 a).2.1 ≠ (TJ10 b).2.1 := by decide +kernel
theorem tyJ10_ok : ∀ k, k < 0 → parseFieldDescriptor (TJ10 k).2.2.1 = some (tyJ10 k) := by decide +kernel
def RJxfd54e : String := "java/lang/constant/Constable"
def TJxfd54e : u_T := fun k => match k with
  | _ => ("", "", "", false)
def tyJxfd54e : Nat → FieldType := fun k => match k with
  | _ => .int
abbrev wsJxfd54e0 : List Cond := u_ws RJxfd54e TJxfd54e 0
theorem nmJxfd54e : ∀ a, a < 0 → ∀ b, b < 0 → a ≠ b → (TJxfd54e a).2.1 ≠ (TJxfd54e b).2.1 := by decide +kernel
theorem tyJxfd54e_ok : ∀ k, k < 0 → parseFieldDescriptor (TJxfd54e k).2.2.1 = some (tyJxfd54e k) := by decide +kernel
def RJx3cf43 : String := "java/lang/constant/ConstantDesc"
def TJx3cf43 : u_T := fun k => match k with
  | _ => ("", "", "", false)
def tyJx3cf43 : Nat → FieldType := fun k => match k with
  | _ => .int
abbrev wsJx3cf430 : List Cond := u_ws RJx3cf43 TJx3cf43 0
theorem nmJx3cf43 : ∀ a, a < 0 → ∀ b, b < 0 → a ≠ b → (TJx3cf43 a).2.1 ≠ (TJx3cf43 b).2.1 := by decide +kernel
theorem tyJx3cf43_ok : ∀ k, k < 0 → parseFieldDescriptor (TJx3cf43 k).2.2.1 = some (tyJx3cf43 k) := by decide +kernel
def RJxa1e45 : String := "java/util/AbstractCollection"
def TJxa1e45 : u_T := fun k => match k with
  | _ => ("", "", "", false)
def tyJxa1e45 : Nat → FieldType := fun k => match k with
  | _ => .int
abbrev wsJxa1e450 : List Cond := u_ws RJxa1e45 TJxa1e45 0
theorem nmJxa1e45 : ∀ a, a < 0 → ∀ b, b < 0 → a ≠ b → (TJxa1e45 a).2.1 ≠ (TJxa1e45 b).2.1 := by decide +kernel
theorem tyJxa1e45_ok : ∀ k, k < 0 → parseFieldDescriptor (TJxa1e45 k).2.2.1 = some (tyJxa1e45 k) := by decide +kernel
abbrev cJxa1e45_init_da8c8 : ByteArray := prog_38_method_1_code
def yJxa1e45_init_da8c8 : MethodName := ⟨RJxa1e45, "<init>", "()V"⟩
def RJxc12de : String := "java/util/AbstractList"
def TJxc12de : u_T := fun k => match k with
  | _ => ("", "", "", false)
def tyJxc12de : Nat → FieldType := fun k => match k with
  | _ => .int
abbrev wsJxc12de0 : List Cond := u_ws RJxc12de TJxc12de 0
theorem nmJxc12de : ∀ a, a < 0 → ∀ b, b < 0 → a ≠ b → (TJxc12de a).2.1 ≠ (TJxc12de b).2.1 := by decide +kernel
theorem tyJxc12de_ok : ∀ k, k < 0 → parseFieldDescriptor (TJxc12de k).2.2.1 = some (tyJxc12de k) := by decide +kernel
abbrev cJxc12de_init_da8c8 : ByteArray := prog_39_method_1_code
def yJxc12de_init_da8c8 : MethodName := ⟨RJxc12de, "<init>", "()V"⟩
def RJx35411 : String := "java/util/ArrayList$Itr"
def TJx35411 : u_T := fun k => match k with
  | 0 => ("java/util/ArrayList$Itr", "cursor", "I", false)
  | 1 => ("java/util/ArrayList$Itr", "lastRet", "I", false)
  | 2 => ("java/util/ArrayList$Itr", "expectedModCount", "I", false)
  | _ => ("java/util/ArrayList$Itr", "this$0", "Ljava/util/ArrayList;", true)
def tyJx35411 : Nat → FieldType := fun k => match k with
  | 0 => .int
  | 1 => .int
  | 2 => .int
  | _ => .object "java/util/ArrayList"
abbrev wsJx354110 : List Cond := u_ws RJx35411 TJx35411 4
theorem nmJx35411 : ∀ a, a < 4 → ∀ b, b < 4 → a ≠ b → (TJx35411 a).2.1 ≠ (TJx35411 b).2.1 := by decide +kernel
theorem tyJx35411_ok : ∀ k, k < 4 → parseFieldDescriptor (TJx35411 k).2.2.1 = some (tyJx35411 k) := by decide +kernel
abbrev cJx35411_init_45d68 : ByteArray := prog_41_method_1_code
def yJx35411_init_45d68 : MethodName := ⟨RJx35411, "<init>", "(Ljava/util/ArrayList;)V"⟩
abbrev cJx35411_hasNext_aae02 : ByteArray := prog_41_method_2_code
def yJx35411_hasNext_aae02 : MethodName := ⟨RJx35411, "hasNext", "()Z"⟩
abbrev cJx35411_next_0502b : ByteArray := prog_41_method_3_code
def yJx35411_next_0502b : MethodName := ⟨RJx35411, "next", "()Ljava/lang/Object;"⟩
abbrev cJx35411_checkForComodification_da8c8 : ByteArray := prog_41_method_6_code
def yJx35411_checkForComodification_da8c8 : MethodName := ⟨RJx35411, "checkForComodification", "()V"⟩
def RJx4a65c : String := "java/util/ArrayList"
def TJx4a65c : u_T := fun k => match k with
  | 0 => ("java/util/AbstractList", "modCount", "I", false)
  | 1 => ("java/util/ArrayList", "elementData", "[Ljava/lang/Object;", false)
  | _ => ("java/util/ArrayList", "size", "I", false)
def tyJx4a65c : Nat → FieldType := fun k => match k with
  | 0 => .int
  | 1 => .array (.object "java/lang/Object")
  | _ => .int
abbrev wsJx4a65c0 : List Cond := u_ws RJx4a65c TJx4a65c 3
theorem nmJx4a65c : ∀ a, a < 3 → ∀ b, b < 3 → a ≠ b → (TJx4a65c a).2.1 ≠ (TJx4a65c b).2.1 := by decide +kernel
theorem tyJx4a65c_ok : ∀ k, k < 3 → parseFieldDescriptor (TJx4a65c k).2.2.1 = some (tyJx4a65c k) := by decide +kernel
abbrev cJx4a65c_init_da8c8 : ByteArray := prog_40_method_2_code
def yJx4a65c_init_da8c8 : MethodName := ⟨RJx4a65c, "<init>", "()V"⟩
abbrev cJx4a65c_grow_92f84 : ByteArray := prog_40_method_6_code
def yJx4a65c_grow_92f84 : MethodName := ⟨RJx4a65c, "grow", "(I)[Ljava/lang/Object;"⟩
abbrev cJx4a65c_grow_d5877 : ByteArray := prog_40_method_7_code
def yJx4a65c_grow_d5877 : MethodName := ⟨RJx4a65c, "grow", "()[Ljava/lang/Object;"⟩
abbrev cJx4a65c_size_8abf5 : ByteArray := prog_40_method_8_code
def yJx4a65c_size_8abf5 : MethodName := ⟨RJx4a65c, "size", "()I"⟩
abbrev cJx4a65c_isEmpty_aae02 : ByteArray := prog_40_method_9_code
def yJx4a65c_isEmpty_aae02 : MethodName := ⟨RJx4a65c, "isEmpty", "()Z"⟩
abbrev cJx4a65c_elementData_915e3 : ByteArray := prog_40_method_18_code
def yJx4a65c_elementData_915e3 : MethodName := ⟨RJx4a65c, "elementData", "(I)Ljava/lang/Object;"⟩
abbrev cJx4a65c_get_915e3 : ByteArray := prog_40_method_20_code
def yJx4a65c_get_915e3 : MethodName := ⟨RJx4a65c, "get", "(I)Ljava/lang/Object;"⟩
abbrev cJx4a65c_add_72be8 : ByteArray := prog_40_method_24_code
def yJx4a65c_add_72be8 : MethodName := ⟨RJx4a65c, "add", "(Ljava/lang/Object;[Ljava/lang/Object;I)V"⟩
abbrev cJx4a65c_add_9ea2d : ByteArray := prog_40_method_25_code
def yJx4a65c_add_9ea2d : MethodName := ⟨RJx4a65c, "add", "(Ljava/lang/Object;)Z"⟩
abbrev cJx4a65c_clear_da8c8 : ByteArray := prog_40_method_40_code
def yJx4a65c_clear_da8c8 : MethodName := ⟨RJx4a65c, "clear", "()V"⟩
abbrev cJx4a65c_iterator_32c93 : ByteArray := prog_40_method_55_code
def yJx4a65c_iterator_32c93 : MethodName := ⟨RJx4a65c, "iterator", "()Ljava/util/Iterator;"⟩
def RJ7 : String := "java/util/Arrays"
def TJ7 : u_T := fun k => match k with
  | _ => ("", "", "", false)
def tyJ7 : Nat → FieldType := fun k => match k with
  | _ => .int
abbrev wsJ70 : List Cond := u_ws RJ7 TJ7 0
theorem nmJ7 : ∀ a, a < 0 → ∀ b, b < 0 → a ≠ b → (TJ7 a).2.1 ≠ (TJ7 b).2.1 := by decide +kernel
theorem tyJ7_ok : ∀ k, k < 0 → parseFieldDescriptor (TJ7 k).2.2.1 = some (tyJ7 k) := by decide +kernel
abbrev cJ7_fill_53178 : ByteArray := prog_42_method_103_code
def yJ7_fill_53178 : MethodName := ⟨RJ7, "fill", "([II)V"⟩
abbrev cJ7_copyOf_1904c : ByteArray := prog_42_method_119_code
def yJ7_copyOf_1904c : MethodName := ⟨RJ7, "copyOf", "([Ljava/lang/Object;I)[Ljava/lang/Object;"⟩
abbrev cJ7_copyOf_6403c : ByteArray := prog_42_method_120_code
def yJ7_copyOf_6403c : MethodName := ⟨RJ7, "copyOf", "([Ljava/lang/Object;ILjava/lang/Class;)[Ljava/lang/Object;"⟩
def RJx5ef63 : String := "java/util/Collection"
def TJx5ef63 : u_T := fun k => match k with
  | _ => ("", "", "", false)
def tyJx5ef63 : Nat → FieldType := fun k => match k with
  | _ => .int
abbrev wsJx5ef630 : List Cond := u_ws RJx5ef63 TJx5ef63 0
theorem nmJx5ef63 : ∀ a, a < 0 → ∀ b, b < 0 → a ≠ b → (TJx5ef63 a).2.1 ≠ (TJx5ef63 b).2.1 := by decide +kernel
theorem tyJx5ef63_ok : ∀ k, k < 0 → parseFieldDescriptor (TJx5ef63 k).2.2.1 = some (tyJx5ef63 k) := by decide +kernel
def RJx4d0d8 : String := "java/util/Iterator"
def TJx4d0d8 : u_T := fun k => match k with
  | _ => ("", "", "", false)
def tyJx4d0d8 : Nat → FieldType := fun k => match k with
  | _ => .int
abbrev wsJx4d0d80 : List Cond := u_ws RJx4d0d8 TJx4d0d8 0
theorem nmJx4d0d8 : ∀ a, a < 0 → ∀ b, b < 0 → a ≠ b → (TJx4d0d8 a).2.1 ≠ (TJx4d0d8 b).2.1 := by decide +kernel
theorem tyJx4d0d8_ok : ∀ k, k < 0 → parseFieldDescriptor (TJx4d0d8 k).2.2.1 = some (tyJx4d0d8 k) := by decide +kernel
def RJxbd725 : String := "java/util/List"
def TJxbd725 : u_T := fun k => match k with
  | _ => ("", "", "", false)
def tyJxbd725 : Nat → FieldType := fun k => match k with
  | _ => .int
abbrev wsJxbd7250 : List Cond := u_ws RJxbd725 TJxbd725 0
theorem nmJxbd725 : ∀ a, a < 0 → ∀ b, b < 0 → a ≠ b → (TJxbd725 a).2.1 ≠ (TJxbd725 b).2.1 := by decide +kernel
theorem tyJxbd725_ok : ∀ k, k < 0 → parseFieldDescriptor (TJxbd725 k).2.2.1 = some (tyJxbd725 k) := by decide +kernel
def RJ15 : String := "java/util/Objects"
def TJ15 : u_T := fun k => match k with
  | _ => ("", "", "", false)
def tyJ15 : Nat → FieldType := fun k => match k with
  | _ => .int
abbrev wsJ150 : List Cond := u_ws RJ15 TJ15 0
theorem nmJ15 : ∀ a, a < 0 → ∀ b, b < 0 → a ≠ b → (TJ15 a).2.1 ≠ (TJ15 b).2.1 := by decide +kernel
theorem tyJ15_ok : ∀ k, k < 0 → parseFieldDescriptor (TJ15 k).2.2.1 = some (tyJ15 k) := by decide +kernel
abbrev cJ15_checkIndex_7cf53 : ByteArray := prog_47_method_17_code
def yJ15_checkIndex_7cf53 : MethodName := ⟨RJ15, "checkIndex", "(II)I"⟩
def RJxf0a74 : String := "java/util/RandomAccess"
def TJxf0a74 : u_T := fun k => match k with
  | _ => ("", "", "", false)
def tyJxf0a74 : Nat → FieldType := fun k => match k with
  | _ => .int
abbrev wsJxf0a740 : List Cond := u_ws RJxf0a74 TJxf0a74 0
theorem nmJxf0a74 : ∀ a, a < 0 → ∀ b, b < 0 → a ≠ b → (TJxf0a74 a).2.1 ≠ (TJxf0a74 b).2.1 := by decide +kernel
theorem tyJxf0a74_ok : ∀ k, k < 0 → parseFieldDescriptor (TJxf0a74 k).2.2.1 = some (tyJxf0a74 k) := by decide +kernel
def RJxa66e6 : String := "java/util/SequencedCollection"
def TJxa66e6 : u_T := fun k => match k with
  | _ => ("", "", "", false)
def tyJxa66e6 : Nat → FieldType := fun k => match k with
  | _ => .int
abbrev wsJxa66e60 : List Cond := u_ws RJxa66e6 TJxa66e6 0
theorem nmJxa66e6 : ∀ a, a < 0 → ∀ b, b < 0 → a ≠ b → (TJxa66e6 a).2.1 ≠ (TJxa66e6 b).2.1 := by decide +kernel
theorem tyJxa66e6_ok : ∀ k, k < 0 → parseFieldDescriptor (TJxa66e6 k).2.2.1 = some (tyJxa66e6 k) := by decide +kernel
def RJ8 : String := "jdk/internal/util/ArraysSupport"
def TJ8 : u_T := fun k => match k with
  | _ => ("", "", "", false)
def tyJ8 : Nat → FieldType := fun k => match k with
  | _ => .int
abbrev wsJ80 : List Cond := u_ws RJ8 TJ8 0
theorem nmJ8 : ∀ a, a < 0 → ∀ b, b < 0 → a ≠ b → (TJ8 a).2.1 ≠ (TJ8 b).2.1 := by decide +kernel
theorem tyJ8_ok : ∀ k, k < 0 → parseFieldDescriptor (TJ8 k).2.2.1 = some (tyJ8 k) := by decide +kernel
abbrev cJ8_newLength_cabcc : ByteArray := prog_50_method_27_code
def yJ8_newLength_cabcc : MethodName := ⟨RJ8, "newLength", "(III)I"⟩
abbrev cJ8_hugeLength_7cf53 : ByteArray := prog_50_method_28_code
def yJ8_hugeLength_7cf53 : MethodName := ⟨RJ8, "hugeLength", "(II)I"⟩
def RJ3 : String := "jdk/internal/util/Preconditions"
def TJ3 : u_T := fun k => match k with
  | _ => ("", "", "", false)
def tyJ3 : Nat → FieldType := fun k => match k with
  | _ => .int
abbrev wsJ30 : List Cond := u_ws RJ3 TJ3 0
theorem nmJ3 : ∀ a, a < 0 → ∀ b, b < 0 → a ≠ b → (TJ3 a).2.1 ≠ (TJ3 b).2.1 := by decide +kernel
theorem tyJ3_ok : ∀ k, k < 0 → parseFieldDescriptor (TJ3 k).2.2.1 = some (tyJ3 k) := by decide +kernel
abbrev cJ3_checkIndex_8e157 : ByteArray := prog_51_method_11_code
def yJ3_checkIndex_8e157 : MethodName := ⟨RJ3, "checkIndex", "(IILjava/util/function/BiFunction;)I"⟩
abbrev cJ3_checkFromToIndex_8c36e : ByteArray := prog_51_method_12_code
def yJ3_checkFromToIndex_8c36e : MethodName := ⟨RJ3, "checkFromToIndex", "(IIILjava/util/function/BiFunction;)I"⟩
def RL : String := "SpotbeatLaw"
abbrev cL_panel : ByteArray := method_3_code
def yL_panel : MethodName := ⟨RL, "panel", "(LSpotbeat;I[J)I"⟩
abbrev cL_spot : ByteArray := method_4_code
def yL_spot : MethodName := ⟨RL, "spot", "(LSpotbeat;IIIIIZ[J)I"⟩
abbrev cL_spots : ByteArray := method_5_code
def yL_spots : MethodName := ⟨RL, "spots", "(LSpotbeat;I[J)I"⟩
abbrev cL_isHeld : ByteArray := method_6_code
def yL_isHeld : MethodName := ⟨RL, "isHeld", "(LSpotbeat;I[J)I"⟩
abbrev cL_station : ByteArray := method_7_code
def yL_station : MethodName := ⟨RL, "station", "(LSpotbeat;[J)I"⟩
abbrev cL_robot : ByteArray := method_8_code
def yL_robot : MethodName := ⟨RL, "robot", "(LSpotbeat;III[J)I"⟩
abbrev cL_reaches : ByteArray := method_9_code
def yL_reaches : MethodName := ⟨RL, "reaches", "(LSpotbeat;II[J)I"⟩
abbrev cL_swept : ByteArray := method_10_code
def yL_swept : MethodName := ⟨RL, "swept", "(LSpotbeat;II[J)I"⟩
abbrev cL_current : ByteArray := method_11_code
def yL_current : MethodName := ⟨RL, "current", "(LSpotbeat;II[J)I"⟩
abbrev cL_step : ByteArray := method_12_code
def yL_step : MethodName := ⟨RL, "step", "(LSpotbeat;IICI[J)I"⟩
abbrev cL_erase : ByteArray := method_13_code
def yL_erase : MethodName := ⟨RL, "erase", "(LSpotbeat;II[J)I"⟩
abbrev cL_steps : ByteArray := method_14_code
def yL_steps : MethodName := ⟨RL, "steps", "(LSpotbeat;II[J)I"⟩
abbrev cL_welds : ByteArray := method_15_code
def yL_welds : MethodName := ⟨RL, "welds", "(LSpotbeat;II[J)I"⟩
abbrev cL_proof : ByteArray := method_16_code
def yL_proof : MethodName := ⟨RL, "proof", "(LSpotbeat;II[J)I"⟩
abbrev cL_states : ByteArray := method_17_code
def yL_states : MethodName := ⟨RL, "states", "(LSpotbeat;II[J)I"⟩
abbrev cL_uncovered : ByteArray := method_18_code
def yL_uncovered : MethodName := ⟨RL, "uncovered", "(LSpotbeat;I[J)I"⟩
abbrev cL_deal : ByteArray := method_19_code
def yL_deal : MethodName := ⟨RL, "deal", "(LSpotbeat;I[J)I"⟩
abbrev cL_order : ByteArray := method_20_code
def yL_order : MethodName := ⟨RL, "order", "(LSpotbeat;I[J)I"⟩
abbrev cL_beat : ByteArray := method_21_code
def yL_beat : MethodName := ⟨RL, "beat", "(LSpotbeat;[J)I"⟩
abbrev cL_at : ByteArray := method_22_code
def yL_at : MethodName := ⟨RL, "at", "(LSpotbeat;I[J)I"⟩
abbrev cL_where : ByteArray := method_23_code
def yL_where : MethodName := ⟨RL, "where", "(LSpotbeat;I[J)I"⟩
abbrev cL_stand : ByteArray := method_24_code
def yL_stand : MethodName := ⟨RL, "stand", "(LSpotbeat;IZ[J)I"⟩
abbrev cL_letters : ByteArray := method_25_code
def yL_letters : MethodName := ⟨RL, "letters", "(LSpotbeat;IC[J)I"⟩
abbrev cL_die : ByteArray := method_26_code
def yL_die : MethodName := ⟨RL, "die", "(LSpotbeat;IZ[J)I"⟩
abbrev cL_standIn : ByteArray := method_27_code
def yL_standIn : MethodName := ⟨RL, "standIn", "(LSpotbeat;II[J)I"⟩
abbrev cL_wear : ByteArray := method_28_code
def yL_wear : MethodName := ⟨RL, "wear", "(LSpotbeat;I[J)I"⟩
abbrev cL_dress : ByteArray := method_29_code
def yL_dress : MethodName := ⟨RL, "dress", "(LSpotbeat;I[J)I"⟩
abbrev cL_change : ByteArray := method_30_code
def yL_change : MethodName := ⟨RL, "change", "(LSpotbeat;I[J)I"⟩
abbrev cL_made : ByteArray := method_31_code
def yL_made : MethodName := ⟨RL, "made", "(LSpotbeat;I[J)I"⟩
abbrev cL_lacks : ByteArray := method_32_code
def yL_lacks : MethodName := ⟨RL, "lacks", "(LSpotbeat;I[J)I"⟩
abbrev cL_isLacking : ByteArray := method_33_code
def yL_isLacking : MethodName := ⟨RL, "isLacking", "(LSpotbeat;II[J)I"⟩
abbrev cL_firstLacking : ByteArray := method_34_code
def yL_firstLacking : MethodName := ⟨RL, "firstLacking", "(LSpotbeat;I[J)I"⟩
abbrev cL_mend : ByteArray := method_35_code
def yL_mend : MethodName := ⟨RL, "mend", "(LSpotbeat;II[J)I"⟩
abbrev cL_maker : ByteArray := method_36_code
def yL_maker : MethodName := ⟨RL, "maker", "(LSpotbeat;II[J)I"⟩
abbrev cL_offset : ByteArray := method_37_code
def yL_offset : MethodName := ⟨RL, "offset", "(LSpotbeat;II[J)I"⟩
abbrev cL_measure : ByteArray := method_38_code
def yL_measure : MethodName := ⟨RL, "measure", "(LSpotbeat;I[J)I"⟩
abbrev cL_feedBack : ByteArray := method_39_code
def yL_feedBack : MethodName := ⟨RL, "feedBack", "(LSpotbeat;II[J)I"⟩
abbrev cL_wholeShare : ByteArray := method_40_code
def yL_wholeShare : MethodName := ⟨RL, "wholeShare", "(LSpotbeat;[D)I"⟩
abbrev cL_meanMeasure : ByteArray := method_41_code
def yL_meanMeasure : MethodName := ⟨RL, "meanMeasure", "(LSpotbeat;[D)I"⟩
abbrev cL_law : ByteArray := code
def yL_law : MethodName := ⟨RL, "law", "([I)Z"⟩
/-- the words of NoSuchElementException's throw: its constructor calls the one above by another place of its pool (13) than the kit's row says (7), so the printed list isn't true of the tables -/
def zxW (w : Cond) : Cond := if w = .code (Bundle.initS "java/util/NoSuchElementException") Bundle.six 2 none then .code (Bundle.initS "java/util/NoSuchElementException") prog_46_method_4_code 2 none else if w = .methodLink "java/util/NoSuchElementException" 7 (Bundle.initS "java/lang/RuntimeException") then .methodLink "java/util/NoSuchElementException" 13 (Bundle.initS "java/lang/RuntimeException") else w
def zx_nsee : List Cond := (vx_atS RX7 306 "java/util/NoSuchElementException" ["java/lang/RuntimeException", "java/lang/Exception"]).map zxW
abbrev vwCl : List vw_C := [(RJ6, TJ6, 1), (RJx35411, TJx35411, 4), (RJx4a65c, TJx4a65c, 3), (RX0, TX0, 5), (RX1, TX1, 6), (RX2, TX2, 4), (RX3, TX3, 11), (RX4, TX4, 6), (RX5, TX5, 12), (RX6, TX6, 6), (RX7, TX7, 12), (RX8, TX8, 4), (RX9, TX9, 10), (RX10, TX10, 6), (RX11, TX11, 6), (RX12, TX12, 8)]
/-! ===== END printed: names ===== -/

