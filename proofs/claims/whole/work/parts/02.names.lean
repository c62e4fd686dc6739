def RX0 : String := "FieldPitches$Calendar"
def TX0 : u_T := fun k => match k with
  | 0 => ("FieldPitches$Calendar", "low", "[J", true)
  | _ => ("FieldPitches$Calendar", "high", "[J", true)
def tyX0 : Nat → FieldType := fun k => match k with
  | 0 => .array .long
  | _ => .array .long
abbrev wsX00 : List Cond := u_ws RX0 TX0 2
theorem nmX0 : ∀ a, a < 2 → ∀ b, b < 2 → a ≠ b → (TX0 a).2.1 ≠ (TX0 b).2.1 := by decide +kernel
theorem tyX0_ok : ∀ k, k < 2 → parseFieldDescriptor (TX0 k).2.2.1 = some (tyX0 k) := by decide +kernel
abbrev cX0_init : ByteArray := prog_2_method_1_code
def yX0_init : MethodName := ⟨RX0, "<init>", "()V"⟩
abbrev cX0_lowNights : ByteArray := prog_2_method_2_code
def yX0_lowNights : MethodName := ⟨RX0, "lowNights", "(II)J"⟩
abbrev cX0_highNights : ByteArray := prog_2_method_3_code
def yX0_highNights : MethodName := ⟨RX0, "highNights", "(II)J"⟩
abbrev cX0_below : ByteArray := prog_2_method_4_code
def yX0_below : MethodName := ⟨RX0, "below", "(I)J"⟩
abbrev cX0_empty : ByteArray := prog_2_method_5_code
def yX0_empty : MethodName := ⟨RX0, "empty", "()V"⟩
abbrev cX0_isFree : ByteArray := prog_2_method_6_code
def yX0_isFree : MethodName := ⟨RX0, "isFree", "(IJJ)Z"⟩
abbrev cX0_take : ByteArray := prog_2_method_7_code
def yX0_take : MethodName := ⟨RX0, "take", "(IJJ)V"⟩
abbrev cX0_leave : ByteArray := prog_2_method_8_code
def yX0_leave : MethodName := ⟨RX0, "leave", "(IJJ)V"⟩
abbrev cX0_lonelyNights : ByteArray := prog_2_method_9_code
def yX0_lonelyNights : MethodName := ⟨RX0, "lonelyNights", "(I)I"⟩
def RX1 : String := "FieldPitches$Kinds"
def TX1 : u_T := fun k => match k with
  | _ => ("", "", "", false)
def tyX1 : Nat → FieldType := fun k => match k with
  | _ => .int
abbrev wsX10 : List Cond := u_ws RX1 TX1 0
theorem nmX1 : ∀ a, a < 0 → ∀ b, b < 0 → a ≠ b → (TX1 a).2.1 ≠ (TX1 b).2.1 := by decide +kernel
theorem tyX1_ok : ∀ k, k < 0 → parseFieldDescriptor (TX1 k).2.2.1 = some (tyX1 k) := by decide +kernel
abbrev cX1_isUnder : ByteArray := prog_3_method_2_code
def yX1_isUnder : MethodName := ⟨RX1, "isUnder", "(II)Z"⟩
abbrev cX1_reason : ByteArray := prog_3_method_3_code
def yX1_reason : MethodName := ⟨RX1, "reason", "(LFieldPitches$Party;LFieldPitches$Pitch;)I"⟩
abbrev cX1_reasonOfAll : ByteArray := prog_3_method_4_code
def yX1_reasonOfAll : MethodName := ⟨RX1, "reasonOfAll", "(LFieldPitches$Party;LFieldPitches$Pitch;)I"⟩
abbrev cX1_reasonOfVans : ByteArray := prog_3_method_5_code
def yX1_reasonOfVans : MethodName := ⟨RX1, "reasonOfVans", "(LFieldPitches$Party;LFieldPitches$Pitch;)I"⟩
abbrev cX1_price : ByteArray := prog_3_method_6_code
def yX1_price : MethodName := ⟨RX1, "price", "(LFieldPitches$Party;)I"⟩
def RX2 : String := "FieldPitches$Law"
def TX2 : u_T := fun k => match k with
  | 0 => ("FieldPitches$Law", "stands", "Z", false)
  | 1 => ("FieldPitches$Law", "size", "I", false)
  | 2 => ("FieldPitches$Law", "code", "[I", true)
  | _ => ("FieldPitches$Law", "stack", "[I", true)
def tyX2 : Nat → FieldType := fun k => match k with
  | 0 => .boolean
  | 1 => .int
  | 2 => .array .int
  | _ => .array .int
abbrev wsX20 : List Cond := u_ws RX2 TX2 4
theorem nmX2 : ∀ a, a < 4 → ∀ b, b < 4 → a ≠ b → (TX2 a).2.1 ≠ (TX2 b).2.1 := by decide +kernel
theorem tyX2_ok : ∀ k, k < 4 → parseFieldDescriptor (TX2 k).2.2.1 = some (tyX2 k) := by decide +kernel
abbrev cX2_init : ByteArray := prog_4_method_1_code
def yX2_init : MethodName := ⟨RX2, "<init>", "()V"⟩
abbrev cX2_begin : ByteArray := prog_4_method_2_code
def yX2_begin : MethodName := ⟨RX2, "begin", "([II)V"⟩
abbrev cX2_become : ByteArray := prog_4_method_3_code
def yX2_become : MethodName := ⟨RX2, "become", "(LFieldPitches$Law;)V"⟩
abbrev cX2_worth : ByteArray := prog_4_method_4_code
def yX2_worth : MethodName := ⟨RX2, "worth", "([I)I"⟩
abbrev cX2_operand : ByteArray := prog_4_method_5_code
def yX2_operand : MethodName := ⟨RX2, "operand", "(I[I)I"⟩
abbrev cX2_joined : ByteArray := prog_4_method_6_code
def yX2_joined : MethodName := ⟨RX2, "joined", "(III)I"⟩
def RX3 : String := "FieldPitches$Party"
def TX3 : u_T := fun k => match k with
  | 0 => ("FieldPitches$Party", "kind", "I", false)
  | 1 => ("FieldPitches$Party", "length", "I", false)
  | 2 => ("FieldPitches$Party", "amps", "I", false)
  | 3 => ("FieldPitches$Party", "wishes", "I", false)
  | 4 => ("FieldPitches$Party", "first", "I", false)
  | 5 => ("FieldPitches$Party", "nights", "I", false)
  | 6 => ("FieldPitches$Party", "lowNights", "J", false)
  | 7 => ("FieldPitches$Party", "highNights", "J", false)
  | 8 => ("FieldPitches$Party", "pitch", "I", false)
  | 9 => ("FieldPitches$Party", "near", "I", false)
  | 10 => ("FieldPitches$Party", "paid", "I", false)
  | 11 => ("FieldPitches$Party", "usedHours", "I", false)
  | 12 => ("FieldPitches$Party", "usedAmps", "I", false)
  | _ => ("FieldPitches$Party", "hasReviewed", "Z", false)
def tyX3 : Nat → FieldType := fun k => match k with
  | 0 => .int
  | 1 => .int
  | 2 => .int
  | 3 => .int
  | 4 => .int
  | 5 => .int
  | 6 => .long
  | 7 => .long
  | 8 => .int
  | 9 => .int
  | 10 => .int
  | 11 => .int
  | 12 => .int
  | _ => .boolean
abbrev wsX30 : List Cond := u_ws RX3 TX3 14
theorem nmX3 : ∀ a, a < 14 → ∀ b, b < 14 → a ≠ b → (TX3 a).2.1 ≠ (TX3 b).2.1 := by decide +kernel
theorem tyX3_ok : ∀ k, k < 14 → parseFieldDescriptor (TX3 k).2.2.1 = some (tyX3 k) := by decide +kernel
abbrev cX3_init : ByteArray := prog_5_method_1_code
def yX3_init : MethodName := ⟨RX3, "<init>", "()V"⟩
abbrev cX3_begin : ByteArray := prog_5_method_2_code
def yX3_begin : MethodName := ⟨RX3, "begin", "(IIII)V"⟩
abbrev cX3_become : ByteArray := prog_5_method_3_code
def yX3_become : MethodName := ⟨RX3, "become", "(LFieldPitches$Party;)V"⟩
abbrev cX3_trait : ByteArray := prog_5_method_4_code
def yX3_trait : MethodName := ⟨RX3, "trait", "(I)I"⟩
abbrev cX3_lastNight : ByteArray := prog_5_method_5_code
def yX3_lastNight : MethodName := ⟨RX3, "lastNight", "()I"⟩
abbrev cX3_stays : ByteArray := prog_5_method_6_code
def yX3_stays : MethodName := ⟨RX3, "stays", "(I)Z"⟩
abbrev cX3_wishesFor : ByteArray := prog_5_method_7_code
def yX3_wishesFor : MethodName := ⟨RX3, "wishesFor", "(I)Z"⟩
def RX4 : String := "FieldPitches$Pitch"
def TX4 : u_T := fun k => match k with
  | 0 => ("FieldPitches$Pitch", "x", "I", false)
  | 1 => ("FieldPitches$Pitch", "y", "I", false)
  | 2 => ("FieldPitches$Pitch", "length", "I", false)
  | 3 => ("FieldPitches$Pitch", "height", "I", false)
  | 4 => ("FieldPitches$Pitch", "shade", "I", false)
  | 5 => ("FieldPitches$Pitch", "amps", "I", false)
  | 6 => ("FieldPitches$Pitch", "flags", "I", false)
  | 7 => ("FieldPitches$Pitch", "post", "I", false)
  | 8 => ("FieldPitches$Pitch", "reviews", "I", false)
  | _ => ("FieldPitches$Pitch", "allStars", "I", false)
def tyX4 : Nat → FieldType := fun k => match k with
  | 0 => .int
  | 1 => .int
  | 2 => .int
  | 3 => .int
  | 4 => .int
  | 5 => .int
  | 6 => .int
  | 7 => .int
  | 8 => .int
  | _ => .int
abbrev wsX40 : List Cond := u_ws RX4 TX4 10
theorem nmX4 : ∀ a, a < 10 → ∀ b, b < 10 → a ≠ b → (TX4 a).2.1 ≠ (TX4 b).2.1 := by decide +kernel
theorem tyX4_ok : ∀ k, k < 10 → parseFieldDescriptor (TX4 k).2.2.1 = some (tyX4 k) := by decide +kernel
abbrev cX4_init : ByteArray := prog_6_method_1_code
def yX4_init : MethodName := ⟨RX4, "<init>", "()V"⟩
abbrev cX4_begin : ByteArray := prog_6_method_2_code
def yX4_begin : MethodName := ⟨RX4, "begin", "(IIII)V"⟩
abbrev cX4_become : ByteArray := prog_6_method_3_code
def yX4_become : MethodName := ⟨RX4, "become", "(LFieldPitches$Pitch;)V"⟩
abbrev cX4_trait : ByteArray := prog_6_method_4_code
def yX4_trait : MethodName := ⟨RX4, "trait", "(I)I"⟩
abbrev cX4_offers : ByteArray := prog_6_method_5_code
def yX4_offers : MethodName := ⟨RX4, "offers", "(I)Z"⟩
def RX5 : String := "FieldPitches$Planner"
def TX5 : u_T := fun k => match k with
  | 0 => ("FieldPitches$Planner", "site", "LFieldPitches$Site;", true)
  | 1 => ("FieldPitches$Planner", "calendar", "LFieldPitches$Calendar;", true)
  | 2 => ("FieldPitches$Planner", "size", "I", false)
  | 3 => ("FieldPitches$Planner", "members", "[I", true)
  | 4 => ("FieldPitches$Planner", "open", "[I", true)
  | 5 => ("FieldPitches$Planner", "mostOn", "[I", true)
  | 6 => ("FieldPitches$Planner", "mostFilled", "[I", true)
  | 7 => ("FieldPitches$Planner", "wayToOthers", "[[I", true)
  | 8 => ("FieldPitches$Planner", "bonds", "[[I", true)
  | 9 => ("FieldPitches$Planner", "places", "[I", true)
  | 10 => ("FieldPitches$Planner", "best", "[I", true)
  | 11 => ("FieldPitches$Planner", "bestOn", "I", false)
  | 12 => ("FieldPitches$Planner", "bestGaps", "I", false)
  | _ => ("FieldPitches$Planner", "bestFar", "I", false)
def tyX5 : Nat → FieldType := fun k => match k with
  | 0 => .object "FieldPitches$Site"
  | 1 => .object "FieldPitches$Calendar"
  | 2 => .int
  | 3 => .array .int
  | 4 => .array .int
  | 5 => .array .int
  | 6 => .array .int
  | 7 => .array (.array .int)
  | 8 => .array (.array .int)
  | 9 => .array .int
  | 10 => .array .int
  | 11 => .int
  | 12 => .int
  | _ => .int
abbrev wsX50 : List Cond := u_ws RX5 TX5 14
theorem nmX5 : ∀ a, a < 14 → ∀ b, b < 14 → a ≠ b → (TX5 a).2.1 ≠ (TX5 b).2.1 := by decide +kernel
theorem tyX5_ok : ∀ k, k < 14 → parseFieldDescriptor (TX5 k).2.2.1 = some (tyX5 k) := by decide +kernel
abbrev cX5_init : ByteArray := prog_7_method_1_code
def yX5_init : MethodName := ⟨RX5, "<init>", "(LFieldPitches$Site;LFieldPitches$Calendar;)V"⟩
abbrev cX5_make : ByteArray := prog_7_method_2_code
def yX5_make : MethodName := ⟨RX5, "make", "(I)I"⟩
abbrev cX5_gather : ByteArray := prog_7_method_3_code
def yX5_gather : MethodName := ⟨RX5, "gather", "(I)V"⟩
abbrev cX5_lookAt : ByteArray := prog_7_method_4_code
def yX5_lookAt : MethodName := ⟨RX5, "lookAt", "(II)V"⟩
abbrev cX5_addWays : ByteArray := prog_7_method_5_code
def yX5_addWays : MethodName := ⟨RX5, "addWays", "(II)V"⟩
abbrev cX5_wishesBetween : ByteArray := prog_7_method_6_code
def yX5_wishesBetween : MethodName := ⟨RX5, "wishesBetween", "(II)I"⟩
abbrev cX5_bound : ByteArray := prog_7_method_7_code
def yX5_bound : MethodName := ⟨RX5, "bound", "()V"⟩
abbrev cX5_canBeat : ByteArray := prog_7_method_8_code
def yX5_canBeat : MethodName := ⟨RX5, "canBeat", "(IIII)Z"⟩
abbrev cX5_tryFrom : ByteArray := prog_7_method_9_code
def yX5_tryFrom : MethodName := ⟨RX5, "tryFrom", "(IIII)V"⟩
abbrev cX5_wayOf : ByteArray := prog_7_method_10_code
def yX5_wayOf : MethodName := ⟨RX5, "wayOf", "(I)I"⟩
abbrev cX5_remember : ByteArray := prog_7_method_11_code
def yX5_remember : MethodName := ⟨RX5, "remember", "(III)V"⟩
def RX6 : String := "FieldPitches$Rescuer"
def TX6 : u_T := fun k => match k with
  | 0 => ("FieldPitches$Rescuer", "site", "LFieldPitches$Site;", true)
  | 1 => ("FieldPitches$Rescuer", "size", "I", false)
  | 2 => ("FieldPitches$Rescuer", "wets", "[I", true)
  | 3 => ("FieldPitches$Rescuer", "open", "[I", true)
  | 4 => ("FieldPitches$Rescuer", "goals", "[I", true)
  | 5 => ("FieldPitches$Rescuer", "givenTo", "[I", true)
  | _ => ("FieldPitches$Rescuer", "seen", "I", false)
def tyX6 : Nat → FieldType := fun k => match k with
  | 0 => .object "FieldPitches$Site"
  | 1 => .int
  | 2 => .array .int
  | 3 => .array .int
  | 4 => .array .int
  | 5 => .array .int
  | _ => .int
abbrev wsX60 : List Cond := u_ws RX6 TX6 7
theorem nmX6 : ∀ a, a < 7 → ∀ b, b < 7 → a ≠ b → (TX6 a).2.1 ≠ (TX6 b).2.1 := by decide +kernel
theorem tyX6_ok : ∀ k, k < 7 → parseFieldDescriptor (TX6 k).2.2.1 = some (tyX6 k) := by decide +kernel
abbrev cX6_init : ByteArray := prog_8_method_1_code
def yX6_init : MethodName := ⟨RX6, "<init>", "(LFieldPitches$Site;)V"⟩
abbrev cX6_work : ByteArray := prog_8_method_2_code
def yX6_work : MethodName := ⟨RX6, "work", "(I)I"⟩
abbrev cX6_goalOf : ByteArray := prog_8_method_3_code
def yX6_goalOf : MethodName := ⟨RX6, "goalOf", "(I)I"⟩
abbrev cX6_gather : ByteArray := prog_8_method_4_code
def yX6_gather : MethodName := ⟨RX6, "gather", "(I)V"⟩
abbrev cX6_dryPitches : ByteArray := prog_8_method_5_code
def yX6_dryPitches : MethodName := ⟨RX6, "dryPitches", "(I)I"⟩
abbrev cX6_fitting : ByteArray := prog_8_method_6_code
def yX6_fitting : MethodName := ⟨RX6, "fitting", "(II)I"⟩
abbrev cX6_leastGoal : ByteArray := prog_8_method_7_code
def yX6_leastGoal : MethodName := ⟨RX6, "leastGoal", "(III)I"⟩
abbrev cX6_mostFrom : ByteArray := prog_8_method_8_code
def yX6_mostFrom : MethodName := ⟨RX6, "mostFrom", "(II)I"⟩
abbrev cX6_finds : ByteArray := prog_8_method_9_code
def yX6_finds : MethodName := ⟨RX6, "finds", "(II)Z"⟩
def RX7 : String := "FieldPitches$Sheet"
def TX7 : u_T := fun k => match k with
  | 0 => ("FieldPitches$Sheet", "bits", "I", false)
  | 1 => ("FieldPitches$Sheet", "size", "I", false)
  | _ => ("FieldPitches$Sheet", "numbers", "[I", true)
def tyX7 : Nat → FieldType := fun k => match k with
  | 0 => .int
  | 1 => .int
  | _ => .array .int
abbrev wsX70 : List Cond := u_ws RX7 TX7 3
theorem nmX7 : ∀ a, a < 3 → ∀ b, b < 3 → a ≠ b → (TX7 a).2.1 ≠ (TX7 b).2.1 := by decide +kernel
theorem tyX7_ok : ∀ k, k < 3 → parseFieldDescriptor (TX7 k).2.2.1 = some (tyX7 k) := by decide +kernel
abbrev cX7_init : ByteArray := prog_9_method_1_code
def yX7_init : MethodName := ⟨RX7, "<init>", "()V"⟩
abbrev cX7_begin : ByteArray := prog_9_method_2_code
def yX7_begin : MethodName := ⟨RX7, "begin", "(II)V"⟩
abbrev cX7_isMissing : ByteArray := prog_9_method_3_code
def yX7_isMissing : MethodName := ⟨RX7, "isMissing", "()Z"⟩
abbrev cX7_hasRange : ByteArray := prog_9_method_4_code
def yX7_hasRange : MethodName := ⟨RX7, "hasRange", "(II)Z"⟩
abbrev cX7_change : ByteArray := prog_9_method_5_code
def yX7_change : MethodName := ⟨RX7, "change", "(II)V"⟩
def RX8 : String := "FieldPitches$Site"
def TX8 : u_T := fun k => match k with
  | 0 => ("FieldPitches$Site", "today", "I", false)
  | 1 => ("FieldPitches$Site", "till", "I", false)
  | 2 => ("FieldPitches$Site", "pitchCount", "I", false)
  | 3 => ("FieldPitches$Site", "partyCount", "I", false)
  | 4 => ("FieldPitches$Site", "pitches", "[LFieldPitches$Pitch;", true)
  | 5 => ("FieldPitches$Site", "parties", "[LFieldPitches$Party;", true)
  | 6 => ("FieldPitches$Site", "limits", "[I", true)
  | 7 => ("FieldPitches$Site", "spots", "[I", true)
  | 8 => ("FieldPitches$Site", "laws", "[LFieldPitches$Law;", true)
  | 9 => ("FieldPitches$Site", "washers", "LFieldPitches$Washers;", true)
  | _ => ("FieldPitches$Site", "names", "[I", true)
def tyX8 : Nat → FieldType := fun k => match k with
  | 0 => .int
  | 1 => .int
  | 2 => .int
  | 3 => .int
  | 4 => .array (.object "FieldPitches$Pitch")
  | 5 => .array (.object "FieldPitches$Party")
  | 6 => .array .int
  | 7 => .array .int
  | 8 => .array (.object "FieldPitches$Law")
  | 9 => .object "FieldPitches$Washers"
  | _ => .array .int
abbrev wsX80 : List Cond := u_ws RX8 TX8 11
theorem nmX8 : ∀ a, a < 11 → ∀ b, b < 11 → a ≠ b → (TX8 a).2.1 ≠ (TX8 b).2.1 := by decide +kernel
theorem tyX8_ok : ∀ k, k < 11 → parseFieldDescriptor (TX8 k).2.2.1 = some (tyX8 k) := by decide +kernel
abbrev cX8_init : ByteArray := prog_10_method_1_code
def yX8_init : MethodName := ⟨RX8, "<init>", "()V"⟩
abbrev cX8_become : ByteArray := prog_10_method_2_code
def yX8_become : MethodName := ⟨RX8, "become", "(LFieldPitches$Site;)V"⟩
abbrev cX8_isPitch : ByteArray := prog_10_method_3_code
def yX8_isPitch : MethodName := ⟨RX8, "isPitch", "(I)Z"⟩
abbrev cX8_isParty : ByteArray := prog_10_method_4_code
def yX8_isParty : MethodName := ⟨RX8, "isParty", "(I)Z"⟩
abbrev cX8_isPartyOrNobody : ByteArray := prog_10_method_5_code
def yX8_isPartyOrNobody : MethodName := ⟨RX8, "isPartyOrNobody", "(I)Z"⟩
abbrev cX8_isOn : ByteArray := prog_10_method_6_code
def yX8_isOn : MethodName := ⟨RX8, "isOn", "(I)Z"⟩
abbrev cX8_hasCome : ByteArray := prog_10_method_7_code
def yX8_hasCome : MethodName := ⟨RX8, "hasCome", "(I)Z"⟩
abbrev cX8_isSettled : ByteArray := prog_10_method_8_code
def yX8_isSettled : MethodName := ⟨RX8, "isSettled", "(I)Z"⟩
abbrev cX8_isHere : ByteArray := prog_10_method_9_code
def yX8_isHere : MethodName := ⟨RX8, "isHere", "(I)Z"⟩
abbrev cX8_isWet : ByteArray := prog_10_method_10_code
def yX8_isWet : MethodName := ⟨RX8, "isWet", "(II)Z"⟩
abbrev cX8_partiesHere : ByteArray := prog_10_method_11_code
def yX8_partiesHere : MethodName := ⟨RX8, "partiesHere", "()I"⟩
abbrev cX8_partiesWaiting : ByteArray := prog_10_method_12_code
def yX8_partiesWaiting : MethodName := ⟨RX8, "partiesWaiting", "()I"⟩
abbrev cX8_distance : ByteArray := prog_10_method_13_code
def yX8_distance : MethodName := ⟨RX8, "distance", "(II)I"⟩
abbrev cX8_holder : ByteArray := prog_10_method_14_code
def yX8_holder : MethodName := ⟨RX8, "holder", "(II)I"⟩
abbrev cX8_mark : ByteArray := prog_10_method_15_code
def yX8_mark : MethodName := ⟨RX8, "mark", "(LFieldPitches$Calendar;I)V"⟩
abbrev cX8_loadNow : ByteArray := prog_10_method_16_code
def yX8_loadNow : MethodName := ⟨RX8, "loadNow", "(II)I"⟩
abbrev cX8_priceNow : ByteArray := prog_10_method_17_code
def yX8_priceNow : MethodName := ⟨RX8, "priceNow", "(I)I"⟩
abbrev cX8_refundNow : ByteArray := prog_10_method_18_code
def yX8_refundNow : MethodName := ⟨RX8, "refundNow", "(I)I"⟩
abbrev cX8_worthFor : ByteArray := prog_10_method_19_code
def yX8_worthFor : MethodName := ⟨RX8, "worthFor", "(ILFieldPitches$Law;)I"⟩
abbrev cX8_othersOn : ByteArray := prog_10_method_20_code
def yX8_othersOn : MethodName := ⟨RX8, "othersOn", "(II)I"⟩
def RX9 : String := "FieldPitches$Tape"
def TX9 : u_T := fun k => match k with
  | 0 => ("FieldPitches$Tape", "size", "I", false)
  | 1 => ("FieldPitches$Tape", "fault", "I", false)
  | 2 => ("FieldPitches$Tape", "operands", "I", false)
  | 3 => ("FieldPitches$Tape", "codeSize", "I", false)
  | 4 => ("FieldPitches$Tape", "code", "[I", true)
  | 5 => ("FieldPitches$Tape", "bytes", "[I", true)
  | 6 => ("FieldPitches$Tape", "tokens", "[I", true)
  | 7 => ("FieldPitches$Tape", "values", "[I", true)
  | 8 => ("FieldPitches$Tape", "starts", "[I", true)
  | 9 => ("FieldPitches$Tape", "tokenCount", "I", false)
  | _ => ("FieldPitches$Tape", "at", "I", false)
def tyX9 : Nat → FieldType := fun k => match k with
  | 0 => .int
  | 1 => .int
  | 2 => .int
  | 3 => .int
  | 4 => .array .int
  | 5 => .array .int
  | 6 => .array .int
  | 7 => .array .int
  | 8 => .array .int
  | 9 => .int
  | _ => .int
abbrev wsX90 : List Cond := u_ws RX9 TX9 11
theorem nmX9 : ∀ a, a < 11 → ∀ b, b < 11 → a ≠ b → (TX9 a).2.1 ≠ (TX9 b).2.1 := by decide +kernel
theorem tyX9_ok : ∀ k, k < 11 → parseFieldDescriptor (TX9 k).2.2.1 = some (tyX9 k) := by decide +kernel
abbrev cX9_init : ByteArray := prog_11_method_1_code
def yX9_init : MethodName := ⟨RX9, "<init>", "()V"⟩
abbrev cX9_append : ByteArray := prog_11_method_2_code
def yX9_append : MethodName := ⟨RX9, "append", "(I)V"⟩
abbrev cX9_readText : ByteArray := prog_11_method_3_code
def yX9_readText : MethodName := ⟨RX9, "readText", "()Z"⟩
abbrev cX9_cutIntoTokens : ByteArray := prog_11_method_4_code
def yX9_cutIntoTokens : MethodName := ⟨RX9, "cutIntoTokens", "()V"⟩
abbrev cX9_addToken : ByteArray := prog_11_method_5_code
def yX9_addToken : MethodName := ⟨RX9, "addToken", "(III)V"⟩
abbrev cX9_cutNumber : ByteArray := prog_11_method_6_code
def yX9_cutNumber : MethodName := ⟨RX9, "cutNumber", "(I)I"⟩
abbrev cX9_cutWord : ByteArray := prog_11_method_7_code
def yX9_cutWord : MethodName := ⟨RX9, "cutWord", "(I)I"⟩
abbrev cX9_nameOf : ByteArray := prog_11_method_8_code
def yX9_nameOf : MethodName := ⟨RX9, "nameOf", "(I)I"⟩
abbrev cX9_isDigit : ByteArray := prog_11_method_9_code
def yX9_isDigit : MethodName := ⟨RX9, "isDigit", "(I)Z"⟩
abbrev cX9_isLetter : ByteArray := prog_11_method_10_code
def yX9_isLetter : MethodName := ⟨RX9, "isLetter", "(I)Z"⟩
abbrev cX9_isSign : ByteArray := prog_11_method_11_code
def yX9_isSign : MethodName := ⟨RX9, "isSign", "(I)Z"⟩
abbrev cX9_isAt : ByteArray := prog_11_method_12_code
def yX9_isAt : MethodName := ⟨RX9, "isAt", "(II)Z"⟩
abbrev cX9_passToken : ByteArray := prog_11_method_13_code
def yX9_passToken : MethodName := ⟨RX9, "passToken", "()I"⟩
abbrev cX9_isFault : ByteArray := prog_11_method_14_code
def yX9_isFault : MethodName := ⟨RX9, "isFault", "()Z"⟩
abbrev cX9_emit : ByteArray := prog_11_method_15_code
def yX9_emit : MethodName := ⟨RX9, "emit", "(I)Z"⟩
abbrev cX9_readCompared : ByteArray := prog_11_method_16_code
def yX9_readCompared : MethodName := ⟨RX9, "readCompared", "(I)Z"⟩
abbrev cX9_readSum : ByteArray := prog_11_method_17_code
def yX9_readSum : MethodName := ⟨RX9, "readSum", "(I)Z"⟩
abbrev cX9_readTerm : ByteArray := prog_11_method_18_code
def yX9_readTerm : MethodName := ⟨RX9, "readTerm", "(I)Z"⟩
abbrev cX9_readOne : ByteArray := prog_11_method_19_code
def yX9_readOne : MethodName := ⟨RX9, "readOne", "(I)Z"⟩
abbrev cX9_readClosing : ByteArray := prog_11_method_20_code
def yX9_readClosing : MethodName := ⟨RX9, "readClosing", "()Z"⟩
def RX10 : String := "FieldPitches$Washers"
def TX10 : u_T := fun k => match k with
  | 0 => ("FieldPitches$Washers", "size", "I", false)
  | 1 => ("FieldPitches$Washers", "longestWait", "I", false)
  | 2 => ("FieldPitches$Washers", "allDone", "I", false)
  | 3 => ("FieldPitches$Washers", "waiting", "I", false)
  | 4 => ("FieldPitches$Washers", "minutes", "[I", true)
  | 5 => ("FieldPitches$Washers", "takes", "[I", true)
  | _ => ("FieldPitches$Washers", "freeAt", "[I", true)
def tyX10 : Nat → FieldType := fun k => match k with
  | 0 => .int
  | 1 => .int
  | 2 => .int
  | 3 => .int
  | 4 => .array .int
  | 5 => .array .int
  | _ => .array .int
abbrev wsX100 : List Cond := u_ws RX10 TX10 7
theorem nmX10 : ∀ a, a < 7 → ∀ b, b < 7 → a ≠ b → (TX10 a).2.1 ≠ (TX10 b).2.1 := by decide +kernel
theorem tyX10_ok : ∀ k, k < 7 → parseFieldDescriptor (TX10 k).2.2.1 = some (tyX10 k) := by decide +kernel
abbrev cX10_init : ByteArray := prog_12_method_1_code
def yX10_init : MethodName := ⟨RX10, "<init>", "()V"⟩
abbrev cX10_insert : ByteArray := prog_12_method_2_code
def yX10_insert : MethodName := ⟨RX10, "insert", "(II)V"⟩
abbrev cX10_become : ByteArray := prog_12_method_3_code
def yX10_become : MethodName := ⟨RX10, "become", "(LFieldPitches$Washers;)V"⟩
abbrev cX10_serve : ByteArray := prog_12_method_4_code
def yX10_serve : MethodName := ⟨RX10, "serve", "(I)V"⟩
abbrev cX10_firstFree : ByteArray := prog_12_method_5_code
def yX10_firstFree : MethodName := ⟨RX10, "firstFree", "(I)I"⟩
def RX11 : String := "FieldPitches"
def TX11 : u_T := fun k => match k with
  | 0 => ("FieldPitches", "site", "LFieldPitches$Site;", true)
  | 1 => ("FieldPitches", "kept", "LFieldPitches$Site;", true)
  | 2 => ("FieldPitches", "calendar", "LFieldPitches$Calendar;", true)
  | 3 => ("FieldPitches", "planner", "LFieldPitches$Planner;", true)
  | 4 => ("FieldPitches", "rescuer", "LFieldPitches$Rescuer;", true)
  | 5 => ("FieldPitches", "tape", "LFieldPitches$Tape;", true)
  | 6 => ("FieldPitches", "sheets", "[LFieldPitches$Sheet;", true)
  | 7 => ("FieldPitches", "found", "[I", true)
  | _ => ("FieldPitches", "isKept", "Z", false)
def tyX11 : Nat → FieldType := fun k => match k with
  | 0 => .object "FieldPitches$Site"
  | 1 => .object "FieldPitches$Site"
  | 2 => .object "FieldPitches$Calendar"
  | 3 => .object "FieldPitches$Planner"
  | 4 => .object "FieldPitches$Rescuer"
  | 5 => .object "FieldPitches$Tape"
  | 6 => .array (.object "FieldPitches$Sheet")
  | 7 => .array .int
  | _ => .boolean
abbrev wsX110 : List Cond := u_ws RX11 TX11 9
theorem nmX11 : ∀ a, a < 9 → ∀ b, b < 9 → a ≠ b → (TX11 a).2.1 ≠ (TX11 b).2.1 := by decide +kernel
theorem tyX11_ok : ∀ k, k < 9 → parseFieldDescriptor (TX11 k).2.2.1 = some (tyX11 k) := by decide +kernel
abbrev cX11_init : ByteArray := prog_1_method_1_code
def yX11_init : MethodName := ⟨RX11, "<init>", "()V"⟩
abbrev cX11_pitch : ByteArray := prog_1_method_2_code
def yX11_pitch : MethodName := ⟨RX11, "pitch", "(IIII)I"⟩
abbrev cX11_pitchOf : ByteArray := prog_1_method_3_code
def yX11_pitchOf : MethodName := ⟨RX11, "pitchOf", "(II)I"⟩
abbrev cX11_shade : ByteArray := prog_1_method_4_code
def yX11_shade : MethodName := ⟨RX11, "shade", "(II)I"⟩
abbrev cX11_far : ByteArray := prog_1_method_5_code
def yX11_far : MethodName := ⟨RX11, "far", "(II)I"⟩
abbrev cX11_party : ByteArray := prog_1_method_6_code
def yX11_party : MethodName := ⟨RX11, "party", "(IIII)I"⟩
abbrev cX11_partyOf : ByteArray := prog_1_method_7_code
def yX11_partyOf : MethodName := ⟨RX11, "partyOf", "(II)I"⟩
abbrev cX11_why : ByteArray := prog_1_method_8_code
def yX11_why : MethodName := ⟨RX11, "why", "(II)I"⟩
abbrev cX11_near : ByteArray := prog_1_method_9_code
def yX11_near : MethodName := ⟨RX11, "near", "(II)I"⟩
abbrev cX11_put : ByteArray := prog_1_method_10_code
def yX11_put : MethodName := ⟨RX11, "put", "(II)I"⟩
abbrev cX11_nights : ByteArray := prog_1_method_11_code
def yX11_nights : MethodName := ⟨RX11, "nights", "(I)I"⟩
abbrev cX11_who : ByteArray := prog_1_method_12_code
def yX11_who : MethodName := ⟨RX11, "who", "(II)I"⟩
abbrev cX11_gaps : ByteArray := prog_1_method_13_code
def yX11_gaps : MethodName := ⟨RX11, "gaps", "(I)I"⟩
abbrev cX11_plan : ByteArray := prog_1_method_14_code
def yX11_plan : MethodName := ⟨RX11, "plan", "(I)I"⟩
abbrev cX11_apart : ByteArray := prog_1_method_15_code
def yX11_apart : MethodName := ⟨RX11, "apart", "()I"⟩
abbrev cX11_feed : ByteArray := prog_1_method_16_code
def yX11_feed : MethodName := ⟨RX11, "feed", "(II)I"⟩
abbrev cX11_wipe : ByteArray := prog_1_method_17_code
def yX11_wipe : MethodName := ⟨RX11, "wipe", "()I"⟩
abbrev cX11_law : ByteArray := prog_1_method_18_code
def yX11_law : MethodName := ⟨RX11, "law", "(I)I"⟩
abbrev cX11_repeal : ByteArray := prog_1_method_19_code
def yX11_repeal : MethodName := ⟨RX11, "repeal", "(I)I"⟩
abbrev cX11_says : ByteArray := prog_1_method_20_code
def yX11_says : MethodName := ⟨RX11, "says", "(II)I"⟩
abbrev cX11_pay : ByteArray := prog_1_method_21_code
def yX11_pay : MethodName := ⟨RX11, "pay", "(I)I"⟩
abbrev cX11_cancel : ByteArray := prog_1_method_22_code
def yX11_cancel : MethodName := ⟨RX11, "cancel", "(I)I"⟩
abbrev cX11_review : ByteArray := prog_1_method_23_code
def yX11_review : MethodName := ⟨RX11, "review", "(II)I"⟩
abbrev cX11_stars : ByteArray := prog_1_method_24_code
def yX11_stars : MethodName := ⟨RX11, "stars", "(I)I"⟩
abbrev cX11_use : ByteArray := prog_1_method_25_code
def yX11_use : MethodName := ⟨RX11, "use", "(III)I"⟩
abbrev cX11_limit : ByteArray := prog_1_method_26_code
def yX11_limit : MethodName := ⟨RX11, "limit", "(II)I"⟩
abbrev cX11_load : ByteArray := prog_1_method_27_code
def yX11_load : MethodName := ⟨RX11, "load", "(II)I"⟩
abbrev cX11_trips : ByteArray := prog_1_method_28_code
def yX11_trips : MethodName := ⟨RX11, "trips", "(I)I"⟩
abbrev cX11_may : ByteArray := prog_1_method_29_code
def yX11_may : MethodName := ⟨RX11, "may", "(IIII)I"⟩
abbrev cX11_wet : ByteArray := prog_1_method_30_code
def yX11_wet : MethodName := ⟨RX11, "wet", "(I)I"⟩
abbrev cX11_rescue : ByteArray := prog_1_method_31_code
def yX11_rescue : MethodName := ⟨RX11, "rescue", "(II)I"⟩
abbrev cX11_wash : ByteArray := prog_1_method_32_code
def yX11_wash : MethodName := ⟨RX11, "wash", "(II)I"⟩
abbrev cX11_block : ByteArray := prog_1_method_33_code
def yX11_block : MethodName := ⟨RX11, "block", "(II)I"⟩
abbrev cX11_dry : ByteArray := prog_1_method_34_code
def yX11_dry : MethodName := ⟨RX11, "dry", "()I"⟩
abbrev cX11_join : ByteArray := prog_1_method_35_code
def yX11_join : MethodName := ⟨RX11, "join", "(I)I"⟩
abbrev cX11_hold : ByteArray := prog_1_method_36_code
def yX11_hold : MethodName := ⟨RX11, "hold", "(II)I"⟩
abbrev cX11_as : ByteArray := prog_1_method_37_code
def yX11_as : MethodName := ⟨RX11, "as", "(II)I"⟩
abbrev cX11_sheet : ByteArray := prog_1_method_38_code
def yX11_sheet : MethodName := ⟨RX11, "sheet", "(III)I"⟩
abbrev cX11_write : ByteArray := prog_1_method_39_code
def yX11_write : MethodName := ⟨RX11, "write", "(III)I"⟩
abbrev cX11_copy : ByteArray := prog_1_method_40_code
def yX11_copy : MethodName := ⟨RX11, "copy", "(IIIII)I"⟩
abbrev cX11_image : ByteArray := prog_1_method_41_code
def yX11_image : MethodName := ⟨RX11, "image", "()I"⟩
abbrev cX11_undo : ByteArray := prog_1_method_42_code
def yX11_undo : MethodName := ⟨RX11, "undo", "()I"⟩
abbrev cX11_tear : ByteArray := prog_1_method_43_code
def yX11_tear : MethodName := ⟨RX11, "tear", "()I"⟩
abbrev cX11_count : ByteArray := prog_1_method_44_code
def yX11_count : MethodName := ⟨RX11, "count", "(I)I"⟩
abbrev cX11_status : ByteArray := prog_1_method_45_code
def yX11_status : MethodName := ⟨RX11, "status", "(I)I"⟩
abbrev cX11_finding : ByteArray := prog_1_method_46_code
def yX11_finding : MethodName := ⟨RX11, "finding", "(I)I"⟩
abbrev cX11_areStays : ByteArray := prog_1_method_47_code
def yX11_areStays : MethodName := ⟨RX11, "areStays", "(LFieldPitches$Sheet;)Z"⟩
abbrev cX11_firstClash : ByteArray := prog_1_method_48_code
def yX11_firstClash : MethodName := ⟨RX11, "firstClash", "(LFieldPitches$Sheet;)I"⟩
abbrev cX11_isIn : ByteArray := prog_1_method_49_code
def yX11_isIn : MethodName := ⟨RX11, "isIn", "(III)Z"⟩
abbrev cX11_isStay : ByteArray := prog_1_method_50_code
def yX11_isStay : MethodName := ⟨RX11, "isStay", "(II)Z"⟩
def RX12 : String := "FieldPitchesModel"
def TX12 : u_T := fun k => match k with
  | 0 => ("FieldPitchesModel", "today", "I", false)
  | 1 => ("FieldPitchesModel", "till", "I", false)
  | 2 => ("FieldPitchesModel", "pitches", "I", false)
  | 3 => ("FieldPitchesModel", "pitch", "[I", true)
  | 4 => ("FieldPitchesModel", "starSum", "[I", true)
  | 5 => ("FieldPitchesModel", "starMany", "[I", true)
  | 6 => ("FieldPitchesModel", "parties", "I", false)
  | 7 => ("FieldPitchesModel", "party", "[I", true)
  | 8 => ("FieldPitchesModel", "limits", "[I", true)
  | 9 => ("FieldPitchesModel", "washers", "I", false)
  | 10 => ("FieldPitchesModel", "comes", "[I", true)
  | 11 => ("FieldPitchesModel", "takes", "[I", true)
  | 12 => ("FieldPitchesModel", "spots", "[I", true)
  | 13 => ("FieldPitchesModel", "signMany", "[I", true)
  | 14 => ("FieldPitchesModel", "signs", "[I", true)
  | 15 => ("FieldPitchesModel", "findings", "[I", true)
  | 16 => ("FieldPitchesModel", "taken", "[Z", true)
  | 17 => ("FieldPitchesModel", "planned", "[I", true)
  | 18 => ("FieldPitchesModel", "gapsWithout", "[I", true)
  | 19 => ("FieldPitchesModel", "bestOn", "[I", true)
  | 20 => ("FieldPitchesModel", "plannedMany", "I", false)
  | 21 => ("FieldPitchesModel", "tape", "[I", true)
  | 22 => ("FieldPitchesModel", "tapeMany", "I", false)
  | 23 => ("FieldPitchesModel", "from", "I", false)
  | 24 => ("FieldPitchesModel", "to", "I", false)
  | 25 => ("FieldPitchesModel", "sort", "I", false)
  | 26 => ("FieldPitchesModel", "value", "I", false)
  | 27 => ("FieldPitchesModel", "fresh", "[I", true)
  | 28 => ("FieldPitchesModel", "pending", "[I", true)
  | 29 => ("FieldPitchesModel", "freshMany", "I", false)
  | 30 => ("FieldPitchesModel", "pendingMany", "I", false)
  | 31 => ("FieldPitchesModel", "open", "I", false)
  | 32 => ("FieldPitchesModel", "said", "I", false)
  | 33 => ("FieldPitchesModel", "pile", "[I", true)
  | 34 => ("FieldPitchesModel", "moved", "[I", true)
  | 35 => ("FieldPitchesModel", "wetOnes", "[I", true)
  | 36 => ("FieldPitchesModel", "served", "[Z", true)
  | 37 => ("FieldPitchesModel", "showerFree", "[I", true)
  | 38 => ("FieldPitchesModel", "bits", "[I", true)
  | 39 => ("FieldPitchesModel", "sizes", "[I", true)
  | 40 => ("FieldPitchesModel", "sheets", "[I", true)
  | 41 => ("FieldPitchesModel", "carried", "[I", true)
  | 42 => ("FieldPitchesModel", "isKept", "Z", false)
  | 43 => ("FieldPitchesModel", "kept", "[I", true)
  | 44 => ("FieldPitchesModel", "movedTo", "I", false)
  | _ => ("FieldPitchesModel", "single", "[I", true)
def tyX12 : Nat → FieldType := fun k => match k with
  | 0 => .int
  | 1 => .int
  | 2 => .int
  | 3 => .array .int
  | 4 => .array .int
  | 5 => .array .int
  | 6 => .int
  | 7 => .array .int
  | 8 => .array .int
  | 9 => .int
  | 10 => .array .int
  | 11 => .array .int
  | 12 => .array .int
  | 13 => .array .int
  | 14 => .array .int
  | 15 => .array .int
  | 16 => .array .boolean
  | 17 => .array .int
  | 18 => .array .int
  | 19 => .array .int
  | 20 => .int
  | 21 => .array .int
  | 22 => .int
  | 23 => .int
  | 24 => .int
  | 25 => .int
  | 26 => .int
  | 27 => .array .int
  | 28 => .array .int
  | 29 => .int
  | 30 => .int
  | 31 => .int
  | 32 => .int
  | 33 => .array .int
  | 34 => .array .int
  | 35 => .array .int
  | 36 => .array .boolean
  | 37 => .array .int
  | 38 => .array .int
  | 39 => .array .int
  | 40 => .array .int
  | 41 => .array .int
  | 42 => .boolean
  | 43 => .array .int
  | 44 => .int
  | _ => .array .int
abbrev wsX120 : List Cond := u_ws RX12 TX12 46
theorem nmX12 : ∀ a, a < 46 → ∀ b, b < 46 → a ≠ b → (TX12 a).2.1 ≠ (TX12 b).2.1 := by decide +kernel
theorem tyX12_ok : ∀ k, k < 46 → parseFieldDescriptor (TX12 k).2.2.1 = some (tyX12 k) := by decide +kernel
abbrev cX12_init : ByteArray := prog_14_method_1_code
def yX12_init : MethodName := ⟨RX12, "<init>", "()V"⟩
abbrev cX12_in : ByteArray := prog_14_method_2_code
def yX12_in : MethodName := ⟨RX12, "in", "(III)Z"⟩
abbrev cX12_finds : ByteArray := prog_14_method_3_code
def yX12_finds : MethodName := ⟨RX12, "finds", "(I)I"⟩
abbrev cX12_isPitch : ByteArray := prog_14_method_4_code
def yX12_isPitch : MethodName := ⟨RX12, "isPitch", "(I)Z"⟩
abbrev cX12_isParty : ByteArray := prog_14_method_5_code
def yX12_isParty : MethodName := ⟨RX12, "isParty", "(I)Z"⟩
abbrev cX12_isNight : ByteArray := prog_14_method_6_code
def yX12_isNight : MethodName := ⟨RX12, "isNight", "(I)Z"⟩
abbrev cX12_pitch : ByteArray := prog_14_method_7_code
def yX12_pitch : MethodName := ⟨RX12, "pitch", "(IIII)I"⟩
abbrev cX12_pitchOf : ByteArray := prog_14_method_8_code
def yX12_pitchOf : MethodName := ⟨RX12, "pitchOf", "(II)I"⟩
abbrev cX12_shade : ByteArray := prog_14_method_9_code
def yX12_shade : MethodName := ⟨RX12, "shade", "(II)I"⟩
abbrev cX12_size : ByteArray := prog_14_method_10_code
def yX12_size : MethodName := ⟨RX12, "size", "(I)I"⟩
abbrev cX12_farOf : ByteArray := prog_14_method_11_code
def yX12_farOf : MethodName := ⟨RX12, "farOf", "(II)I"⟩
abbrev cX12_far : ByteArray := prog_14_method_12_code
def yX12_far : MethodName := ⟨RX12, "far", "(II)I"⟩
abbrev cX12_party : ByteArray := prog_14_method_13_code
def yX12_party : MethodName := ⟨RX12, "party", "(IIII)I"⟩
abbrev cX12_of : ByteArray := prog_14_method_14_code
def yX12_of : MethodName := ⟨RX12, "of", "(II)I"⟩
abbrev cX12_hasCome : ByteArray := prog_14_method_15_code
def yX12_hasCome : MethodName := ⟨RX12, "hasCome", "(I)Z"⟩
abbrev cX12_partyOf : ByteArray := prog_14_method_16_code
def yX12_partyOf : MethodName := ⟨RX12, "partyOf", "(II)I"⟩
abbrev cX12_lacks : ByteArray := prog_14_method_17_code
def yX12_lacks : MethodName := ⟨RX12, "lacks", "(III)Z"⟩
abbrev cX12_whyNot : ByteArray := prog_14_method_18_code
def yX12_whyNot : MethodName := ⟨RX12, "whyNot", "(II)I"⟩
abbrev cX12_why : ByteArray := prog_14_method_19_code
def yX12_why : MethodName := ⟨RX12, "why", "(II)I"⟩
abbrev cX12_near : ByteArray := prog_14_method_20_code
def yX12_near : MethodName := ⟨RX12, "near", "(II)I"⟩
abbrev cX12_staysIn : ByteArray := prog_14_method_21_code
def yX12_staysIn : MethodName := ⟨RX12, "staysIn", "(II)Z"⟩
abbrev cX12_meet : ByteArray := prog_14_method_22_code
def yX12_meet : MethodName := ⟨RX12, "meet", "(II)Z"⟩
abbrev cX12_isFreeFor : ByteArray := prog_14_method_23_code
def yX12_isFreeFor : MethodName := ⟨RX12, "isFreeFor", "(II)Z"⟩
abbrev cX12_put : ByteArray := prog_14_method_24_code
def yX12_put : MethodName := ⟨RX12, "put", "(II)I"⟩
abbrev cX12_nights : ByteArray := prog_14_method_25_code
def yX12_nights : MethodName := ⟨RX12, "nights", "(I)I"⟩
abbrev cX12_whoIn : ByteArray := prog_14_method_26_code
def yX12_whoIn : MethodName := ⟨RX12, "whoIn", "(II)I"⟩
abbrev cX12_who : ByteArray := prog_14_method_27_code
def yX12_who : MethodName := ⟨RX12, "who", "(II)I"⟩
abbrev cX12_gapsOf : ByteArray := prog_14_method_28_code
def yX12_gapsOf : MethodName := ⟨RX12, "gapsOf", "(I)I"⟩
abbrev cX12_gaps : ByteArray := prog_14_method_29_code
def yX12_gaps : MethodName := ⟨RX12, "gaps", "(I)I"⟩
abbrev cX12_apartNow : ByteArray := prog_14_method_30_code
def yX12_apartNow : MethodName := ⟨RX12, "apartNow", "()I"⟩
abbrev cX12_apart : ByteArray := prog_14_method_31_code
def yX12_apart : MethodName := ⟨RX12, "apart", "()I"⟩
abbrev cX12_ones : ByteArray := prog_14_method_32_code
def yX12_ones : MethodName := ⟨RX12, "ones", "(I)I"⟩
abbrev cX12_gapsNow : ByteArray := prog_14_method_33_code
def yX12_gapsNow : MethodName := ⟨RX12, "gapsNow", "()I"⟩
abbrev cX12_lays : ByteArray := prog_14_method_34_code
def yX12_lays : MethodName := ⟨RX12, "lays", "(I)I"⟩
abbrev cX12_plan : ByteArray := prog_14_method_35_code
def yX12_plan : MethodName := ⟨RX12, "plan", "(I)I"⟩
abbrev cX12_feed : ByteArray := prog_14_method_36_code
def yX12_feed : MethodName := ⟨RX12, "feed", "(II)I"⟩
abbrev cX12_wipe : ByteArray := prog_14_method_37_code
def yX12_wipe : MethodName := ⟨RX12, "wipe", "()I"⟩
abbrev cX12_byteAt : ByteArray := prog_14_method_38_code
def yX12_byteAt : MethodName := ⟨RX12, "byteAt", "(I)I"⟩
abbrev cX12_isLetter : ByteArray := prog_14_method_39_code
def yX12_isLetter : MethodName := ⟨RX12, "isLetter", "(I)Z"⟩
abbrev cX12_isDigit : ByteArray := prog_14_method_40_code
def yX12_isDigit : MethodName := ⟨RX12, "isDigit", "(I)Z"⟩
abbrev cX12_isName : ByteArray := prog_14_method_41_code
def yX12_isName : MethodName := ⟨RX12, "isName", "(I)Z"⟩
abbrev cX12_isMark : ByteArray := prog_14_method_42_code
def yX12_isMark : MethodName := ⟨RX12, "isMark", "(I)Z"⟩
abbrev cX12_advance : ByteArray := prog_14_method_43_code
def yX12_advance : MethodName := ⟨RX12, "advance", "()V"⟩
abbrev cX12_emit : ByteArray := prog_14_method_44_code
def yX12_emit : MethodName := ⟨RX12, "emit", "(I)V"⟩
abbrev cX12_top : ByteArray := prog_14_method_45_code
def yX12_top : MethodName := ⟨RX12, "top", "()I"⟩
abbrev cX12_pend : ByteArray := prog_14_method_46_code
def yX12_pend : MethodName := ⟨RX12, "pend", "(I)V"⟩
abbrev cX12_ended : ByteArray := prog_14_method_47_code
def yX12_ended : MethodName := ⟨RX12, "ended", "()V"⟩
abbrev cX12_settle : ByteArray := prog_14_method_48_code
def yX12_settle : MethodName := ⟨RX12, "settle", "(I)V"⟩
abbrev cX12_binds : ByteArray := prog_14_method_49_code
def yX12_binds : MethodName := ⟨RX12, "binds", "(I)I"⟩
abbrev cX12_begins : ByteArray := prog_14_method_50_code
def yX12_begins : MethodName := ⟨RX12, "begins", "()Z"⟩
abbrev cX12_goesOn : ByteArray := prog_14_method_51_code
def yX12_goesOn : MethodName := ⟨RX12, "goesOn", "()Z"⟩
abbrev cX12_reads : ByteArray := prog_14_method_52_code
def yX12_reads : MethodName := ⟨RX12, "reads", "()I"⟩
abbrev cX12_law : ByteArray := prog_14_method_53_code
def yX12_law : MethodName := ⟨RX12, "law", "(I)I"⟩
abbrev cX12_repeal : ByteArray := prog_14_method_54_code
def yX12_repeal : MethodName := ⟨RX12, "repeal", "(I)I"⟩
abbrev cX12_others : ByteArray := prog_14_method_55_code
def yX12_others : MethodName := ⟨RX12, "others", "(I)I"⟩
abbrev cX12_named : ByteArray := prog_14_method_56_code
def yX12_named : MethodName := ⟨RX12, "named", "(II)I"⟩
abbrev cX12_joined : ByteArray := prog_14_method_57_code
def yX12_joined : MethodName := ⟨RX12, "joined", "(III)I"⟩
abbrev cX12_worked : ByteArray := prog_14_method_58_code
def yX12_worked : MethodName := ⟨RX12, "worked", "(II)I"⟩
abbrev cX12_priceBy : ByteArray := prog_14_method_59_code
def yX12_priceBy : MethodName := ⟨RX12, "priceBy", "(I)I"⟩
abbrev cX12_held : ByteArray := prog_14_method_60_code
def yX12_held : MethodName := ⟨RX12, "held", "(II)I"⟩
abbrev cX12_saysOf : ByteArray := prog_14_method_61_code
def yX12_saysOf : MethodName := ⟨RX12, "saysOf", "(II)I"⟩
abbrev cX12_says : ByteArray := prog_14_method_62_code
def yX12_says : MethodName := ⟨RX12, "says", "(II)I"⟩
abbrev cX12_pay : ByteArray := prog_14_method_63_code
def yX12_pay : MethodName := ⟨RX12, "pay", "(I)I"⟩
abbrev cX12_cancel : ByteArray := prog_14_method_64_code
def yX12_cancel : MethodName := ⟨RX12, "cancel", "(I)I"⟩
abbrev cX12_review : ByteArray := prog_14_method_65_code
def yX12_review : MethodName := ⟨RX12, "review", "(II)I"⟩
abbrev cX12_stars : ByteArray := prog_14_method_66_code
def yX12_stars : MethodName := ⟨RX12, "stars", "(I)I"⟩
abbrev cX12_use : ByteArray := prog_14_method_67_code
def yX12_use : MethodName := ⟨RX12, "use", "(III)I"⟩
abbrev cX12_isPost : ByteArray := prog_14_method_68_code
def yX12_isPost : MethodName := ⟨RX12, "isPost", "(I)Z"⟩
abbrev cX12_limit : ByteArray := prog_14_method_69_code
def yX12_limit : MethodName := ⟨RX12, "limit", "(II)I"⟩
abbrev cX12_isHere : ByteArray := prog_14_method_70_code
def yX12_isHere : MethodName := ⟨RX12, "isHere", "(I)Z"⟩
abbrev cX12_postOf : ByteArray := prog_14_method_71_code
def yX12_postOf : MethodName := ⟨RX12, "postOf", "(I)I"⟩
abbrev cX12_loadOf : ByteArray := prog_14_method_72_code
def yX12_loadOf : MethodName := ⟨RX12, "loadOf", "(II)I"⟩
abbrev cX12_load : ByteArray := prog_14_method_73_code
def yX12_load : MethodName := ⟨RX12, "load", "(II)I"⟩
abbrev cX12_trips : ByteArray := prog_14_method_74_code
def yX12_trips : MethodName := ⟨RX12, "trips", "(I)I"⟩
abbrev cX12_may : ByteArray := prog_14_method_75_code
def yX12_may : MethodName := ⟨RX12, "may", "(IIII)I"⟩
abbrev cX12_isWet : ByteArray := prog_14_method_76_code
def yX12_isWet : MethodName := ⟨RX12, "isWet", "(II)Z"⟩
abbrev cX12_wet : ByteArray := prog_14_method_77_code
def yX12_wet : MethodName := ⟨RX12, "wet", "(I)I"⟩
abbrev cX12_isOpen : ByteArray := prog_14_method_78_code
def yX12_isOpen : MethodName := ⟨RX12, "isOpen", "(II)Z"⟩
abbrev cX12_rescue : ByteArray := prog_14_method_79_code
def yX12_rescue : MethodName := ⟨RX12, "rescue", "(II)I"⟩
abbrev cX12_wash : ByteArray := prog_14_method_80_code
def yX12_wash : MethodName := ⟨RX12, "wash", "(II)I"⟩
abbrev cX12_block : ByteArray := prog_14_method_81_code
def yX12_block : MethodName := ⟨RX12, "block", "(II)I"⟩
abbrev cX12_dry : ByteArray := prog_14_method_82_code
def yX12_dry : MethodName := ⟨RX12, "dry", "()I"⟩
abbrev cX12_join : ByteArray := prog_14_method_83_code
def yX12_join : MethodName := ⟨RX12, "join", "(I)I"⟩
abbrev cX12_hold : ByteArray := prog_14_method_84_code
def yX12_hold : MethodName := ⟨RX12, "hold", "(II)I"⟩
abbrev cX12_as : ByteArray := prog_14_method_85_code
def yX12_as : MethodName := ⟨RX12, "as", "(II)I"⟩
abbrev cX12_isSheet : ByteArray := prog_14_method_86_code
def yX12_isSheet : MethodName := ⟨RX12, "isSheet", "(I)Z"⟩
abbrev cX12_sheet : ByteArray := prog_14_method_87_code
def yX12_sheet : MethodName := ⟨RX12, "sheet", "(III)I"⟩
abbrev cX12_write : ByteArray := prog_14_method_88_code
def yX12_write : MethodName := ⟨RX12, "write", "(III)I"⟩
abbrev cX12_copy : ByteArray := prog_14_method_89_code
def yX12_copy : MethodName := ⟨RX12, "copy", "(IIIII)I"⟩
abbrev cX12_move : ByteArray := prog_14_method_90_code
def yX12_move : MethodName := ⟨RX12, "move", "([IIZ)V"⟩
abbrev cX12_moveAll : ByteArray := prog_14_method_91_code
def yX12_moveAll : MethodName := ⟨RX12, "moveAll", "(Z)V"⟩
abbrev cX12_image : ByteArray := prog_14_method_92_code
def yX12_image : MethodName := ⟨RX12, "image", "()I"⟩
abbrev cX12_undo : ByteArray := prog_14_method_93_code
def yX12_undo : MethodName := ⟨RX12, "undo", "()I"⟩
abbrev cX12_tear : ByteArray := prog_14_method_94_code
def yX12_tear : MethodName := ⟨RX12, "tear", "()I"⟩
abbrev cX12_count : ByteArray := prog_14_method_95_code
def yX12_count : MethodName := ⟨RX12, "count", "(I)I"⟩
abbrev cX12_status : ByteArray := prog_14_method_96_code
def yX12_status : MethodName := ⟨RX12, "status", "(I)I"⟩
def RJ6 : String := "java/lang/Integer"
def TJ6 : u_T := fun k => match k with
  | _ => ("", "", "", false)
def tyJ6 : Nat → FieldType := fun k => match k with
  | _ => .int
abbrev wsJ60 : List Cond := u_ws RJ6 TJ6 0
theorem nmJ6 : ∀ a, a < 0 → ∀ b, b < 0 → a ≠ b → (TJ6 a).2.1 ≠ (TJ6 b).2.1 := by decide +kernel
theorem tyJ6_ok : ∀ k, k < 0 → parseFieldDescriptor (TJ6 k).2.2.1 = some (tyJ6 k) := by decide +kernel
abbrev cJ6_bitCount_0f7a4 : ByteArray := prog_15_method_49_code
def yJ6_bitCount_0f7a4 : MethodName := ⟨RJ6, "bitCount", "(I)I"⟩
def RJ13 : String := "java/lang/Long"
def TJ13 : u_T := fun k => match k with
  | _ => ("", "", "", false)
def tyJ13 : Nat → FieldType := fun k => match k with
  | _ => .int
abbrev wsJ130 : List Cond := u_ws RJ13 TJ13 0
theorem nmJ13 : ∀ a, a < 0 → ∀ b, b < 0 → a ≠ b → (TJ13 a).2.1 ≠ (TJ13 b).2.1 := by decide +kernel
theorem tyJ13_ok : ∀ k, k < 0 → parseFieldDescriptor (TJ13 k).2.2.1 = some (tyJ13 k) := by decide +kernel
abbrev cJ13_bitCount_95d88 : ByteArray := prog_16_method_50_code
def yJ13_bitCount_95d88 : MethodName := ⟨RJ13, "bitCount", "(J)I"⟩
def RJ9 : String := "java/lang/Math"
def TJ9 : u_T := fun k => match k with
  | _ => ("", "", "", false)
def tyJ9 : Nat → FieldType := fun k => match k with
  | _ => .int
abbrev wsJ90 : List Cond := u_ws RJ9 TJ9 0
theorem nmJ9 : ∀ a, a < 0 → ∀ b, b < 0 → a ≠ b → (TJ9 a).2.1 ≠ (TJ9 b).2.1 := by decide +kernel
theorem tyJ9_ok : ∀ k, k < 0 → parseFieldDescriptor (TJ9 k).2.2.1 = some (tyJ9 k) := by decide +kernel
abbrev cJ9_abs_0f7a4 : ByteArray := prog_17_method_59_code
def yJ9_abs_0f7a4 : MethodName := ⟨RJ9, "abs", "(I)I"⟩
abbrev cJ9_max_7cf53 : ByteArray := prog_17_method_65_code
def yJ9_max_7cf53 : MethodName := ⟨RJ9, "max", "(II)I"⟩
abbrev cJ9_min_7cf53 : ByteArray := prog_17_method_69_code
def yJ9_min_7cf53 : MethodName := ⟨RJ9, "min", "(II)I"⟩
def RJ10 : String := "java/lang/System"
def TJ10 : u_T := fun k => match k with
  | _ => ("", "", "", false)
def tyJ10 : Nat → FieldType := fun k => match k with
  | _ => .int
abbrev wsJ100 : List Cond := u_ws RJ10 TJ10 0
theorem nmJ10 : ∀ a, a < 0 → ∀ b, b < 0 → a ≠ b → (TJ10 a).2.1 ≠ (TJ10 b).2.1 := by decide +kernel
theorem tyJ10_ok : ∀ k, k < 0 → parseFieldDescriptor (TJ10 k).2.2.1 = some (tyJ10 k) := by decide +kernel
def RL : String := "FieldPitchesLaw"
abbrev cL_law : ByteArray := code
def yL_law : MethodName := ⟨RL, "law", "([I)Z"⟩
theorem gt0 : ∀ w ∈ k2_sels lw_privs, w ∈ lw_tbl := fun w h => List.mem_append_left _ h
theorem gt1 : ∀ w ∈ tables_1_1, w ∈ lw_tbl := fun w h => List.mem_append_right _ (List.mem_append_left _ h)
theorem gt2 : ∀ w ∈ tables_1_2, w ∈ lw_tbl := fun w h => List.mem_append_right _ (List.mem_append_right _ (List.mem_append_left _ h))
theorem gt3 : ∀ w ∈ tables_1_3, w ∈ lw_tbl := fun w h => List.mem_append_right _ (List.mem_append_right _ (List.mem_append_right _ (List.mem_append_left _ h)))
theorem gt4 : ∀ w ∈ tables_1_4, w ∈ lw_tbl := fun w h => List.mem_append_right _ (List.mem_append_right _ (List.mem_append_right _ (List.mem_append_right _ (List.mem_append_left _ h))))
theorem gt5 : ∀ w ∈ tables_1_5, w ∈ lw_tbl := fun w h => List.mem_append_right _ (List.mem_append_right _ (List.mem_append_right _ (List.mem_append_right _ (List.mem_append_right _ (List.mem_append_left _ h)))))
theorem gt6 : ∀ w ∈ tables_1_6, w ∈ lw_tbl := fun w h => List.mem_append_right _ (List.mem_append_right _ (List.mem_append_right _ (List.mem_append_right _ (List.mem_append_right _ (List.mem_append_right _ (List.mem_append_left _ h))))))
theorem gt7 : ∀ w ∈ tables_1_7, w ∈ lw_tbl := fun w h => List.mem_append_right _ (List.mem_append_right _ (List.mem_append_right _ (List.mem_append_right _ (List.mem_append_right _ (List.mem_append_right _ (List.mem_append_right _ (h)))))))
/-! numbers for classes: of the objects (as vwCl has them), and of the owners of code -/
abbrev vwCl : List vw_C := [(RX0, TX0, 2), (RX2, TX2, 4), (RX3, TX3, 14), (RX4, TX4, 10), (RX5, TX5, 14), (RX6, TX6, 7), (RX7, TX7, 3), (RX8, TX8, 11), (RX9, TX9, 11), (RX10, TX10, 7), (RX11, TX11, 9), (RX12, TX12, 46)]
def gT (c : Nat) : u_T := match c with
  | 0 => TX0
  | 1 => TX2
  | 2 => TX3
  | 3 => TX4
  | 4 => TX5
  | 5 => TX6
  | 6 => TX7
  | 7 => TX8
  | 8 => TX9
  | 9 => TX10
  | 10 => TX11
  | _ => TX12
def gty (c : Nat) : Nat → FieldType := match c with
  | 0 => tyX0
  | 1 => tyX2
  | 2 => tyX3
  | 3 => tyX4
  | 4 => tyX5
  | 5 => tyX6
  | 6 => tyX7
  | 7 => tyX8
  | 8 => tyX9
  | 9 => tyX10
  | 10 => tyX11
  | _ => tyX12
def gR (c : Nat) : String := match c with
  | 0 => RX0
  | 1 => RX2
  | 2 => RX3
  | 3 => RX4
  | 4 => RX5
  | 5 => RX6
  | 6 => RX7
  | 7 => RX8
  | 8 => RX9
  | 9 => RX10
  | 10 => RX11
  | _ => RX12
def gN (c : Nat) : Nat := match c with
  | 0 => 2
  | 1 => 4
  | 2 => 14
  | 3 => 10
  | 4 => 14
  | 5 => 7
  | 6 => 3
  | 7 => 11
  | 8 => 11
  | 9 => 7
  | 10 => 9
  | _ => 46
def gown (k : Nat) : String := match k with
  | 0 => RX0
  | 1 => RX1
  | 2 => RX2
  | 3 => RX3
  | 4 => RX4
  | 5 => RX5
  | 6 => RX6
  | 7 => RX7
  | 8 => RX8
  | 9 => RX9
  | 10 => RX10
  | 11 => RX11
  | 12 => RX12
  | 13 => RJ6
  | 14 => RJ13
  | 15 => RJ9
  | 16 => RJ10
  | _ => RL
abbrev gHd : Type := MethodName × ByteArray × Nat × Option FieldType × Nat
def gH0 : List gHd := [(yX0_init, cX0_init, 1, none, 0), (yX0_lowNights, cX0_lowNights, 2, (some .long), 0), (yX0_highNights, cX0_highNights, 2, (some .long), 0), (yX0_below, cX0_below, 1, (some .long), 0), (yX0_empty, cX0_empty, 2, none, 0), (yX0_isFree, cX0_isFree, 6, (some .boolean), 0), (yX0_take, cX0_take, 6, none, 0), (yX0_leave, cX0_leave, 6, none, 0), (yX0_lonelyNights, cX0_lonelyNights, 10, (some .int), 0), (yX1_isUnder, cX1_isUnder, 4, (some .boolean), 1), (yX1_reason, cX1_reason, 3, (some .int), 1), (yX1_reasonOfAll, cX1_reasonOfAll, 2, (some .int), 1), (yX1_reasonOfVans, cX1_reasonOfVans, 3, (some .int), 1), (yX1_price, cX1_price, 3, (some .int), 1), (yX2_init, cX2_init, 1, none, 2), (yX2_begin, cX2_begin, 3, none, 2), (yX2_become, cX2_become, 2, none, 2), (yX2_worth, cX2_worth, 5, (some .int), 2), (yX2_operand, cX2_operand, 3, (some .int), 2), (yX2_joined, cX2_joined, 3, (some .int), 2), (yX3_init, cX3_init, 1, none, 3), (yX3_begin, cX3_begin, 5, none, 3), (yX3_become, cX3_become, 2, none, 3), (yX3_trait, cX3_trait, 2, (some .int), 3), (yX3_lastNight, cX3_lastNight, 1, (some .int), 3), (yX3_stays, cX3_stays, 2, (some .boolean), 3), (yX3_wishesFor, cX3_wishesFor, 2, (some .boolean), 3), (yX4_init, cX4_init, 1, none, 4), (yX4_begin, cX4_begin, 5, none, 4), (yX4_become, cX4_become, 2, none, 4), (yX4_trait, cX4_trait, 2, (some .int), 4), (yX4_offers, cX4_offers, 2, (some .boolean), 4)]
def gH1 : List gHd := [(yX5_init, cX5_init, 3, none, 5), (yX5_make, cX5_make, 3, (some .int), 5), (yX5_gather, cX5_gather, 3, none, 5), (yX5_lookAt, cX5_lookAt, 6, none, 5), (yX5_addWays, cX5_addWays, 5, none, 5), (yX5_wishesBetween, cX5_wishesBetween, 3, (some .int), 5), (yX5_bound, cX5_bound, 3, none, 5), (yX5_canBeat, cX5_canBeat, 7, (some .boolean), 5), (yX5_tryFrom, cX5_tryFrom, 10, none, 5), (yX5_wayOf, cX5_wayOf, 4, (some .int), 5), (yX5_remember, cX5_remember, 5, none, 5), (yX6_init, cX6_init, 2, none, 6), (yX6_work, cX6_work, 6, (some .int), 6), (yX6_goalOf, cX6_goalOf, 3, (some .int), 6), (yX6_gather, cX6_gather, 4, none, 6), (yX6_dryPitches, cX6_dryPitches, 5, (some .int), 6), (yX6_fitting, cX6_fitting, 6, (some .int), 6), (yX6_leastGoal, cX6_leastGoal, 6, (some .int), 6), (yX6_mostFrom, cX6_mostFrom, 5, (some .int), 6), (yX6_finds, cX6_finds, 4, (some .boolean), 6), (yX7_init, cX7_init, 1, none, 7), (yX7_begin, cX7_begin, 4, none, 7), (yX7_isMissing, cX7_isMissing, 1, (some .boolean), 7), (yX7_hasRange, cX7_hasRange, 3, (some .boolean), 7), (yX7_change, cX7_change, 3, none, 7), (yX8_init, cX8_init, 2, none, 8), (yX8_become, cX8_become, 3, none, 8), (yX8_isPitch, cX8_isPitch, 2, (some .boolean), 8), (yX8_isParty, cX8_isParty, 2, (some .boolean), 8), (yX8_isPartyOrNobody, cX8_isPartyOrNobody, 2, (some .boolean), 8), (yX8_isOn, cX8_isOn, 2, (some .boolean), 8), (yX8_hasCome, cX8_hasCome, 2, (some .boolean), 8)]
def gH2 : List gHd := [(yX8_isSettled, cX8_isSettled, 2, (some .boolean), 8), (yX8_isHere, cX8_isHere, 2, (some .boolean), 8), (yX8_isWet, cX8_isWet, 3, (some .boolean), 8), (yX8_partiesHere, cX8_partiesHere, 3, (some .int), 8), (yX8_partiesWaiting, cX8_partiesWaiting, 3, (some .int), 8), (yX8_distance, cX8_distance, 3, (some .int), 8), (yX8_holder, cX8_holder, 4, (some .int), 8), (yX8_mark, cX8_mark, 5, none, 8), (yX8_loadNow, cX8_loadNow, 7, (some .int), 8), (yX8_priceNow, cX8_priceNow, 2, (some .int), 8), (yX8_refundNow, cX8_refundNow, 3, (some .int), 8), (yX8_worthFor, cX8_worthFor, 4, (some .int), 8), (yX8_othersOn, cX8_othersOn, 5, (some .int), 8), (yX9_init, cX9_init, 1, none, 9), (yX9_append, cX9_append, 2, none, 9), (yX9_readText, cX9_readText, 1, (some .boolean), 9), (yX9_cutIntoTokens, cX9_cutIntoTokens, 3, none, 9), (yX9_addToken, cX9_addToken, 4, none, 9), (yX9_cutNumber, cX9_cutNumber, 4, (some .int), 9), (yX9_cutWord, cX9_cutWord, 4, (some .int), 9), (yX9_nameOf, cX9_nameOf, 2, (some .int), 9), (yX9_isDigit, cX9_isDigit, 1, (some .boolean), 9), (yX9_isLetter, cX9_isLetter, 1, (some .boolean), 9), (yX9_isSign, cX9_isSign, 1, (some .boolean), 9), (yX9_isAt, cX9_isAt, 3, (some .boolean), 9), (yX9_passToken, cX9_passToken, 2, (some .int), 9), (yX9_isFault, cX9_isFault, 1, (some .boolean), 9), (yX9_emit, cX9_emit, 2, (some .boolean), 9), (yX9_readCompared, cX9_readCompared, 3, (some .boolean), 9), (yX9_readSum, cX9_readSum, 5, (some .boolean), 9), (yX9_readTerm, cX9_readTerm, 5, (some .boolean), 9), (yX9_readOne, cX9_readOne, 3, (some .boolean), 9)]
def gH3 : List gHd := [(yX9_readClosing, cX9_readClosing, 1, (some .boolean), 9), (yX10_init, cX10_init, 1, none, 10), (yX10_insert, cX10_insert, 4, none, 10), (yX10_become, cX10_become, 2, none, 10), (yX10_serve, cX10_serve, 6, none, 10), (yX10_firstFree, cX10_firstFree, 4, (some .int), 10), (yX11_init, cX11_init, 2, none, 11), (yX11_pitch, cX11_pitch, 7, (some .int), 11), (yX11_pitchOf, cX11_pitchOf, 3, (some .int), 11), (yX11_shade, cX11_shade, 4, (some .int), 11), (yX11_far, cX11_far, 3, (some .int), 11), (yX11_party, cX11_party, 7, (some .int), 11), (yX11_partyOf, cX11_partyOf, 3, (some .int), 11), (yX11_why, cX11_why, 3, (some .int), 11), (yX11_near, cX11_near, 4, (some .int), 11), (yX11_put, cX11_put, 5, (some .int), 11), (yX11_nights, cX11_nights, 2, (some .int), 11), (yX11_who, cX11_who, 3, (some .int), 11), (yX11_gaps, cX11_gaps, 4, (some .int), 11), (yX11_plan, cX11_plan, 5, (some .int), 11), (yX11_apart, cX11_apart, 4, (some .int), 11), (yX11_feed, cX11_feed, 4, (some .int), 11), (yX11_wipe, cX11_wipe, 2, (some .int), 11), (yX11_law, cX11_law, 3, (some .int), 11), (yX11_repeal, cX11_repeal, 3, (some .int), 11), (yX11_says, cX11_says, 3, (some .int), 11), (yX11_pay, cX11_pay, 3, (some .int), 11), (yX11_cancel, cX11_cancel, 4, (some .int), 11), (yX11_review, cX11_review, 5, (some .int), 11), (yX11_stars, cX11_stars, 3, (some .int), 11), (yX11_use, cX11_use, 4, (some .int), 11), (yX11_limit, cX11_limit, 4, (some .int), 11)]
def gH4 : List gHd := [(yX11_load, cX11_load, 3, (some .int), 11), (yX11_trips, cX11_trips, 4, (some .int), 11), (yX11_may, cX11_may, 10, (some .int), 11), (yX11_wet, cX11_wet, 4, (some .int), 11), (yX11_rescue, cX11_rescue, 5, (some .int), 11), (yX11_wash, cX11_wash, 3, (some .int), 11), (yX11_block, cX11_block, 4, (some .int), 11), (yX11_dry, cX11_dry, 2, (some .int), 11), (yX11_join, cX11_join, 3, (some .int), 11), (yX11_hold, cX11_hold, 3, (some .int), 11), (yX11_as, cX11_as, 4, (some .int), 11), (yX11_sheet, cX11_sheet, 5, (some .int), 11), (yX11_write, cX11_write, 4, (some .int), 11), (yX11_copy, cX11_copy, 8, (some .int), 11), (yX11_image, cX11_image, 1, (some .int), 11), (yX11_undo, cX11_undo, 1, (some .int), 11), (yX11_tear, cX11_tear, 2, (some .int), 11), (yX11_count, cX11_count, 2, (some .int), 11), (yX11_status, cX11_status, 4, (some .int), 11), (yX11_finding, cX11_finding, 3, (some .int), 11), (yX11_areStays, cX11_areStays, 4, (some .boolean), 11), (yX11_firstClash, cX11_firstClash, 8, (some .int), 11), (yX11_isIn, cX11_isIn, 3, (some .boolean), 11), (yX11_isStay, cX11_isStay, 2, (some .boolean), 11), (yX12_init, cX12_init, 1, none, 12), (yX12_in, cX12_in, 3, (some .boolean), 12), (yX12_finds, cX12_finds, 2, (some .int), 12), (yX12_isPitch, cX12_isPitch, 2, (some .boolean), 12), (yX12_isParty, cX12_isParty, 2, (some .boolean), 12), (yX12_isNight, cX12_isNight, 1, (some .boolean), 12), (yX12_pitch, cX12_pitch, 7, (some .int), 12), (yX12_pitchOf, cX12_pitchOf, 3, (some .int), 12)]
def gH5 : List gHd := [(yX12_shade, cX12_shade, 4, (some .int), 12), (yX12_size, cX12_size, 1, (some .int), 12), (yX12_farOf, cX12_farOf, 3, (some .int), 12), (yX12_far, cX12_far, 3, (some .int), 12), (yX12_party, cX12_party, 7, (some .int), 12), (yX12_of, cX12_of, 3, (some .int), 12), (yX12_hasCome, cX12_hasCome, 2, (some .boolean), 12), (yX12_partyOf, cX12_partyOf, 3, (some .int), 12), (yX12_lacks, cX12_lacks, 4, (some .boolean), 12), (yX12_whyNot, cX12_whyNot, 5, (some .int), 12), (yX12_why, cX12_why, 3, (some .int), 12), (yX12_near, cX12_near, 4, (some .int), 12), (yX12_staysIn, cX12_staysIn, 3, (some .boolean), 12), (yX12_meet, cX12_meet, 3, (some .boolean), 12), (yX12_isFreeFor, cX12_isFreeFor, 4, (some .boolean), 12), (yX12_put, cX12_put, 4, (some .int), 12), (yX12_nights, cX12_nights, 2, (some .int), 12), (yX12_whoIn, cX12_whoIn, 5, (some .int), 12), (yX12_who, cX12_who, 3, (some .int), 12), (yX12_gapsOf, cX12_gapsOf, 4, (some .int), 12), (yX12_gaps, cX12_gaps, 4, (some .int), 12), (yX12_apartNow, cX12_apartNow, 4, (some .int), 12), (yX12_apart, cX12_apart, 1, (some .int), 12), (yX12_ones, cX12_ones, 3, (some .int), 12), (yX12_gapsNow, cX12_gapsNow, 5, (some .int), 12), (yX12_lays, cX12_lays, 6, (some .int), 12), (yX12_plan, cX12_plan, 11, (some .int), 12), (yX12_feed, cX12_feed, 4, (some .int), 12), (yX12_wipe, cX12_wipe, 2, (some .int), 12), (yX12_byteAt, cX12_byteAt, 2, (some .int), 12), (yX12_isLetter, cX12_isLetter, 1, (some .boolean), 12), (yX12_isDigit, cX12_isDigit, 1, (some .boolean), 12)]
def gH6 : List gHd := [(yX12_isName, cX12_isName, 1, (some .boolean), 12), (yX12_isMark, cX12_isMark, 1, (some .boolean), 12), (yX12_advance, cX12_advance, 2, none, 12), (yX12_emit, cX12_emit, 2, none, 12), (yX12_top, cX12_top, 1, (some .int), 12), (yX12_pend, cX12_pend, 2, none, 12), (yX12_ended, cX12_ended, 1, none, 12), (yX12_settle, cX12_settle, 2, none, 12), (yX12_binds, cX12_binds, 2, (some .int), 12), (yX12_begins, cX12_begins, 1, (some .boolean), 12), (yX12_goesOn, cX12_goesOn, 2, (some .boolean), 12), (yX12_reads, cX12_reads, 3, (some .int), 12), (yX12_law, cX12_law, 4, (some .int), 12), (yX12_repeal, cX12_repeal, 3, (some .int), 12), (yX12_others, cX12_others, 4, (some .int), 12), (yX12_named, cX12_named, 3, (some .int), 12), (yX12_joined, cX12_joined, 3, (some .int), 12), (yX12_worked, cX12_worked, 6, (some .int), 12), (yX12_priceBy, cX12_priceBy, 5, (some .int), 12), (yX12_held, cX12_held, 2, (some .int), 12), (yX12_saysOf, cX12_saysOf, 4, (some .int), 12), (yX12_says, cX12_says, 3, (some .int), 12), (yX12_pay, cX12_pay, 3, (some .int), 12), (yX12_cancel, cX12_cancel, 3, (some .int), 12), (yX12_review, cX12_review, 4, (some .int), 12), (yX12_stars, cX12_stars, 2, (some .int), 12), (yX12_use, cX12_use, 4, (some .int), 12), (yX12_isPost, cX12_isPost, 1, (some .boolean), 12), (yX12_limit, cX12_limit, 4, (some .int), 12), (yX12_isHere, cX12_isHere, 2, (some .boolean), 12), (yX12_postOf, cX12_postOf, 2, (some .int), 12), (yX12_loadOf, cX12_loadOf, 5, (some .int), 12)]
def gH7 : List gHd := [(yX12_load, cX12_load, 3, (some .int), 12), (yX12_trips, cX12_trips, 4, (some .int), 12), (yX12_may, cX12_may, 8, (some .int), 12), (yX12_isWet, cX12_isWet, 3, (some .boolean), 12), (yX12_wet, cX12_wet, 4, (some .int), 12), (yX12_isOpen, cX12_isOpen, 3, (some .boolean), 12), (yX12_rescue, cX12_rescue, 11, (some .int), 12), (yX12_wash, cX12_wash, 3, (some .int), 12), (yX12_block, cX12_block, 11, (some .int), 12), (yX12_dry, cX12_dry, 2, (some .int), 12), (yX12_join, cX12_join, 8, (some .int), 12), (yX12_hold, cX12_hold, 3, (some .int), 12), (yX12_as, cX12_as, 5, (some .int), 12), (yX12_isSheet, cX12_isSheet, 1, (some .boolean), 12), (yX12_sheet, cX12_sheet, 5, (some .int), 12), (yX12_write, cX12_write, 4, (some .int), 12), (yX12_copy, cX12_copy, 7, (some .int), 12), (yX12_move, cX12_move, 5, none, 12), (yX12_moveAll, cX12_moveAll, 2, none, 12), (yX12_image, cX12_image, 1, (some .int), 12), (yX12_undo, cX12_undo, 1, (some .int), 12), (yX12_tear, cX12_tear, 2, (some .int), 12), (yX12_count, cX12_count, 4, (some .int), 12), (yX12_status, cX12_status, 4, (some .int), 12), (yJ6_bitCount_0f7a4, cJ6_bitCount_0f7a4, 1, (some .int), 13), (yJ13_bitCount_95d88, cJ13_bitCount_95d88, 2, (some .int), 14), (yJ9_abs_0f7a4, cJ9_abs_0f7a4, 1, (some .int), 15), (yJ9_max_7cf53, cJ9_max_7cf53, 2, (some .int), 15), (yJ9_min_7cf53, cJ9_min_7cf53, 2, (some .int), 15)]
def gHs : List gHd := gH0 ++ (gH1 ++ (gH2 ++ (gH3 ++ (gH4 ++ (gH5 ++ (gH6 ++ (gH7)))))))
def gH (j : Nat) : gHd := (gHs[j]?).getD (yL_law, cL_law, 4, some .boolean, 17)
def gcw (h : gHd) : Cond := .code h.1 h.2.1 h.2.2.1 h.2.2.2.1
set_option maxRecDepth 100000 in
theorem gcw_0 : ∀ h ∈ gH0, gcw h ∈ lw_tbl := (List.forall_mem_cons.mpr ⟨gt2 _ (List.mem_of_getElem? (i := 32) rfl), (List.forall_mem_cons.mpr ⟨gt3 _ (List.mem_of_getElem? (i := 31) rfl), (List.forall_mem_cons.mpr ⟨gt3 _ (List.mem_of_getElem? (i := 38) rfl), (List.forall_mem_cons.mpr ⟨gt3 _ (List.mem_of_getElem? (i := 34) rfl), (List.forall_mem_cons.mpr ⟨gt3 _ (List.mem_of_getElem? (i := 112) rfl), (List.forall_mem_cons.mpr ⟨gt3 _ (List.mem_of_getElem? (i := 120) rfl), (List.forall_mem_cons.mpr ⟨gt3 _ (List.mem_of_getElem? (i := 116) rfl), (List.forall_mem_cons.mpr ⟨gt3 _ (List.mem_of_getElem? (i := 216) rfl), (List.forall_mem_cons.mpr ⟨gt3 _ (List.mem_of_getElem? (i := 149) rfl), (List.forall_mem_cons.mpr ⟨gt3 _ (List.mem_of_getElem? (i := 75) rfl), (List.forall_mem_cons.mpr ⟨gt3 _ (List.mem_of_getElem? (i := 61) rfl), (List.forall_mem_cons.mpr ⟨gt3 _ (List.mem_of_getElem? (i := 64) rfl), (List.forall_mem_cons.mpr ⟨gt3 _ (List.mem_of_getElem? (i := 80) rfl), (List.forall_mem_cons.mpr ⟨gt4 _ (List.mem_of_getElem? (i := 96) rfl), (List.forall_mem_cons.mpr ⟨gt1 _ (List.mem_of_getElem? (i := 198) rfl), (List.forall_mem_cons.mpr ⟨gt4 _ (List.mem_of_getElem? (i := 77) rfl), (List.forall_mem_cons.mpr ⟨gt5 _ (List.mem_of_getElem? (i := 75) rfl), (List.forall_mem_cons.mpr ⟨gt4 _ (List.mem_of_getElem? (i := 108) rfl), (List.forall_mem_cons.mpr ⟨gt4 _ (List.mem_of_getElem? (i := 111) rfl), (List.forall_mem_cons.mpr ⟨gt4 _ (List.mem_of_getElem? (i := 114) rfl), (List.forall_mem_cons.mpr ⟨gt1 _ (List.mem_of_getElem? (i := 122) rfl), (List.forall_mem_cons.mpr ⟨gt3 _ (List.mem_of_getElem? (i := 28) rfl), (List.forall_mem_cons.mpr ⟨gt5 _ (List.mem_of_getElem? (i := 70) rfl), (List.forall_mem_cons.mpr ⟨gt3 _ (List.mem_of_getElem? (i := 54) rfl), (List.forall_mem_cons.mpr ⟨gt3 _ (List.mem_of_getElem? (i := 141) rfl), (List.forall_mem_cons.mpr ⟨gt3 _ (List.mem_of_getElem? (i := 137) rfl), (List.forall_mem_cons.mpr ⟨gt3 _ (List.mem_of_getElem? (i := 68) rfl), (List.forall_mem_cons.mpr ⟨gt1 _ (List.mem_of_getElem? (i := 74) rfl), (List.forall_mem_cons.mpr ⟨gt2 _ (List.mem_of_getElem? (i := 230) rfl), (List.forall_mem_cons.mpr ⟨gt5 _ (List.mem_of_getElem? (i := 66) rfl), (List.forall_mem_cons.mpr ⟨gt3 _ (List.mem_of_getElem? (i := 2) rfl), (List.forall_mem_cons.mpr ⟨gt3 _ (List.mem_of_getElem? (i := 72) rfl), (fun _ h => absurd h List.not_mem_nil)⟩)⟩)⟩)⟩)⟩)⟩)⟩)⟩)⟩)⟩)⟩)⟩)⟩)⟩)⟩)⟩)⟩)⟩)⟩)⟩)⟩)⟩)⟩)⟩)⟩)⟩)⟩)⟩)⟩)⟩)⟩)⟩)
set_option maxRecDepth 100000 in
theorem gcw_1 : ∀ h ∈ gH1, gcw h ∈ lw_tbl := (List.forall_mem_cons.mpr ⟨gt2 _ (List.mem_of_getElem? (i := 46) rfl), (List.forall_mem_cons.mpr ⟨gt3 _ (List.mem_of_getElem? (i := 169) rfl), (List.forall_mem_cons.mpr ⟨gt3 _ (List.mem_of_getElem? (i := 173) rfl), (List.forall_mem_cons.mpr ⟨gt3 _ (List.mem_of_getElem? (i := 178) rfl), (List.forall_mem_cons.mpr ⟨gt3 _ (List.mem_of_getElem? (i := 185) rfl), (List.forall_mem_cons.mpr ⟨gt3 _ (List.mem_of_getElem? (i := 189) rfl), (List.forall_mem_cons.mpr ⟨gt3 _ (List.mem_of_getElem? (i := 194) rfl), (List.forall_mem_cons.mpr ⟨gt3 _ (List.mem_of_getElem? (i := 202) rfl), (List.forall_mem_cons.mpr ⟨gt3 _ (List.mem_of_getElem? (i := 198) rfl), (List.forall_mem_cons.mpr ⟨gt3 _ (List.mem_of_getElem? (i := 212) rfl), (List.forall_mem_cons.mpr ⟨gt3 _ (List.mem_of_getElem? (i := 206) rfl), (List.forall_mem_cons.mpr ⟨gt2 _ (List.mem_of_getElem? (i := 97) rfl), (List.forall_mem_cons.mpr ⟨gt4 _ (List.mem_of_getElem? (i := 183) rfl), (List.forall_mem_cons.mpr ⟨gt4 _ (List.mem_of_getElem? (i := 214) rfl), (List.forall_mem_cons.mpr ⟨gt4 _ (List.mem_of_getElem? (i := 187) rfl), (List.forall_mem_cons.mpr ⟨gt4 _ (List.mem_of_getElem? (i := 191) rfl), (List.forall_mem_cons.mpr ⟨gt4 _ (List.mem_of_getElem? (i := 197) rfl), (List.forall_mem_cons.mpr ⟨gt4 _ (List.mem_of_getElem? (i := 210) rfl), (List.forall_mem_cons.mpr ⟨gt4 _ (List.mem_of_getElem? (i := 202) rfl), (List.forall_mem_cons.mpr ⟨gt4 _ (List.mem_of_getElem? (i := 206) rfl), (List.forall_mem_cons.mpr ⟨gt2 _ (List.mem_of_getElem? (i := 171) rfl), (List.forall_mem_cons.mpr ⟨gt5 _ (List.mem_of_getElem? (i := 37) rfl), (List.forall_mem_cons.mpr ⟨gt5 _ (List.mem_of_getElem? (i := 7) rfl), (List.forall_mem_cons.mpr ⟨gt5 _ (List.mem_of_getElem? (i := 53) rfl), (List.forall_mem_cons.mpr ⟨gt5 _ (List.mem_of_getElem? (i := 45) rfl), (List.forall_mem_cons.mpr ⟨gt1 _ (List.mem_of_getElem? (i := 30) rfl), (List.forall_mem_cons.mpr ⟨gt5 _ (List.mem_of_getElem? (i := 62) rfl), (List.forall_mem_cons.mpr ⟨gt2 _ (List.mem_of_getElem? (i := 238) rfl), (List.forall_mem_cons.mpr ⟨gt3 _ (List.mem_of_getElem? (i := 46) rfl), (List.forall_mem_cons.mpr ⟨gt3 _ (List.mem_of_getElem? (i := 88) rfl), (List.forall_mem_cons.mpr ⟨gt3 _ (List.mem_of_getElem? (i := 101) rfl), (List.forall_mem_cons.mpr ⟨gt3 _ (List.mem_of_getElem? (i := 50) rfl), (fun _ h => absurd h List.not_mem_nil)⟩)⟩)⟩)⟩)⟩)⟩)⟩)⟩)⟩)⟩)⟩)⟩)⟩)⟩)⟩)⟩)⟩)⟩)⟩)⟩)⟩)⟩)⟩)⟩)⟩)⟩)⟩)⟩)⟩)⟩)⟩)⟩)
set_option maxRecDepth 100000 in
theorem gcw_2 : ∀ h ∈ gH2, gcw h ∈ lw_tbl := (List.forall_mem_cons.mpr ⟨gt3 _ (List.mem_of_getElem? (i := 97) rfl), (List.forall_mem_cons.mpr ⟨gt4 _ (List.mem_of_getElem? (i := 158) rfl), (List.forall_mem_cons.mpr ⟨gt4 _ (List.mem_of_getElem? (i := 175) rfl), (List.forall_mem_cons.mpr ⟨gt5 _ (List.mem_of_getElem? (i := 96) rfl), (List.forall_mem_cons.mpr ⟨gt5 _ (List.mem_of_getElem? (i := 100) rfl), (List.forall_mem_cons.mpr ⟨gt3 _ (List.mem_of_getElem? (i := 14) rfl), (List.forall_mem_cons.mpr ⟨gt3 _ (List.mem_of_getElem? (i := 133) rfl), (List.forall_mem_cons.mpr ⟨gt3 _ (List.mem_of_getElem? (i := 108) rfl), (List.forall_mem_cons.mpr ⟨gt4 _ (List.mem_of_getElem? (i := 154) rfl), (List.forall_mem_cons.mpr ⟨gt4 _ (List.mem_of_getElem? (i := 93) rfl), (List.forall_mem_cons.mpr ⟨gt4 _ (List.mem_of_getElem? (i := 120) rfl), (List.forall_mem_cons.mpr ⟨gt4 _ (List.mem_of_getElem? (i := 100) rfl), (List.forall_mem_cons.mpr ⟨gt4 _ (List.mem_of_getElem? (i := 104) rfl), (List.forall_mem_cons.mpr ⟨gt2 _ (List.mem_of_getElem? (i := 125) rfl), (List.forall_mem_cons.mpr ⟨gt3 _ (List.mem_of_getElem? (i := 229) rfl), (List.forall_mem_cons.mpr ⟨gt4 _ (List.mem_of_getElem? (i := 1) rfl), (List.forall_mem_cons.mpr ⟨gt4 _ (List.mem_of_getElem? (i := 5) rfl), (List.forall_mem_cons.mpr ⟨gt4 _ (List.mem_of_getElem? (i := 19) rfl), (List.forall_mem_cons.mpr ⟨gt4 _ (List.mem_of_getElem? (i := 12) rfl), (List.forall_mem_cons.mpr ⟨gt4 _ (List.mem_of_getElem? (i := 26) rfl), (List.forall_mem_cons.mpr ⟨gt4 _ (List.mem_of_getElem? (i := 29) rfl), (List.forall_mem_cons.mpr ⟨gt4 _ (List.mem_of_getElem? (i := 8) rfl), (List.forall_mem_cons.mpr ⟨gt4 _ (List.mem_of_getElem? (i := 22) rfl), (List.forall_mem_cons.mpr ⟨gt4 _ (List.mem_of_getElem? (i := 34) rfl), (List.forall_mem_cons.mpr ⟨gt4 _ (List.mem_of_getElem? (i := 57) rfl), (List.forall_mem_cons.mpr ⟨gt4 _ (List.mem_of_getElem? (i := 61) rfl), (List.forall_mem_cons.mpr ⟨gt4 _ (List.mem_of_getElem? (i := 69) rfl), (List.forall_mem_cons.mpr ⟨gt4 _ (List.mem_of_getElem? (i := 65) rfl), (List.forall_mem_cons.mpr ⟨gt4 _ (List.mem_of_getElem? (i := 41) rfl), (List.forall_mem_cons.mpr ⟨gt4 _ (List.mem_of_getElem? (i := 45) rfl), (List.forall_mem_cons.mpr ⟨gt4 _ (List.mem_of_getElem? (i := 49) rfl), (List.forall_mem_cons.mpr ⟨gt4 _ (List.mem_of_getElem? (i := 53) rfl), (fun _ h => absurd h List.not_mem_nil)⟩)⟩)⟩)⟩)⟩)⟩)⟩)⟩)⟩)⟩)⟩)⟩)⟩)⟩)⟩)⟩)⟩)⟩)⟩)⟩)⟩)⟩)⟩)⟩)⟩)⟩)⟩)⟩)⟩)⟩)⟩)⟩)
set_option maxRecDepth 100000 in
theorem gcw_3 : ∀ h ∈ gH3, gcw h ∈ lw_tbl := (List.forall_mem_cons.mpr ⟨gt4 _ (List.mem_of_getElem? (i := 73) rfl), (List.forall_mem_cons.mpr ⟨gt1 _ (List.mem_of_getElem? (i := 42) rfl), (List.forall_mem_cons.mpr ⟨gt4 _ (List.mem_of_getElem? (i := 222) rfl), (List.forall_mem_cons.mpr ⟨gt5 _ (List.mem_of_getElem? (i := 79) rfl), (List.forall_mem_cons.mpr ⟨gt4 _ (List.mem_of_getElem? (i := 230) rfl), (List.forall_mem_cons.mpr ⟨gt4 _ (List.mem_of_getElem? (i := 234) rfl), (List.forall_mem_cons.mpr ⟨gt1 _ (List.mem_of_getElem? (i := 22) rfl), (List.forall_mem_cons.mpr ⟨gt2 _ (List.mem_of_getElem? (i := 217) rfl), (List.forall_mem_cons.mpr ⟨gt2 _ (List.mem_of_getElem? (i := 234) rfl), (List.forall_mem_cons.mpr ⟨gt3 _ (List.mem_of_getElem? (i := 6) rfl), (List.forall_mem_cons.mpr ⟨gt3 _ (List.mem_of_getElem? (i := 10) rfl), (List.forall_mem_cons.mpr ⟨gt3 _ (List.mem_of_getElem? (i := 21) rfl), (List.forall_mem_cons.mpr ⟨gt3 _ (List.mem_of_getElem? (i := 42) rfl), (List.forall_mem_cons.mpr ⟨gt3 _ (List.mem_of_getElem? (i := 58) rfl), (List.forall_mem_cons.mpr ⟨gt3 _ (List.mem_of_getElem? (i := 84) rfl), (List.forall_mem_cons.mpr ⟨gt3 _ (List.mem_of_getElem? (i := 93) rfl), (List.forall_mem_cons.mpr ⟨gt3 _ (List.mem_of_getElem? (i := 125) rfl), (List.forall_mem_cons.mpr ⟨gt3 _ (List.mem_of_getElem? (i := 129) rfl), (List.forall_mem_cons.mpr ⟨gt3 _ (List.mem_of_getElem? (i := 145) rfl), (List.forall_mem_cons.mpr ⟨gt3 _ (List.mem_of_getElem? (i := 159) rfl), (List.forall_mem_cons.mpr ⟨gt3 _ (List.mem_of_getElem? (i := 220) rfl), (List.forall_mem_cons.mpr ⟨gt3 _ (List.mem_of_getElem? (i := 225) rfl), (List.forall_mem_cons.mpr ⟨gt3 _ (List.mem_of_getElem? (i := 233) rfl), (List.forall_mem_cons.mpr ⟨gt3 _ (List.mem_of_getElem? (i := 237) rfl), (List.forall_mem_cons.mpr ⟨gt4 _ (List.mem_of_getElem? (i := 85) rfl), (List.forall_mem_cons.mpr ⟨gt4 _ (List.mem_of_getElem? (i := 89) rfl), (List.forall_mem_cons.mpr ⟨gt4 _ (List.mem_of_getElem? (i := 124) rfl), (List.forall_mem_cons.mpr ⟨gt4 _ (List.mem_of_getElem? (i := 128) rfl), (List.forall_mem_cons.mpr ⟨gt4 _ (List.mem_of_getElem? (i := 132) rfl), (List.forall_mem_cons.mpr ⟨gt4 _ (List.mem_of_getElem? (i := 137) rfl), (List.forall_mem_cons.mpr ⟨gt4 _ (List.mem_of_getElem? (i := 141) rfl), (List.forall_mem_cons.mpr ⟨gt4 _ (List.mem_of_getElem? (i := 146) rfl), (fun _ h => absurd h List.not_mem_nil)⟩)⟩)⟩)⟩)⟩)⟩)⟩)⟩)⟩)⟩)⟩)⟩)⟩)⟩)⟩)⟩)⟩)⟩)⟩)⟩)⟩)⟩)⟩)⟩)⟩)⟩)⟩)⟩)⟩)⟩)⟩)⟩)
set_option maxRecDepth 100000 in
theorem gcw_4 : ∀ h ∈ gH4, gcw h ∈ lw_tbl := (List.forall_mem_cons.mpr ⟨gt4 _ (List.mem_of_getElem? (i := 150) rfl), (List.forall_mem_cons.mpr ⟨gt4 _ (List.mem_of_getElem? (i := 162) rfl), (List.forall_mem_cons.mpr ⟨gt4 _ (List.mem_of_getElem? (i := 166) rfl), (List.forall_mem_cons.mpr ⟨gt4 _ (List.mem_of_getElem? (i := 171) rfl), (List.forall_mem_cons.mpr ⟨gt4 _ (List.mem_of_getElem? (i := 179) rfl), (List.forall_mem_cons.mpr ⟨gt4 _ (List.mem_of_getElem? (i := 218) rfl), (List.forall_mem_cons.mpr ⟨gt4 _ (List.mem_of_getElem? (i := 226) rfl), (List.forall_mem_cons.mpr ⟨gt4 _ (List.mem_of_getElem? (i := 239) rfl), (List.forall_mem_cons.mpr ⟨gt5 _ (List.mem_of_getElem? (i := 3) rfl), (List.forall_mem_cons.mpr ⟨gt5 _ (List.mem_of_getElem? (i := 24) rfl), (List.forall_mem_cons.mpr ⟨gt5 _ (List.mem_of_getElem? (i := 28) rfl), (List.forall_mem_cons.mpr ⟨gt5 _ (List.mem_of_getElem? (i := 33) rfl), (List.forall_mem_cons.mpr ⟨gt5 _ (List.mem_of_getElem? (i := 41) rfl), (List.forall_mem_cons.mpr ⟨gt5 _ (List.mem_of_getElem? (i := 49) rfl), (List.forall_mem_cons.mpr ⟨gt5 _ (List.mem_of_getElem? (i := 58) rfl), (List.forall_mem_cons.mpr ⟨gt5 _ (List.mem_of_getElem? (i := 84) rfl), (List.forall_mem_cons.mpr ⟨gt5 _ (List.mem_of_getElem? (i := 88) rfl), (List.forall_mem_cons.mpr ⟨gt5 _ (List.mem_of_getElem? (i := 92) rfl), (List.forall_mem_cons.mpr ⟨gt5 _ (List.mem_of_getElem? (i := 104) rfl), (List.forall_mem_cons.mpr ⟨gt2 _ (List.mem_of_getElem? (i := 225) rfl), (List.forall_mem_cons.mpr ⟨gt5 _ (List.mem_of_getElem? (i := 13) rfl), (List.forall_mem_cons.mpr ⟨gt5 _ (List.mem_of_getElem? (i := 17) rfl), (List.forall_mem_cons.mpr ⟨gt2 _ (List.mem_of_getElem? (i := 220) rfl), (List.forall_mem_cons.mpr ⟨gt3 _ (List.mem_of_getElem? (i := 24) rfl), (List.forall_mem_cons.mpr ⟨gt5 _ (List.mem_of_getElem? (i := 109) rfl), (List.forall_mem_cons.mpr ⟨gt6 _ (List.mem_of_getElem? (i := 18) rfl), (List.forall_mem_cons.mpr ⟨gt6 _ (List.mem_of_getElem? (i := 22) rfl), (List.forall_mem_cons.mpr ⟨gt6 _ (List.mem_of_getElem? (i := 31) rfl), (List.forall_mem_cons.mpr ⟨gt6 _ (List.mem_of_getElem? (i := 58) rfl), (List.forall_mem_cons.mpr ⟨gt6 _ (List.mem_of_getElem? (i := 105) rfl), (List.forall_mem_cons.mpr ⟨gt6 _ (List.mem_of_getElem? (i := 15) rfl), (List.forall_mem_cons.mpr ⟨gt6 _ (List.mem_of_getElem? (i := 27) rfl), (fun _ h => absurd h List.not_mem_nil)⟩)⟩)⟩)⟩)⟩)⟩)⟩)⟩)⟩)⟩)⟩)⟩)⟩)⟩)⟩)⟩)⟩)⟩)⟩)⟩)⟩)⟩)⟩)⟩)⟩)⟩)⟩)⟩)⟩)⟩)⟩)⟩)
set_option maxRecDepth 100000 in
theorem gcw_5 : ∀ h ∈ gH5, gcw h ∈ lw_tbl := (List.forall_mem_cons.mpr ⟨gt6 _ (List.mem_of_getElem? (i := 35) rfl), (List.forall_mem_cons.mpr ⟨gt6 _ (List.mem_of_getElem? (i := 46) rfl), (List.forall_mem_cons.mpr ⟨gt6 _ (List.mem_of_getElem? (i := 43) rfl), (List.forall_mem_cons.mpr ⟨gt6 _ (List.mem_of_getElem? (i := 39) rfl), (List.forall_mem_cons.mpr ⟨gt6 _ (List.mem_of_getElem? (i := 50) rfl), (List.forall_mem_cons.mpr ⟨gt6 _ (List.mem_of_getElem? (i := 66) rfl), (List.forall_mem_cons.mpr ⟨gt6 _ (List.mem_of_getElem? (i := 62) rfl), (List.forall_mem_cons.mpr ⟨gt6 _ (List.mem_of_getElem? (i := 54) rfl), (List.forall_mem_cons.mpr ⟨gt6 _ (List.mem_of_getElem? (i := 78) rfl), (List.forall_mem_cons.mpr ⟨gt6 _ (List.mem_of_getElem? (i := 74) rfl), (List.forall_mem_cons.mpr ⟨gt6 _ (List.mem_of_getElem? (i := 70) rfl), (List.forall_mem_cons.mpr ⟨gt6 _ (List.mem_of_getElem? (i := 82) rfl), (List.forall_mem_cons.mpr ⟨gt6 _ (List.mem_of_getElem? (i := 113) rfl), (List.forall_mem_cons.mpr ⟨gt6 _ (List.mem_of_getElem? (i := 94) rfl), (List.forall_mem_cons.mpr ⟨gt6 _ (List.mem_of_getElem? (i := 90) rfl), (List.forall_mem_cons.mpr ⟨gt6 _ (List.mem_of_getElem? (i := 86) rfl), (List.forall_mem_cons.mpr ⟨gt6 _ (List.mem_of_getElem? (i := 98) rfl), (List.forall_mem_cons.mpr ⟨gt6 _ (List.mem_of_getElem? (i := 109) rfl), (List.forall_mem_cons.mpr ⟨gt6 _ (List.mem_of_getElem? (i := 102) rfl), (List.forall_mem_cons.mpr ⟨gt6 _ (List.mem_of_getElem? (i := 121) rfl), (List.forall_mem_cons.mpr ⟨gt6 _ (List.mem_of_getElem? (i := 117) rfl), (List.forall_mem_cons.mpr ⟨gt6 _ (List.mem_of_getElem? (i := 129) rfl), (List.forall_mem_cons.mpr ⟨gt6 _ (List.mem_of_getElem? (i := 125) rfl), (List.forall_mem_cons.mpr ⟨gt6 _ (List.mem_of_getElem? (i := 136) rfl), (List.forall_mem_cons.mpr ⟨gt6 _ (List.mem_of_getElem? (i := 144) rfl), (List.forall_mem_cons.mpr ⟨gt6 _ (List.mem_of_getElem? (i := 140) rfl), (List.forall_mem_cons.mpr ⟨gt6 _ (List.mem_of_getElem? (i := 133) rfl), (List.forall_mem_cons.mpr ⟨gt6 _ (List.mem_of_getElem? (i := 148) rfl), (List.forall_mem_cons.mpr ⟨gt6 _ (List.mem_of_getElem? (i := 152) rfl), (List.forall_mem_cons.mpr ⟨gt6 _ (List.mem_of_getElem? (i := 168) rfl), (List.forall_mem_cons.mpr ⟨gt6 _ (List.mem_of_getElem? (i := 171) rfl), (List.forall_mem_cons.mpr ⟨gt6 _ (List.mem_of_getElem? (i := 177) rfl), (fun _ h => absurd h List.not_mem_nil)⟩)⟩)⟩)⟩)⟩)⟩)⟩)⟩)⟩)⟩)⟩)⟩)⟩)⟩)⟩)⟩)⟩)⟩)⟩)⟩)⟩)⟩)⟩)⟩)⟩)⟩)⟩)⟩)⟩)⟩)⟩)⟩)
set_option maxRecDepth 100000 in
theorem gcw_6 : ∀ h ∈ gH6, gcw h ∈ lw_tbl := (List.forall_mem_cons.mpr ⟨gt6 _ (List.mem_of_getElem? (i := 174) rfl), (List.forall_mem_cons.mpr ⟨gt6 _ (List.mem_of_getElem? (i := 180) rfl), (List.forall_mem_cons.mpr ⟨gt6 _ (List.mem_of_getElem? (i := 164) rfl), (List.forall_mem_cons.mpr ⟨gt6 _ (List.mem_of_getElem? (i := 188) rfl), (List.forall_mem_cons.mpr ⟨gt6 _ (List.mem_of_getElem? (i := 196) rfl), (List.forall_mem_cons.mpr ⟨gt6 _ (List.mem_of_getElem? (i := 200) rfl), (List.forall_mem_cons.mpr ⟨gt6 _ (List.mem_of_getElem? (i := 192) rfl), (List.forall_mem_cons.mpr ⟨gt6 _ (List.mem_of_getElem? (i := 208) rfl), (List.forall_mem_cons.mpr ⟨gt6 _ (List.mem_of_getElem? (i := 211) rfl), (List.forall_mem_cons.mpr ⟨gt6 _ (List.mem_of_getElem? (i := 184) rfl), (List.forall_mem_cons.mpr ⟨gt6 _ (List.mem_of_getElem? (i := 204) rfl), (List.forall_mem_cons.mpr ⟨gt6 _ (List.mem_of_getElem? (i := 160) rfl), (List.forall_mem_cons.mpr ⟨gt6 _ (List.mem_of_getElem? (i := 156) rfl), (List.forall_mem_cons.mpr ⟨gt6 _ (List.mem_of_getElem? (i := 215) rfl), (List.forall_mem_cons.mpr ⟨gt6 _ (List.mem_of_getElem? (i := 238) rfl), (List.forall_mem_cons.mpr ⟨gt6 _ (List.mem_of_getElem? (i := 234) rfl), (List.forall_mem_cons.mpr ⟨gt6 _ (List.mem_of_getElem? (i := 230) rfl), (List.forall_mem_cons.mpr ⟨gt6 _ (List.mem_of_getElem? (i := 227) rfl), (List.forall_mem_cons.mpr ⟨gt7 _ (List.mem_of_getElem? (i := 5) rfl), (List.forall_mem_cons.mpr ⟨gt7 _ (List.mem_of_getElem? (i := 1) rfl), (List.forall_mem_cons.mpr ⟨gt6 _ (List.mem_of_getElem? (i := 223) rfl), (List.forall_mem_cons.mpr ⟨gt6 _ (List.mem_of_getElem? (i := 219) rfl), (List.forall_mem_cons.mpr ⟨gt7 _ (List.mem_of_getElem? (i := 9) rfl), (List.forall_mem_cons.mpr ⟨gt7 _ (List.mem_of_getElem? (i := 13) rfl), (List.forall_mem_cons.mpr ⟨gt7 _ (List.mem_of_getElem? (i := 17) rfl), (List.forall_mem_cons.mpr ⟨gt7 _ (List.mem_of_getElem? (i := 21) rfl), (List.forall_mem_cons.mpr ⟨gt7 _ (List.mem_of_getElem? (i := 25) rfl), (List.forall_mem_cons.mpr ⟨gt7 _ (List.mem_of_getElem? (i := 33) rfl), (List.forall_mem_cons.mpr ⟨gt7 _ (List.mem_of_getElem? (i := 30) rfl), (List.forall_mem_cons.mpr ⟨gt7 _ (List.mem_of_getElem? (i := 45) rfl), (List.forall_mem_cons.mpr ⟨gt7 _ (List.mem_of_getElem? (i := 49) rfl), (List.forall_mem_cons.mpr ⟨gt7 _ (List.mem_of_getElem? (i := 41) rfl), (fun _ h => absurd h List.not_mem_nil)⟩)⟩)⟩)⟩)⟩)⟩)⟩)⟩)⟩)⟩)⟩)⟩)⟩)⟩)⟩)⟩)⟩)⟩)⟩)⟩)⟩)⟩)⟩)⟩)⟩)⟩)⟩)⟩)⟩)⟩)⟩)⟩)
set_option maxRecDepth 100000 in
theorem gcw_7 : ∀ h ∈ gH7, gcw h ∈ lw_tbl := (List.forall_mem_cons.mpr ⟨gt7 _ (List.mem_of_getElem? (i := 37) rfl), (List.forall_mem_cons.mpr ⟨gt7 _ (List.mem_of_getElem? (i := 53) rfl), (List.forall_mem_cons.mpr ⟨gt7 _ (List.mem_of_getElem? (i := 57) rfl), (List.forall_mem_cons.mpr ⟨gt7 _ (List.mem_of_getElem? (i := 65) rfl), (List.forall_mem_cons.mpr ⟨gt7 _ (List.mem_of_getElem? (i := 61) rfl), (List.forall_mem_cons.mpr ⟨gt7 _ (List.mem_of_getElem? (i := 73) rfl), (List.forall_mem_cons.mpr ⟨gt7 _ (List.mem_of_getElem? (i := 69) rfl), (List.forall_mem_cons.mpr ⟨gt7 _ (List.mem_of_getElem? (i := 77) rfl), (List.forall_mem_cons.mpr ⟨gt7 _ (List.mem_of_getElem? (i := 81) rfl), (List.forall_mem_cons.mpr ⟨gt7 _ (List.mem_of_getElem? (i := 85) rfl), (List.forall_mem_cons.mpr ⟨gt7 _ (List.mem_of_getElem? (i := 89) rfl), (List.forall_mem_cons.mpr ⟨gt7 _ (List.mem_of_getElem? (i := 96) rfl), (List.forall_mem_cons.mpr ⟨gt7 _ (List.mem_of_getElem? (i := 100) rfl), (List.forall_mem_cons.mpr ⟨gt7 _ (List.mem_of_getElem? (i := 92) rfl), (List.forall_mem_cons.mpr ⟨gt7 _ (List.mem_of_getElem? (i := 104) rfl), (List.forall_mem_cons.mpr ⟨gt7 _ (List.mem_of_getElem? (i := 108) rfl), (List.forall_mem_cons.mpr ⟨gt7 _ (List.mem_of_getElem? (i := 112) rfl), (List.forall_mem_cons.mpr ⟨gt7 _ (List.mem_of_getElem? (i := 124) rfl), (List.forall_mem_cons.mpr ⟨gt7 _ (List.mem_of_getElem? (i := 120) rfl), (List.forall_mem_cons.mpr ⟨gt7 _ (List.mem_of_getElem? (i := 116) rfl), (List.forall_mem_cons.mpr ⟨gt7 _ (List.mem_of_getElem? (i := 128) rfl), (List.forall_mem_cons.mpr ⟨gt7 _ (List.mem_of_getElem? (i := 132) rfl), (List.forall_mem_cons.mpr ⟨gt7 _ (List.mem_of_getElem? (i := 136) rfl), (List.forall_mem_cons.mpr ⟨gt7 _ (List.mem_of_getElem? (i := 140) rfl), (List.forall_mem_cons.mpr ⟨gt3 _ (List.mem_of_getElem? (i := 162) rfl), (List.forall_mem_cons.mpr ⟨gt3 _ (List.mem_of_getElem? (i := 152) rfl), (List.forall_mem_cons.mpr ⟨gt3 _ (List.mem_of_getElem? (i := 17) rfl), (List.forall_mem_cons.mpr ⟨gt4 _ (List.mem_of_getElem? (i := 37) rfl), (List.forall_mem_cons.mpr ⟨gt4 _ (List.mem_of_getElem? (i := 15) rfl), (fun _ h => absurd h List.not_mem_nil)⟩)⟩)⟩)⟩)⟩)⟩)⟩)⟩)⟩)⟩)⟩)⟩)⟩)⟩)⟩)⟩)⟩)⟩)⟩)⟩)⟩)⟩)⟩)⟩)⟩)⟩)⟩)⟩)⟩)
theorem gcw_in : ∀ h ∈ gHs, gcw h ∈ lw_tbl := by
  intro h hh
  simp only [gHs, List.mem_append] at hh
  rcases hh with hh | hh | hh | hh | hh | hh | hh | hh
  · exact gcw_0 h hh
  · exact gcw_1 h hh
  · exact gcw_2 h hh
  · exact gcw_3 h hh
  · exact gcw_4 h hh
  · exact gcw_5 h hh
  · exact gcw_6 h hh
  · exact gcw_7 h hh
def gFL_0 : List (Nat × Nat × Nat × Nat) := [(10, 21, 9, 0), (11, 276, 9, 0), (10, 31, 9, 1), (11, 286, 9, 1), (10, 34, 9, 2), (11, 289, 9, 2), (10, 37, 9, 3), (11, 292, 9, 3), (10, 9, 9, 4), (10, 15, 9, 5), (10, 18, 9, 6), (4, 7, 3, 0), (8, 106, 3, 0), (4, 13, 3, 1), (8, 115, 3, 1), (4, 16, 3, 2), (1, 40, 3, 2), (4, 19, 3, 3), (6, 67, 3, 3), (8, 103, 3, 3), (4, 22, 3, 4), (1, 32, 3, 4), (11, 97, 3, 4), (4, 25, 3, 5)]
set_option maxRecDepth 100000 in
theorem gFL_0_ok : ∀ q ∈ gFL_0, Cond.fieldLink (gown q.1) q.2.1 (gT q.2.2.1 q.2.2.2).1 (gT q.2.2.1 q.2.2.2).2.1 (gT q.2.2.1 q.2.2.2).2.2.1 ∈ lw_tbl := (List.forall_mem_cons.mpr ⟨gt1 _ (List.mem_of_getElem? (i := 44) rfl), (List.forall_mem_cons.mpr ⟨gt1 _ (List.mem_of_getElem? (i := 45) rfl), (List.forall_mem_cons.mpr ⟨gt1 _ (List.mem_of_getElem? (i := 46) rfl), (List.forall_mem_cons.mpr ⟨gt1 _ (List.mem_of_getElem? (i := 47) rfl), (List.forall_mem_cons.mpr ⟨gt1 _ (List.mem_of_getElem? (i := 48) rfl), (List.forall_mem_cons.mpr ⟨gt1 _ (List.mem_of_getElem? (i := 49) rfl), (List.forall_mem_cons.mpr ⟨gt1 _ (List.mem_of_getElem? (i := 50) rfl), (List.forall_mem_cons.mpr ⟨gt1 _ (List.mem_of_getElem? (i := 51) rfl), (List.forall_mem_cons.mpr ⟨gt1 _ (List.mem_of_getElem? (i := 52) rfl), (List.forall_mem_cons.mpr ⟨gt1 _ (List.mem_of_getElem? (i := 53) rfl), (List.forall_mem_cons.mpr ⟨gt1 _ (List.mem_of_getElem? (i := 54) rfl), (List.forall_mem_cons.mpr ⟨gt1 _ (List.mem_of_getElem? (i := 76) rfl), (List.forall_mem_cons.mpr ⟨gt1 _ (List.mem_of_getElem? (i := 77) rfl), (List.forall_mem_cons.mpr ⟨gt1 _ (List.mem_of_getElem? (i := 78) rfl), (List.forall_mem_cons.mpr ⟨gt1 _ (List.mem_of_getElem? (i := 79) rfl), (List.forall_mem_cons.mpr ⟨gt1 _ (List.mem_of_getElem? (i := 80) rfl), (List.forall_mem_cons.mpr ⟨gt1 _ (List.mem_of_getElem? (i := 81) rfl), (List.forall_mem_cons.mpr ⟨gt1 _ (List.mem_of_getElem? (i := 82) rfl), (List.forall_mem_cons.mpr ⟨gt1 _ (List.mem_of_getElem? (i := 83) rfl), (List.forall_mem_cons.mpr ⟨gt1 _ (List.mem_of_getElem? (i := 84) rfl), (List.forall_mem_cons.mpr ⟨gt1 _ (List.mem_of_getElem? (i := 85) rfl), (List.forall_mem_cons.mpr ⟨gt1 _ (List.mem_of_getElem? (i := 86) rfl), (List.forall_mem_cons.mpr ⟨gt1 _ (List.mem_of_getElem? (i := 87) rfl), (List.forall_mem_cons.mpr ⟨gt1 _ (List.mem_of_getElem? (i := 88) rfl), (fun _ h => absurd h List.not_mem_nil)⟩)⟩)⟩)⟩)⟩)⟩)⟩)⟩)⟩)⟩)⟩)⟩)⟩)⟩)⟩)⟩)⟩)⟩)⟩)⟩)⟩)⟩)⟩)⟩)
def gFL_1 : List (Nat × Nat × Nat × Nat) := [(1, 51, 3, 5), (4, 28, 3, 6), (4, 31, 3, 7), (8, 137, 3, 7), (11, 260, 3, 7), (4, 34, 3, 8), (11, 238, 3, 8), (4, 37, 3, 9), (11, 241, 3, 9), (3, 9, 2, 0), (1, 19, 2, 0), (8, 173, 2, 0), (11, 312, 2, 0), (3, 15, 2, 1), (1, 37, 2, 1), (8, 164, 2, 1), (3, 18, 2, 2), (1, 48, 2, 2), (8, 167, 2, 2), (3, 21, 2, 3), (3, 24, 2, 4), (8, 88, 2, 4), (3, 27, 2, 5), (5, 129, 2, 5)]
set_option maxRecDepth 100000 in
theorem gFL_1_ok : ∀ q ∈ gFL_1, Cond.fieldLink (gown q.1) q.2.1 (gT q.2.2.1 q.2.2.2).1 (gT q.2.2.1 q.2.2.2).2.1 (gT q.2.2.1 q.2.2.2).2.2.1 ∈ lw_tbl := (List.forall_mem_cons.mpr ⟨gt1 _ (List.mem_of_getElem? (i := 89) rfl), (List.forall_mem_cons.mpr ⟨gt1 _ (List.mem_of_getElem? (i := 90) rfl), (List.forall_mem_cons.mpr ⟨gt1 _ (List.mem_of_getElem? (i := 91) rfl), (List.forall_mem_cons.mpr ⟨gt1 _ (List.mem_of_getElem? (i := 92) rfl), (List.forall_mem_cons.mpr ⟨gt1 _ (List.mem_of_getElem? (i := 93) rfl), (List.forall_mem_cons.mpr ⟨gt1 _ (List.mem_of_getElem? (i := 94) rfl), (List.forall_mem_cons.mpr ⟨gt1 _ (List.mem_of_getElem? (i := 95) rfl), (List.forall_mem_cons.mpr ⟨gt1 _ (List.mem_of_getElem? (i := 96) rfl), (List.forall_mem_cons.mpr ⟨gt1 _ (List.mem_of_getElem? (i := 97) rfl), (List.forall_mem_cons.mpr ⟨gt1 _ (List.mem_of_getElem? (i := 124) rfl), (List.forall_mem_cons.mpr ⟨gt1 _ (List.mem_of_getElem? (i := 125) rfl), (List.forall_mem_cons.mpr ⟨gt1 _ (List.mem_of_getElem? (i := 126) rfl), (List.forall_mem_cons.mpr ⟨gt1 _ (List.mem_of_getElem? (i := 127) rfl), (List.forall_mem_cons.mpr ⟨gt1 _ (List.mem_of_getElem? (i := 128) rfl), (List.forall_mem_cons.mpr ⟨gt1 _ (List.mem_of_getElem? (i := 129) rfl), (List.forall_mem_cons.mpr ⟨gt1 _ (List.mem_of_getElem? (i := 130) rfl), (List.forall_mem_cons.mpr ⟨gt1 _ (List.mem_of_getElem? (i := 131) rfl), (List.forall_mem_cons.mpr ⟨gt1 _ (List.mem_of_getElem? (i := 132) rfl), (List.forall_mem_cons.mpr ⟨gt1 _ (List.mem_of_getElem? (i := 133) rfl), (List.forall_mem_cons.mpr ⟨gt1 _ (List.mem_of_getElem? (i := 134) rfl), (List.forall_mem_cons.mpr ⟨gt1 _ (List.mem_of_getElem? (i := 135) rfl), (List.forall_mem_cons.mpr ⟨gt1 _ (List.mem_of_getElem? (i := 136) rfl), (List.forall_mem_cons.mpr ⟨gt1 _ (List.mem_of_getElem? (i := 137) rfl), (List.forall_mem_cons.mpr ⟨gt1 _ (List.mem_of_getElem? (i := 138) rfl), (fun _ h => absurd h List.not_mem_nil)⟩)⟩)⟩)⟩)⟩)⟩)⟩)⟩)⟩)⟩)⟩)⟩)⟩)⟩)⟩)⟩)⟩)⟩)⟩)⟩)⟩)⟩)⟩)⟩)
def gFL_2 : List (Nat × Nat × Nat × Nat) := [(8, 170, 2, 5), (11, 225, 2, 5), (3, 36, 2, 6), (5, 99, 2, 6), (11, 152, 2, 6), (8, 123, 2, 6), (3, 42, 2, 7), (5, 103, 2, 7), (11, 156, 2, 7), (8, 127, 2, 7), (3, 44, 2, 8), (5, 78, 2, 8), (8, 85, 2, 8), (11, 140, 2, 8), (3, 47, 2, 9), (5, 126, 2, 9), (11, 137, 2, 9), (3, 50, 2, 10), (11, 222, 2, 10), (3, 53, 2, 11), (8, 134, 2, 11), (11, 245, 2, 11), (3, 56, 2, 12), (8, 140, 2, 12)]
set_option maxRecDepth 100000 in
theorem gFL_2_ok : ∀ q ∈ gFL_2, Cond.fieldLink (gown q.1) q.2.1 (gT q.2.2.1 q.2.2.2).1 (gT q.2.2.1 q.2.2.2).2.1 (gT q.2.2.1 q.2.2.2).2.2.1 ∈ lw_tbl := (List.forall_mem_cons.mpr ⟨gt1 _ (List.mem_of_getElem? (i := 139) rfl), (List.forall_mem_cons.mpr ⟨gt1 _ (List.mem_of_getElem? (i := 140) rfl), (List.forall_mem_cons.mpr ⟨gt1 _ (List.mem_of_getElem? (i := 141) rfl), (List.forall_mem_cons.mpr ⟨gt1 _ (List.mem_of_getElem? (i := 142) rfl), (List.forall_mem_cons.mpr ⟨gt1 _ (List.mem_of_getElem? (i := 143) rfl), (List.forall_mem_cons.mpr ⟨gt1 _ (List.mem_of_getElem? (i := 144) rfl), (List.forall_mem_cons.mpr ⟨gt1 _ (List.mem_of_getElem? (i := 145) rfl), (List.forall_mem_cons.mpr ⟨gt1 _ (List.mem_of_getElem? (i := 146) rfl), (List.forall_mem_cons.mpr ⟨gt1 _ (List.mem_of_getElem? (i := 147) rfl), (List.forall_mem_cons.mpr ⟨gt1 _ (List.mem_of_getElem? (i := 148) rfl), (List.forall_mem_cons.mpr ⟨gt1 _ (List.mem_of_getElem? (i := 149) rfl), (List.forall_mem_cons.mpr ⟨gt1 _ (List.mem_of_getElem? (i := 150) rfl), (List.forall_mem_cons.mpr ⟨gt1 _ (List.mem_of_getElem? (i := 151) rfl), (List.forall_mem_cons.mpr ⟨gt1 _ (List.mem_of_getElem? (i := 152) rfl), (List.forall_mem_cons.mpr ⟨gt1 _ (List.mem_of_getElem? (i := 153) rfl), (List.forall_mem_cons.mpr ⟨gt1 _ (List.mem_of_getElem? (i := 154) rfl), (List.forall_mem_cons.mpr ⟨gt1 _ (List.mem_of_getElem? (i := 155) rfl), (List.forall_mem_cons.mpr ⟨gt1 _ (List.mem_of_getElem? (i := 156) rfl), (List.forall_mem_cons.mpr ⟨gt1 _ (List.mem_of_getElem? (i := 157) rfl), (List.forall_mem_cons.mpr ⟨gt1 _ (List.mem_of_getElem? (i := 158) rfl), (List.forall_mem_cons.mpr ⟨gt1 _ (List.mem_of_getElem? (i := 159) rfl), (List.forall_mem_cons.mpr ⟨gt1 _ (List.mem_of_getElem? (i := 160) rfl), (List.forall_mem_cons.mpr ⟨gt1 _ (List.mem_of_getElem? (i := 161) rfl), (List.forall_mem_cons.mpr ⟨gt1 _ (List.mem_of_getElem? (i := 162) rfl), (fun _ h => absurd h List.not_mem_nil)⟩)⟩)⟩)⟩)⟩)⟩)⟩)⟩)⟩)⟩)⟩)⟩)⟩)⟩)⟩)⟩)⟩)⟩)⟩)⟩)⟩)⟩)⟩)⟩)
def gFL_3 : List (Nat × Nat × Nat × Nat) := [(11, 248, 2, 12), (3, 59, 2, 13), (11, 235, 2, 13), (2, 18, 1, 0), (8, 143, 1, 0), (11, 213, 1, 0), (2, 28, 1, 1), (2, 11, 1, 2), (2, 15, 1, 3), (8, 49, 7, 0), (6, 72, 7, 0), (11, 108, 7, 0), (8, 53, 7, 1), (11, 228, 7, 1), (8, 56, 7, 2), (11, 75, 7, 2), (5, 86, 7, 2), (6, 60, 7, 2), (8, 59, 7, 3), (5, 83, 7, 3), (6, 48, 7, 3), (11, 111, 7, 3), (8, 11, 7, 4), (11, 80, 7, 4)]
set_option maxRecDepth 100000 in
theorem gFL_3_ok : ∀ q ∈ gFL_3, Cond.fieldLink (gown q.1) q.2.1 (gT q.2.2.1 q.2.2.2).1 (gT q.2.2.1 q.2.2.2).2.1 (gT q.2.2.1 q.2.2.2).2.2.1 ∈ lw_tbl := (List.forall_mem_cons.mpr ⟨gt1 _ (List.mem_of_getElem? (i := 163) rfl), (List.forall_mem_cons.mpr ⟨gt1 _ (List.mem_of_getElem? (i := 164) rfl), (List.forall_mem_cons.mpr ⟨gt1 _ (List.mem_of_getElem? (i := 165) rfl), (List.forall_mem_cons.mpr ⟨gt1 _ (List.mem_of_getElem? (i := 200) rfl), (List.forall_mem_cons.mpr ⟨gt1 _ (List.mem_of_getElem? (i := 201) rfl), (List.forall_mem_cons.mpr ⟨gt1 _ (List.mem_of_getElem? (i := 202) rfl), (List.forall_mem_cons.mpr ⟨gt1 _ (List.mem_of_getElem? (i := 203) rfl), (List.forall_mem_cons.mpr ⟨gt1 _ (List.mem_of_getElem? (i := 204) rfl), (List.forall_mem_cons.mpr ⟨gt1 _ (List.mem_of_getElem? (i := 205) rfl), (List.forall_mem_cons.mpr ⟨gt1 _ (List.mem_of_getElem? (i := 215) rfl), (List.forall_mem_cons.mpr ⟨gt1 _ (List.mem_of_getElem? (i := 216) rfl), (List.forall_mem_cons.mpr ⟨gt1 _ (List.mem_of_getElem? (i := 217) rfl), (List.forall_mem_cons.mpr ⟨gt1 _ (List.mem_of_getElem? (i := 218) rfl), (List.forall_mem_cons.mpr ⟨gt1 _ (List.mem_of_getElem? (i := 219) rfl), (List.forall_mem_cons.mpr ⟨gt1 _ (List.mem_of_getElem? (i := 220) rfl), (List.forall_mem_cons.mpr ⟨gt1 _ (List.mem_of_getElem? (i := 221) rfl), (List.forall_mem_cons.mpr ⟨gt1 _ (List.mem_of_getElem? (i := 222) rfl), (List.forall_mem_cons.mpr ⟨gt1 _ (List.mem_of_getElem? (i := 223) rfl), (List.forall_mem_cons.mpr ⟨gt1 _ (List.mem_of_getElem? (i := 224) rfl), (List.forall_mem_cons.mpr ⟨gt1 _ (List.mem_of_getElem? (i := 225) rfl), (List.forall_mem_cons.mpr ⟨gt1 _ (List.mem_of_getElem? (i := 226) rfl), (List.forall_mem_cons.mpr ⟨gt1 _ (List.mem_of_getElem? (i := 227) rfl), (List.forall_mem_cons.mpr ⟨gt1 _ (List.mem_of_getElem? (i := 228) rfl), (List.forall_mem_cons.mpr ⟨gt1 _ (List.mem_of_getElem? (i := 229) rfl), (fun _ h => absurd h List.not_mem_nil)⟩)⟩)⟩)⟩)⟩)⟩)⟩)⟩)⟩)⟩)⟩)⟩)⟩)⟩)⟩)⟩)⟩)⟩)⟩)⟩)⟩)⟩)⟩)⟩)
def gFL_4 : List (Nat × Nat × Nat × Nat) := [(5, 89, 7, 4), (6, 63, 7, 4), (8, 19, 7, 5), (5, 74, 7, 5), (6, 78, 7, 5), (11, 114, 7, 5), (8, 23, 7, 6), (11, 251, 7, 6), (8, 27, 7, 7), (11, 309, 7, 7), (8, 32, 7, 8), (11, 195, 7, 8), (8, 39, 7, 9), (11, 272, 7, 9), (8, 43, 7, 10), (0, 9, 0, 0), (0, 15, 0, 1), (5, 38, 4, 0), (5, 42, 4, 1), (5, 56, 4, 2), (5, 9, 4, 3), (5, 15, 4, 4), (5, 18, 4, 5), (5, 21, 4, 6)]
set_option maxRecDepth 100000 in
theorem gFL_4_ok : ∀ q ∈ gFL_4, Cond.fieldLink (gown q.1) q.2.1 (gT q.2.2.1 q.2.2.2).1 (gT q.2.2.1 q.2.2.2).2.1 (gT q.2.2.1 q.2.2.2).2.2.1 ∈ lw_tbl := (List.forall_mem_cons.mpr ⟨gt1 _ (List.mem_of_getElem? (i := 230) rfl), (List.forall_mem_cons.mpr ⟨gt1 _ (List.mem_of_getElem? (i := 231) rfl), (List.forall_mem_cons.mpr ⟨gt1 _ (List.mem_of_getElem? (i := 232) rfl), (List.forall_mem_cons.mpr ⟨gt1 _ (List.mem_of_getElem? (i := 233) rfl), (List.forall_mem_cons.mpr ⟨gt1 _ (List.mem_of_getElem? (i := 234) rfl), (List.forall_mem_cons.mpr ⟨gt1 _ (List.mem_of_getElem? (i := 235) rfl), (List.forall_mem_cons.mpr ⟨gt1 _ (List.mem_of_getElem? (i := 236) rfl), (List.forall_mem_cons.mpr ⟨gt1 _ (List.mem_of_getElem? (i := 237) rfl), (List.forall_mem_cons.mpr ⟨gt1 _ (List.mem_of_getElem? (i := 238) rfl), (List.forall_mem_cons.mpr ⟨gt1 _ (List.mem_of_getElem? (i := 239) rfl), (List.forall_mem_cons.mpr ⟨gt2 _ (List.mem_of_getElem? (i := 0) rfl), (List.forall_mem_cons.mpr ⟨gt2 _ (List.mem_of_getElem? (i := 1) rfl), (List.forall_mem_cons.mpr ⟨gt2 _ (List.mem_of_getElem? (i := 2) rfl), (List.forall_mem_cons.mpr ⟨gt2 _ (List.mem_of_getElem? (i := 3) rfl), (List.forall_mem_cons.mpr ⟨gt2 _ (List.mem_of_getElem? (i := 4) rfl), (List.forall_mem_cons.mpr ⟨gt2 _ (List.mem_of_getElem? (i := 34) rfl), (List.forall_mem_cons.mpr ⟨gt2 _ (List.mem_of_getElem? (i := 35) rfl), (List.forall_mem_cons.mpr ⟨gt2 _ (List.mem_of_getElem? (i := 50) rfl), (List.forall_mem_cons.mpr ⟨gt2 _ (List.mem_of_getElem? (i := 51) rfl), (List.forall_mem_cons.mpr ⟨gt2 _ (List.mem_of_getElem? (i := 52) rfl), (List.forall_mem_cons.mpr ⟨gt2 _ (List.mem_of_getElem? (i := 53) rfl), (List.forall_mem_cons.mpr ⟨gt2 _ (List.mem_of_getElem? (i := 54) rfl), (List.forall_mem_cons.mpr ⟨gt2 _ (List.mem_of_getElem? (i := 55) rfl), (List.forall_mem_cons.mpr ⟨gt2 _ (List.mem_of_getElem? (i := 56) rfl), (fun _ h => absurd h List.not_mem_nil)⟩)⟩)⟩)⟩)⟩)⟩)⟩)⟩)⟩)⟩)⟩)⟩)⟩)⟩)⟩)⟩)⟩)⟩)⟩)⟩)⟩)⟩)⟩)⟩)
def gFL_5 : List (Nat × Nat × Nat × Nat) := [(5, 26, 4, 7), (5, 29, 4, 8), (5, 32, 4, 9), (5, 35, 4, 10), (5, 67, 4, 11), (5, 132, 4, 12), (5, 135, 4, 13), (6, 24, 5, 0), (6, 36, 5, 1), (6, 9, 5, 2), (6, 15, 5, 3), (6, 18, 5, 4), (6, 21, 5, 5), (6, 88, 5, 6), (9, 27, 8, 0), (11, 181, 8, 0), (9, 34, 8, 1), (11, 192, 8, 1), (9, 37, 8, 2), (11, 210, 8, 2), (9, 40, 8, 3), (11, 202, 8, 3), (9, 9, 8, 4), (11, 199, 8, 4)]
set_option maxRecDepth 100000 in
theorem gFL_5_ok : ∀ q ∈ gFL_5, Cond.fieldLink (gown q.1) q.2.1 (gT q.2.2.1 q.2.2.2).1 (gT q.2.2.1 q.2.2.2).2.1 (gT q.2.2.1 q.2.2.2).2.2.1 ∈ lw_tbl := (List.forall_mem_cons.mpr ⟨gt2 _ (List.mem_of_getElem? (i := 57) rfl), (List.forall_mem_cons.mpr ⟨gt2 _ (List.mem_of_getElem? (i := 58) rfl), (List.forall_mem_cons.mpr ⟨gt2 _ (List.mem_of_getElem? (i := 59) rfl), (List.forall_mem_cons.mpr ⟨gt2 _ (List.mem_of_getElem? (i := 60) rfl), (List.forall_mem_cons.mpr ⟨gt2 _ (List.mem_of_getElem? (i := 61) rfl), (List.forall_mem_cons.mpr ⟨gt2 _ (List.mem_of_getElem? (i := 62) rfl), (List.forall_mem_cons.mpr ⟨gt2 _ (List.mem_of_getElem? (i := 63) rfl), (List.forall_mem_cons.mpr ⟨gt2 _ (List.mem_of_getElem? (i := 99) rfl), (List.forall_mem_cons.mpr ⟨gt2 _ (List.mem_of_getElem? (i := 100) rfl), (List.forall_mem_cons.mpr ⟨gt2 _ (List.mem_of_getElem? (i := 101) rfl), (List.forall_mem_cons.mpr ⟨gt2 _ (List.mem_of_getElem? (i := 102) rfl), (List.forall_mem_cons.mpr ⟨gt2 _ (List.mem_of_getElem? (i := 103) rfl), (List.forall_mem_cons.mpr ⟨gt2 _ (List.mem_of_getElem? (i := 104) rfl), (List.forall_mem_cons.mpr ⟨gt2 _ (List.mem_of_getElem? (i := 105) rfl), (List.forall_mem_cons.mpr ⟨gt2 _ (List.mem_of_getElem? (i := 127) rfl), (List.forall_mem_cons.mpr ⟨gt2 _ (List.mem_of_getElem? (i := 128) rfl), (List.forall_mem_cons.mpr ⟨gt2 _ (List.mem_of_getElem? (i := 129) rfl), (List.forall_mem_cons.mpr ⟨gt2 _ (List.mem_of_getElem? (i := 130) rfl), (List.forall_mem_cons.mpr ⟨gt2 _ (List.mem_of_getElem? (i := 131) rfl), (List.forall_mem_cons.mpr ⟨gt2 _ (List.mem_of_getElem? (i := 132) rfl), (List.forall_mem_cons.mpr ⟨gt2 _ (List.mem_of_getElem? (i := 133) rfl), (List.forall_mem_cons.mpr ⟨gt2 _ (List.mem_of_getElem? (i := 134) rfl), (List.forall_mem_cons.mpr ⟨gt2 _ (List.mem_of_getElem? (i := 135) rfl), (List.forall_mem_cons.mpr ⟨gt2 _ (List.mem_of_getElem? (i := 136) rfl), (fun _ h => absurd h List.not_mem_nil)⟩)⟩)⟩)⟩)⟩)⟩)⟩)⟩)⟩)⟩)⟩)⟩)⟩)⟩)⟩)⟩)⟩)⟩)⟩)⟩)⟩)⟩)⟩)⟩)
def gFL_6 : List (Nat × Nat × Nat × Nat) := [(9, 15, 8, 5), (9, 18, 8, 6), (9, 21, 8, 7), (9, 24, 8, 8), (9, 54, 8, 9), (9, 43, 8, 10), (7, 15, 6, 0), (11, 323, 6, 0), (7, 19, 6, 1), (11, 299, 6, 1), (7, 9, 6, 2), (11, 329, 6, 2), (11, 12, 10, 0), (11, 16, 10, 1), (11, 22, 10, 2), (11, 31, 10, 3), (11, 40, 10, 4), (11, 47, 10, 5), (11, 53, 10, 6), (11, 58, 10, 7), (11, 62, 10, 8), (12, 126, 11, 0), (12, 275, 11, 1), (12, 100, 11, 2)]
set_option maxRecDepth 100000 in
theorem gFL_6_ok : ∀ q ∈ gFL_6, Cond.fieldLink (gown q.1) q.2.1 (gT q.2.2.1 q.2.2.2).1 (gT q.2.2.1 q.2.2.2).2.1 (gT q.2.2.1 q.2.2.2).2.2.1 ∈ lw_tbl := (List.forall_mem_cons.mpr ⟨gt2 _ (List.mem_of_getElem? (i := 137) rfl), (List.forall_mem_cons.mpr ⟨gt2 _ (List.mem_of_getElem? (i := 138) rfl), (List.forall_mem_cons.mpr ⟨gt2 _ (List.mem_of_getElem? (i := 139) rfl), (List.forall_mem_cons.mpr ⟨gt2 _ (List.mem_of_getElem? (i := 140) rfl), (List.forall_mem_cons.mpr ⟨gt2 _ (List.mem_of_getElem? (i := 141) rfl), (List.forall_mem_cons.mpr ⟨gt2 _ (List.mem_of_getElem? (i := 142) rfl), (List.forall_mem_cons.mpr ⟨gt2 _ (List.mem_of_getElem? (i := 173) rfl), (List.forall_mem_cons.mpr ⟨gt2 _ (List.mem_of_getElem? (i := 174) rfl), (List.forall_mem_cons.mpr ⟨gt2 _ (List.mem_of_getElem? (i := 175) rfl), (List.forall_mem_cons.mpr ⟨gt2 _ (List.mem_of_getElem? (i := 176) rfl), (List.forall_mem_cons.mpr ⟨gt2 _ (List.mem_of_getElem? (i := 177) rfl), (List.forall_mem_cons.mpr ⟨gt2 _ (List.mem_of_getElem? (i := 178) rfl), (List.forall_mem_cons.mpr ⟨gt2 _ (List.mem_of_getElem? (i := 186) rfl), (List.forall_mem_cons.mpr ⟨gt2 _ (List.mem_of_getElem? (i := 187) rfl), (List.forall_mem_cons.mpr ⟨gt2 _ (List.mem_of_getElem? (i := 188) rfl), (List.forall_mem_cons.mpr ⟨gt2 _ (List.mem_of_getElem? (i := 189) rfl), (List.forall_mem_cons.mpr ⟨gt2 _ (List.mem_of_getElem? (i := 190) rfl), (List.forall_mem_cons.mpr ⟨gt2 _ (List.mem_of_getElem? (i := 191) rfl), (List.forall_mem_cons.mpr ⟨gt2 _ (List.mem_of_getElem? (i := 192) rfl), (List.forall_mem_cons.mpr ⟨gt2 _ (List.mem_of_getElem? (i := 193) rfl), (List.forall_mem_cons.mpr ⟨gt2 _ (List.mem_of_getElem? (i := 194) rfl), (List.forall_mem_cons.mpr ⟨gt5 _ (List.mem_of_getElem? (i := 112) rfl), (List.forall_mem_cons.mpr ⟨gt5 _ (List.mem_of_getElem? (i := 113) rfl), (List.forall_mem_cons.mpr ⟨gt5 _ (List.mem_of_getElem? (i := 114) rfl), (fun _ h => absurd h List.not_mem_nil)⟩)⟩)⟩)⟩)⟩)⟩)⟩)⟩)⟩)⟩)⟩)⟩)⟩)⟩)⟩)⟩)⟩)⟩)⟩)⟩)⟩)⟩)⟩)⟩)
def gFL_7 : List (Nat × Nat × Nat × Nat) := [(12, 7, 11, 3), (12, 13, 11, 4), (12, 16, 11, 5), (12, 108, 11, 6), (12, 19, 11, 7), (12, 22, 11, 8), (12, 297, 11, 9), (12, 25, 11, 10), (12, 28, 11, 11), (12, 31, 11, 12), (12, 34, 11, 13), (12, 37, 11, 14), (12, 40, 11, 15), (12, 43, 11, 16), (12, 47, 11, 17), (12, 50, 11, 18), (12, 53, 11, 19), (12, 167, 11, 20), (12, 56, 11, 21), (12, 179, 11, 22), (12, 185, 11, 23), (12, 182, 11, 24), (12, 191, 11, 25), (12, 197, 11, 26)]
set_option maxRecDepth 100000 in
theorem gFL_7_ok : ∀ q ∈ gFL_7, Cond.fieldLink (gown q.1) q.2.1 (gT q.2.2.1 q.2.2.2).1 (gT q.2.2.1 q.2.2.2).2.1 (gT q.2.2.1 q.2.2.2).2.2.1 ∈ lw_tbl := (List.forall_mem_cons.mpr ⟨gt5 _ (List.mem_of_getElem? (i := 115) rfl), (List.forall_mem_cons.mpr ⟨gt5 _ (List.mem_of_getElem? (i := 116) rfl), (List.forall_mem_cons.mpr ⟨gt5 _ (List.mem_of_getElem? (i := 117) rfl), (List.forall_mem_cons.mpr ⟨gt5 _ (List.mem_of_getElem? (i := 118) rfl), (List.forall_mem_cons.mpr ⟨gt5 _ (List.mem_of_getElem? (i := 119) rfl), (List.forall_mem_cons.mpr ⟨gt5 _ (List.mem_of_getElem? (i := 120) rfl), (List.forall_mem_cons.mpr ⟨gt5 _ (List.mem_of_getElem? (i := 121) rfl), (List.forall_mem_cons.mpr ⟨gt5 _ (List.mem_of_getElem? (i := 122) rfl), (List.forall_mem_cons.mpr ⟨gt5 _ (List.mem_of_getElem? (i := 123) rfl), (List.forall_mem_cons.mpr ⟨gt5 _ (List.mem_of_getElem? (i := 124) rfl), (List.forall_mem_cons.mpr ⟨gt5 _ (List.mem_of_getElem? (i := 125) rfl), (List.forall_mem_cons.mpr ⟨gt5 _ (List.mem_of_getElem? (i := 126) rfl), (List.forall_mem_cons.mpr ⟨gt5 _ (List.mem_of_getElem? (i := 127) rfl), (List.forall_mem_cons.mpr ⟨gt5 _ (List.mem_of_getElem? (i := 128) rfl), (List.forall_mem_cons.mpr ⟨gt5 _ (List.mem_of_getElem? (i := 129) rfl), (List.forall_mem_cons.mpr ⟨gt5 _ (List.mem_of_getElem? (i := 130) rfl), (List.forall_mem_cons.mpr ⟨gt5 _ (List.mem_of_getElem? (i := 131) rfl), (List.forall_mem_cons.mpr ⟨gt5 _ (List.mem_of_getElem? (i := 132) rfl), (List.forall_mem_cons.mpr ⟨gt5 _ (List.mem_of_getElem? (i := 133) rfl), (List.forall_mem_cons.mpr ⟨gt5 _ (List.mem_of_getElem? (i := 134) rfl), (List.forall_mem_cons.mpr ⟨gt5 _ (List.mem_of_getElem? (i := 135) rfl), (List.forall_mem_cons.mpr ⟨gt5 _ (List.mem_of_getElem? (i := 136) rfl), (List.forall_mem_cons.mpr ⟨gt5 _ (List.mem_of_getElem? (i := 137) rfl), (List.forall_mem_cons.mpr ⟨gt5 _ (List.mem_of_getElem? (i := 138) rfl), (fun _ h => absurd h List.not_mem_nil)⟩)⟩)⟩)⟩)⟩)⟩)⟩)⟩)⟩)⟩)⟩)⟩)⟩)⟩)⟩)⟩)⟩)⟩)⟩)⟩)⟩)⟩)⟩)⟩)
def gFL_8 : List (Nat × Nat × Nat × Nat) := [(12, 59, 11, 27), (12, 62, 11, 28), (12, 209, 11, 29), (12, 212, 11, 30), (12, 222, 11, 31), (12, 228, 11, 32), (12, 65, 11, 33), (12, 69, 11, 34), (12, 72, 11, 35), (12, 75, 11, 36), (12, 78, 11, 37), (12, 81, 11, 38), (12, 84, 11, 39), (12, 87, 11, 40), (12, 90, 11, 41), (12, 314, 11, 42), (12, 93, 11, 43), (12, 303, 11, 44), (12, 96, 11, 45)]
set_option maxRecDepth 100000 in
theorem gFL_8_ok : ∀ q ∈ gFL_8, Cond.fieldLink (gown q.1) q.2.1 (gT q.2.2.1 q.2.2.2).1 (gT q.2.2.1 q.2.2.2).2.1 (gT q.2.2.1 q.2.2.2).2.2.1 ∈ lw_tbl := (List.forall_mem_cons.mpr ⟨gt5 _ (List.mem_of_getElem? (i := 139) rfl), (List.forall_mem_cons.mpr ⟨gt5 _ (List.mem_of_getElem? (i := 140) rfl), (List.forall_mem_cons.mpr ⟨gt5 _ (List.mem_of_getElem? (i := 141) rfl), (List.forall_mem_cons.mpr ⟨gt5 _ (List.mem_of_getElem? (i := 142) rfl), (List.forall_mem_cons.mpr ⟨gt5 _ (List.mem_of_getElem? (i := 143) rfl), (List.forall_mem_cons.mpr ⟨gt5 _ (List.mem_of_getElem? (i := 144) rfl), (List.forall_mem_cons.mpr ⟨gt5 _ (List.mem_of_getElem? (i := 145) rfl), (List.forall_mem_cons.mpr ⟨gt5 _ (List.mem_of_getElem? (i := 146) rfl), (List.forall_mem_cons.mpr ⟨gt5 _ (List.mem_of_getElem? (i := 147) rfl), (List.forall_mem_cons.mpr ⟨gt5 _ (List.mem_of_getElem? (i := 148) rfl), (List.forall_mem_cons.mpr ⟨gt5 _ (List.mem_of_getElem? (i := 149) rfl), (List.forall_mem_cons.mpr ⟨gt5 _ (List.mem_of_getElem? (i := 150) rfl), (List.forall_mem_cons.mpr ⟨gt5 _ (List.mem_of_getElem? (i := 151) rfl), (List.forall_mem_cons.mpr ⟨gt5 _ (List.mem_of_getElem? (i := 152) rfl), (List.forall_mem_cons.mpr ⟨gt5 _ (List.mem_of_getElem? (i := 153) rfl), (List.forall_mem_cons.mpr ⟨gt5 _ (List.mem_of_getElem? (i := 154) rfl), (List.forall_mem_cons.mpr ⟨gt5 _ (List.mem_of_getElem? (i := 155) rfl), (List.forall_mem_cons.mpr ⟨gt5 _ (List.mem_of_getElem? (i := 156) rfl), (List.forall_mem_cons.mpr ⟨gt5 _ (List.mem_of_getElem? (i := 157) rfl), (fun _ h => absurd h List.not_mem_nil)⟩)⟩)⟩)⟩)⟩)⟩)⟩)⟩)⟩)⟩)⟩)⟩)⟩)⟩)⟩)⟩)⟩)⟩)⟩)
def gFL : List (Nat × Nat × Nat × Nat) := gFL_0 ++ (gFL_1 ++ (gFL_2 ++ (gFL_3 ++ (gFL_4 ++ (gFL_5 ++ (gFL_6 ++ (gFL_7 ++ (gFL_8))))))))
theorem gFL_ok : ∀ q ∈ gFL, Cond.fieldLink (gown q.1) q.2.1 (gT q.2.2.1 q.2.2.2).1 (gT q.2.2.1 q.2.2.2).2.1 (gT q.2.2.1 q.2.2.2).2.2.1 ∈ lw_tbl := by
  intro q hq
  simp only [gFL, List.mem_append] at hq
  rcases hq with hq | hq | hq | hq | hq | hq | hq | hq | hq
  · exact gFL_0_ok q hq
  · exact gFL_1_ok q hq
  · exact gFL_2_ok q hq
  · exact gFL_3_ok q hq
  · exact gFL_4_ok q hq
  · exact gFL_5_ok q hq
  · exact gFL_6_ok q hq
  · exact gFL_7_ok q hq
  · exact gFL_8_ok q hq
def gVL_0 : List (Nat × Nat × Nat) := [(17, 13, 103), (11, 71, 147), (11, 84, 28), (17, 18, 104), (11, 90, 59), (11, 94, 30), (17, 23, 105), (17, 27, 106), (11, 100, 69), (17, 31, 107), (11, 118, 21), (17, 35, 108), (11, 121, 60), (11, 124, 63), (11, 127, 23), (17, 39, 109), (1, 41, 26), (1, 45, 31), (17, 43, 110), (11, 134, 61), (8, 81, 60), (17, 47, 111), (11, 143, 64), (8, 91, 62)]
set_option maxRecDepth 100000 in
theorem gVL_0_ok : ∀ q ∈ gVL_0, Cond.methodLink (gown q.1) q.2.1 (gH q.2.2).1 ∈ lw_tbl ∧ Cond.instanceMethod (gH q.2.2).1 ∈ lw_tbl ∧ Cond.selects (gH q.2.2).1.cls (gH q.2.2).1 (gH q.2.2).1 ∈ lw_tbl ∧ Cond.initialized (gH q.2.2).1.cls ∈ lw_tbl := (List.forall_mem_cons.mpr ⟨⟨gt2 _ (List.mem_of_getElem? (i := 214) rfl), gt2 _ (List.mem_of_getElem? (i := 215) rfl), gt2 _ (List.mem_of_getElem? (i := 216) rfl), gt1 _ (List.mem_of_getElem? (i := 1) rfl)⟩, (List.forall_mem_cons.mpr ⟨⟨gt2 _ (List.mem_of_getElem? (i := 222) rfl), gt2 _ (List.mem_of_getElem? (i := 224) rfl), gt0 _ (List.mem_of_getElem? (i := 0) rfl), gt1 _ (List.mem_of_getElem? (i := 1) rfl)⟩, (List.forall_mem_cons.mpr ⟨⟨gt2 _ (List.mem_of_getElem? (i := 227) rfl), gt2 _ (List.mem_of_getElem? (i := 228) rfl), gt2 _ (List.mem_of_getElem? (i := 229) rfl), gt1 _ (List.mem_of_getElem? (i := 4) rfl)⟩, (List.forall_mem_cons.mpr ⟨⟨gt2 _ (List.mem_of_getElem? (i := 231) rfl), gt2 _ (List.mem_of_getElem? (i := 232) rfl), gt2 _ (List.mem_of_getElem? (i := 233) rfl), gt1 _ (List.mem_of_getElem? (i := 1) rfl)⟩, (List.forall_mem_cons.mpr ⟨⟨gt2 _ (List.mem_of_getElem? (i := 235) rfl), gt2 _ (List.mem_of_getElem? (i := 236) rfl), gt2 _ (List.mem_of_getElem? (i := 237) rfl), gt1 _ (List.mem_of_getElem? (i := 2) rfl)⟩, (List.forall_mem_cons.mpr ⟨⟨gt2 _ (List.mem_of_getElem? (i := 239) rfl), gt3 _ (List.mem_of_getElem? (i := 0) rfl), gt3 _ (List.mem_of_getElem? (i := 1) rfl), gt1 _ (List.mem_of_getElem? (i := 4) rfl)⟩, (List.forall_mem_cons.mpr ⟨⟨gt3 _ (List.mem_of_getElem? (i := 3) rfl), gt3 _ (List.mem_of_getElem? (i := 4) rfl), gt3 _ (List.mem_of_getElem? (i := 5) rfl), gt1 _ (List.mem_of_getElem? (i := 1) rfl)⟩, (List.forall_mem_cons.mpr ⟨⟨gt3 _ (List.mem_of_getElem? (i := 7) rfl), gt3 _ (List.mem_of_getElem? (i := 8) rfl), gt3 _ (List.mem_of_getElem? (i := 9) rfl), gt1 _ (List.mem_of_getElem? (i := 1) rfl)⟩, (List.forall_mem_cons.mpr ⟨⟨gt3 _ (List.mem_of_getElem? (i := 11) rfl), gt3 _ (List.mem_of_getElem? (i := 12) rfl), gt3 _ (List.mem_of_getElem? (i := 13) rfl), gt1 _ (List.mem_of_getElem? (i := 2) rfl)⟩, (List.forall_mem_cons.mpr ⟨⟨gt3 _ (List.mem_of_getElem? (i := 18) rfl), gt3 _ (List.mem_of_getElem? (i := 19) rfl), gt3 _ (List.mem_of_getElem? (i := 20) rfl), gt1 _ (List.mem_of_getElem? (i := 1) rfl)⟩, (List.forall_mem_cons.mpr ⟨⟨gt3 _ (List.mem_of_getElem? (i := 25) rfl), gt3 _ (List.mem_of_getElem? (i := 26) rfl), gt3 _ (List.mem_of_getElem? (i := 27) rfl), gt1 _ (List.mem_of_getElem? (i := 5) rfl)⟩, (List.forall_mem_cons.mpr ⟨⟨gt3 _ (List.mem_of_getElem? (i := 39) rfl), gt3 _ (List.mem_of_getElem? (i := 40) rfl), gt3 _ (List.mem_of_getElem? (i := 41) rfl), gt1 _ (List.mem_of_getElem? (i := 1) rfl)⟩, (List.forall_mem_cons.mpr ⟨⟨gt3 _ (List.mem_of_getElem? (i := 43) rfl), gt3 _ (List.mem_of_getElem? (i := 44) rfl), gt3 _ (List.mem_of_getElem? (i := 45) rfl), gt1 _ (List.mem_of_getElem? (i := 2) rfl)⟩, (List.forall_mem_cons.mpr ⟨⟨gt3 _ (List.mem_of_getElem? (i := 47) rfl), gt3 _ (List.mem_of_getElem? (i := 48) rfl), gt3 _ (List.mem_of_getElem? (i := 49) rfl), gt1 _ (List.mem_of_getElem? (i := 2) rfl)⟩, (List.forall_mem_cons.mpr ⟨⟨gt3 _ (List.mem_of_getElem? (i := 51) rfl), gt3 _ (List.mem_of_getElem? (i := 52) rfl), gt3 _ (List.mem_of_getElem? (i := 53) rfl), gt1 _ (List.mem_of_getElem? (i := 5) rfl)⟩, (List.forall_mem_cons.mpr ⟨⟨gt3 _ (List.mem_of_getElem? (i := 55) rfl), gt3 _ (List.mem_of_getElem? (i := 56) rfl), gt3 _ (List.mem_of_getElem? (i := 57) rfl), gt1 _ (List.mem_of_getElem? (i := 1) rfl)⟩, (List.forall_mem_cons.mpr ⟨⟨gt3 _ (List.mem_of_getElem? (i := 65) rfl), gt3 _ (List.mem_of_getElem? (i := 66) rfl), gt3 _ (List.mem_of_getElem? (i := 67) rfl), gt1 _ (List.mem_of_getElem? (i := 5) rfl)⟩, (List.forall_mem_cons.mpr ⟨⟨gt3 _ (List.mem_of_getElem? (i := 69) rfl), gt3 _ (List.mem_of_getElem? (i := 70) rfl), gt3 _ (List.mem_of_getElem? (i := 71) rfl), gt1 _ (List.mem_of_getElem? (i := 4) rfl)⟩, (List.forall_mem_cons.mpr ⟨⟨gt3 _ (List.mem_of_getElem? (i := 81) rfl), gt3 _ (List.mem_of_getElem? (i := 82) rfl), gt3 _ (List.mem_of_getElem? (i := 83) rfl), gt1 _ (List.mem_of_getElem? (i := 1) rfl)⟩, (List.forall_mem_cons.mpr ⟨⟨gt3 _ (List.mem_of_getElem? (i := 85) rfl), gt3 _ (List.mem_of_getElem? (i := 86) rfl), gt3 _ (List.mem_of_getElem? (i := 87) rfl), gt1 _ (List.mem_of_getElem? (i := 2) rfl)⟩, (List.forall_mem_cons.mpr ⟨⟨gt3 _ (List.mem_of_getElem? (i := 89) rfl), gt3 _ (List.mem_of_getElem? (i := 44) rfl), gt3 _ (List.mem_of_getElem? (i := 45) rfl), gt1 _ (List.mem_of_getElem? (i := 2) rfl)⟩, (List.forall_mem_cons.mpr ⟨⟨gt3 _ (List.mem_of_getElem? (i := 90) rfl), gt3 _ (List.mem_of_getElem? (i := 91) rfl), gt3 _ (List.mem_of_getElem? (i := 92) rfl), gt1 _ (List.mem_of_getElem? (i := 1) rfl)⟩, (List.forall_mem_cons.mpr ⟨⟨gt3 _ (List.mem_of_getElem? (i := 94) rfl), gt3 _ (List.mem_of_getElem? (i := 95) rfl), gt3 _ (List.mem_of_getElem? (i := 96) rfl), gt1 _ (List.mem_of_getElem? (i := 2) rfl)⟩, (List.forall_mem_cons.mpr ⟨⟨gt3 _ (List.mem_of_getElem? (i := 98) rfl), gt3 _ (List.mem_of_getElem? (i := 99) rfl), gt3 _ (List.mem_of_getElem? (i := 100) rfl), gt1 _ (List.mem_of_getElem? (i := 2) rfl)⟩, (fun _ h => absurd h List.not_mem_nil)⟩)⟩)⟩)⟩)⟩)⟩)⟩)⟩)⟩)⟩)⟩)⟩)⟩)⟩)⟩)⟩)⟩)⟩)⟩)⟩)⟩)⟩)⟩)⟩)
def gVL_1 : List (Nat × Nat × Nat) := [(8, 94, 63), (11, 148, 71), (8, 118, 4), (8, 130, 6), (11, 159, 5), (17, 51, 112), (17, 56, 113), (11, 164, 70), (8, 97, 25), (3, 63, 24), (17, 60, 114), (11, 167, 8), (17, 64, 115), (11, 175, 33), (5, 46, 34), (5, 50, 71), (5, 60, 35), (5, 106, 5), (5, 112, 62), (5, 116, 36), (5, 119, 37), (5, 123, 69), (5, 64, 38), (5, 70, 40)]
set_option maxRecDepth 100000 in
theorem gVL_1_ok : ∀ q ∈ gVL_1, Cond.methodLink (gown q.1) q.2.1 (gH q.2.2).1 ∈ lw_tbl ∧ Cond.instanceMethod (gH q.2.2).1 ∈ lw_tbl ∧ Cond.selects (gH q.2.2).1.cls (gH q.2.2).1 (gH q.2.2).1 ∈ lw_tbl ∧ Cond.initialized (gH q.2.2).1.cls ∈ lw_tbl := (List.forall_mem_cons.mpr ⟨⟨gt3 _ (List.mem_of_getElem? (i := 102) rfl), gt3 _ (List.mem_of_getElem? (i := 48) rfl), gt3 _ (List.mem_of_getElem? (i := 49) rfl), gt1 _ (List.mem_of_getElem? (i := 2) rfl)⟩, (List.forall_mem_cons.mpr ⟨⟨gt3 _ (List.mem_of_getElem? (i := 105) rfl), gt3 _ (List.mem_of_getElem? (i := 106) rfl), gt3 _ (List.mem_of_getElem? (i := 107) rfl), gt1 _ (List.mem_of_getElem? (i := 2) rfl)⟩, (List.forall_mem_cons.mpr ⟨⟨gt3 _ (List.mem_of_getElem? (i := 109) rfl), gt3 _ (List.mem_of_getElem? (i := 110) rfl), gt3 _ (List.mem_of_getElem? (i := 111) rfl), gt1 _ (List.mem_of_getElem? (i := 7) rfl)⟩, (List.forall_mem_cons.mpr ⟨⟨gt3 _ (List.mem_of_getElem? (i := 113) rfl), gt3 _ (List.mem_of_getElem? (i := 114) rfl), gt3 _ (List.mem_of_getElem? (i := 115) rfl), gt1 _ (List.mem_of_getElem? (i := 7) rfl)⟩, (List.forall_mem_cons.mpr ⟨⟨gt3 _ (List.mem_of_getElem? (i := 117) rfl), gt3 _ (List.mem_of_getElem? (i := 118) rfl), gt3 _ (List.mem_of_getElem? (i := 119) rfl), gt1 _ (List.mem_of_getElem? (i := 7) rfl)⟩, (List.forall_mem_cons.mpr ⟨⟨gt3 _ (List.mem_of_getElem? (i := 122) rfl), gt3 _ (List.mem_of_getElem? (i := 123) rfl), gt3 _ (List.mem_of_getElem? (i := 124) rfl), gt1 _ (List.mem_of_getElem? (i := 1) rfl)⟩, (List.forall_mem_cons.mpr ⟨⟨gt3 _ (List.mem_of_getElem? (i := 126) rfl), gt3 _ (List.mem_of_getElem? (i := 127) rfl), gt3 _ (List.mem_of_getElem? (i := 128) rfl), gt1 _ (List.mem_of_getElem? (i := 1) rfl)⟩, (List.forall_mem_cons.mpr ⟨⟨gt3 _ (List.mem_of_getElem? (i := 130) rfl), gt3 _ (List.mem_of_getElem? (i := 131) rfl), gt3 _ (List.mem_of_getElem? (i := 132) rfl), gt1 _ (List.mem_of_getElem? (i := 2) rfl)⟩, (List.forall_mem_cons.mpr ⟨⟨gt3 _ (List.mem_of_getElem? (i := 134) rfl), gt3 _ (List.mem_of_getElem? (i := 135) rfl), gt3 _ (List.mem_of_getElem? (i := 136) rfl), gt1 _ (List.mem_of_getElem? (i := 5) rfl)⟩, (List.forall_mem_cons.mpr ⟨⟨gt3 _ (List.mem_of_getElem? (i := 138) rfl), gt3 _ (List.mem_of_getElem? (i := 139) rfl), gt3 _ (List.mem_of_getElem? (i := 140) rfl), gt1 _ (List.mem_of_getElem? (i := 5) rfl)⟩, (List.forall_mem_cons.mpr ⟨⟨gt3 _ (List.mem_of_getElem? (i := 142) rfl), gt3 _ (List.mem_of_getElem? (i := 143) rfl), gt3 _ (List.mem_of_getElem? (i := 144) rfl), gt1 _ (List.mem_of_getElem? (i := 1) rfl)⟩, (List.forall_mem_cons.mpr ⟨⟨gt3 _ (List.mem_of_getElem? (i := 146) rfl), gt3 _ (List.mem_of_getElem? (i := 147) rfl), gt3 _ (List.mem_of_getElem? (i := 148) rfl), gt1 _ (List.mem_of_getElem? (i := 7) rfl)⟩, (List.forall_mem_cons.mpr ⟨⟨gt3 _ (List.mem_of_getElem? (i := 156) rfl), gt3 _ (List.mem_of_getElem? (i := 157) rfl), gt3 _ (List.mem_of_getElem? (i := 158) rfl), gt1 _ (List.mem_of_getElem? (i := 1) rfl)⟩, (List.forall_mem_cons.mpr ⟨⟨gt3 _ (List.mem_of_getElem? (i := 166) rfl), gt3 _ (List.mem_of_getElem? (i := 167) rfl), gt3 _ (List.mem_of_getElem? (i := 168) rfl), gt1 _ (List.mem_of_getElem? (i := 8) rfl)⟩, (List.forall_mem_cons.mpr ⟨⟨gt3 _ (List.mem_of_getElem? (i := 170) rfl), gt3 _ (List.mem_of_getElem? (i := 172) rfl), gt0 _ (List.mem_of_getElem? (i := 1) rfl), gt1 _ (List.mem_of_getElem? (i := 8) rfl)⟩, (List.forall_mem_cons.mpr ⟨⟨gt3 _ (List.mem_of_getElem? (i := 174) rfl), gt3 _ (List.mem_of_getElem? (i := 106) rfl), gt3 _ (List.mem_of_getElem? (i := 107) rfl), gt1 _ (List.mem_of_getElem? (i := 2) rfl)⟩, (List.forall_mem_cons.mpr ⟨⟨gt3 _ (List.mem_of_getElem? (i := 175) rfl), gt3 _ (List.mem_of_getElem? (i := 177) rfl), gt0 _ (List.mem_of_getElem? (i := 2) rfl), gt1 _ (List.mem_of_getElem? (i := 8) rfl)⟩, (List.forall_mem_cons.mpr ⟨⟨gt3 _ (List.mem_of_getElem? (i := 180) rfl), gt3 _ (List.mem_of_getElem? (i := 118) rfl), gt3 _ (List.mem_of_getElem? (i := 119) rfl), gt1 _ (List.mem_of_getElem? (i := 7) rfl)⟩, (List.forall_mem_cons.mpr ⟨⟨gt3 _ (List.mem_of_getElem? (i := 181) rfl), gt3 _ (List.mem_of_getElem? (i := 99) rfl), gt3 _ (List.mem_of_getElem? (i := 100) rfl), gt1 _ (List.mem_of_getElem? (i := 2) rfl)⟩, (List.forall_mem_cons.mpr ⟨⟨gt3 _ (List.mem_of_getElem? (i := 182) rfl), gt3 _ (List.mem_of_getElem? (i := 184) rfl), gt0 _ (List.mem_of_getElem? (i := 3) rfl), gt1 _ (List.mem_of_getElem? (i := 8) rfl)⟩, (List.forall_mem_cons.mpr ⟨⟨gt3 _ (List.mem_of_getElem? (i := 186) rfl), gt3 _ (List.mem_of_getElem? (i := 188) rfl), gt0 _ (List.mem_of_getElem? (i := 4) rfl), gt1 _ (List.mem_of_getElem? (i := 8) rfl)⟩, (List.forall_mem_cons.mpr ⟨⟨gt3 _ (List.mem_of_getElem? (i := 190) rfl), gt3 _ (List.mem_of_getElem? (i := 12) rfl), gt3 _ (List.mem_of_getElem? (i := 13) rfl), gt1 _ (List.mem_of_getElem? (i := 2) rfl)⟩, (List.forall_mem_cons.mpr ⟨⟨gt3 _ (List.mem_of_getElem? (i := 191) rfl), gt3 _ (List.mem_of_getElem? (i := 193) rfl), gt0 _ (List.mem_of_getElem? (i := 5) rfl), gt1 _ (List.mem_of_getElem? (i := 8) rfl)⟩, (List.forall_mem_cons.mpr ⟨⟨gt3 _ (List.mem_of_getElem? (i := 195) rfl), gt3 _ (List.mem_of_getElem? (i := 197) rfl), gt0 _ (List.mem_of_getElem? (i := 6) rfl), gt1 _ (List.mem_of_getElem? (i := 8) rfl)⟩, (fun _ h => absurd h List.not_mem_nil)⟩)⟩)⟩)⟩)⟩)⟩)⟩)⟩)⟩)⟩)⟩)⟩)⟩)⟩)⟩)⟩)⟩)⟩)⟩)⟩)⟩)⟩)⟩)⟩)
def gVL_2 : List (Nat × Nat × Nat) := [(5, 138, 39), (5, 142, 42), (5, 146, 8), (5, 150, 6), (5, 154, 41), (5, 157, 7), (17, 68, 116), (11, 178, 62), (17, 73, 117), (11, 184, 78), (17, 77, 118), (17, 81, 119), (11, 188, 79), (9, 31, 80), (9, 60, 82), (9, 73, 81), (9, 67, 83), (9, 46, 92), (9, 93, 93), (9, 109, 94), (9, 112, 95), (9, 96, 88), (9, 100, 89), (9, 106, 91)]
set_option maxRecDepth 100000 in
theorem gVL_2_ok : ∀ q ∈ gVL_2, Cond.methodLink (gown q.1) q.2.1 (gH q.2.2).1 ∈ lw_tbl ∧ Cond.instanceMethod (gH q.2.2).1 ∈ lw_tbl ∧ Cond.selects (gH q.2.2).1.cls (gH q.2.2).1 (gH q.2.2).1 ∈ lw_tbl ∧ Cond.initialized (gH q.2.2).1.cls ∈ lw_tbl := (List.forall_mem_cons.mpr ⟨⟨gt3 _ (List.mem_of_getElem? (i := 199) rfl), gt3 _ (List.mem_of_getElem? (i := 201) rfl), gt0 _ (List.mem_of_getElem? (i := 7) rfl), gt1 _ (List.mem_of_getElem? (i := 8) rfl)⟩, (List.forall_mem_cons.mpr ⟨⟨gt3 _ (List.mem_of_getElem? (i := 203) rfl), gt3 _ (List.mem_of_getElem? (i := 205) rfl), gt0 _ (List.mem_of_getElem? (i := 8) rfl), gt1 _ (List.mem_of_getElem? (i := 8) rfl)⟩, (List.forall_mem_cons.mpr ⟨⟨gt3 _ (List.mem_of_getElem? (i := 207) rfl), gt3 _ (List.mem_of_getElem? (i := 147) rfl), gt3 _ (List.mem_of_getElem? (i := 148) rfl), gt1 _ (List.mem_of_getElem? (i := 7) rfl)⟩, (List.forall_mem_cons.mpr ⟨⟨gt3 _ (List.mem_of_getElem? (i := 208) rfl), gt3 _ (List.mem_of_getElem? (i := 114) rfl), gt3 _ (List.mem_of_getElem? (i := 115) rfl), gt1 _ (List.mem_of_getElem? (i := 7) rfl)⟩, (List.forall_mem_cons.mpr ⟨⟨gt3 _ (List.mem_of_getElem? (i := 209) rfl), gt3 _ (List.mem_of_getElem? (i := 211) rfl), gt0 _ (List.mem_of_getElem? (i := 9) rfl), gt1 _ (List.mem_of_getElem? (i := 8) rfl)⟩, (List.forall_mem_cons.mpr ⟨⟨gt3 _ (List.mem_of_getElem? (i := 213) rfl), gt3 _ (List.mem_of_getElem? (i := 214) rfl), gt3 _ (List.mem_of_getElem? (i := 215) rfl), gt1 _ (List.mem_of_getElem? (i := 7) rfl)⟩, (List.forall_mem_cons.mpr ⟨⟨gt3 _ (List.mem_of_getElem? (i := 217) rfl), gt3 _ (List.mem_of_getElem? (i := 218) rfl), gt3 _ (List.mem_of_getElem? (i := 219) rfl), gt1 _ (List.mem_of_getElem? (i := 1) rfl)⟩, (List.forall_mem_cons.mpr ⟨⟨gt3 _ (List.mem_of_getElem? (i := 221) rfl), gt3 _ (List.mem_of_getElem? (i := 99) rfl), gt3 _ (List.mem_of_getElem? (i := 100) rfl), gt1 _ (List.mem_of_getElem? (i := 2) rfl)⟩, (List.forall_mem_cons.mpr ⟨⟨gt3 _ (List.mem_of_getElem? (i := 222) rfl), gt3 _ (List.mem_of_getElem? (i := 223) rfl), gt3 _ (List.mem_of_getElem? (i := 224) rfl), gt1 _ (List.mem_of_getElem? (i := 1) rfl)⟩, (List.forall_mem_cons.mpr ⟨⟨gt3 _ (List.mem_of_getElem? (i := 226) rfl), gt3 _ (List.mem_of_getElem? (i := 227) rfl), gt3 _ (List.mem_of_getElem? (i := 228) rfl), gt1 _ (List.mem_of_getElem? (i := 10) rfl)⟩, (List.forall_mem_cons.mpr ⟨⟨gt3 _ (List.mem_of_getElem? (i := 230) rfl), gt3 _ (List.mem_of_getElem? (i := 231) rfl), gt3 _ (List.mem_of_getElem? (i := 232) rfl), gt1 _ (List.mem_of_getElem? (i := 1) rfl)⟩, (List.forall_mem_cons.mpr ⟨⟨gt3 _ (List.mem_of_getElem? (i := 234) rfl), gt3 _ (List.mem_of_getElem? (i := 235) rfl), gt3 _ (List.mem_of_getElem? (i := 236) rfl), gt1 _ (List.mem_of_getElem? (i := 1) rfl)⟩, (List.forall_mem_cons.mpr ⟨⟨gt3 _ (List.mem_of_getElem? (i := 238) rfl), gt3 _ (List.mem_of_getElem? (i := 239) rfl), gt4 _ (List.mem_of_getElem? (i := 0) rfl), gt1 _ (List.mem_of_getElem? (i := 10) rfl)⟩, (List.forall_mem_cons.mpr ⟨⟨gt4 _ (List.mem_of_getElem? (i := 2) rfl), gt4 _ (List.mem_of_getElem? (i := 4) rfl), gt0 _ (List.mem_of_getElem? (i := 10) rfl), gt1 _ (List.mem_of_getElem? (i := 10) rfl)⟩, (List.forall_mem_cons.mpr ⟨⟨gt4 _ (List.mem_of_getElem? (i := 9) rfl), gt4 _ (List.mem_of_getElem? (i := 11) rfl), gt0 _ (List.mem_of_getElem? (i := 11) rfl), gt1 _ (List.mem_of_getElem? (i := 10) rfl)⟩, (List.forall_mem_cons.mpr ⟨⟨gt4 _ (List.mem_of_getElem? (i := 16) rfl), gt4 _ (List.mem_of_getElem? (i := 18) rfl), gt0 _ (List.mem_of_getElem? (i := 12) rfl), gt1 _ (List.mem_of_getElem? (i := 10) rfl)⟩, (List.forall_mem_cons.mpr ⟨⟨gt4 _ (List.mem_of_getElem? (i := 23) rfl), gt4 _ (List.mem_of_getElem? (i := 25) rfl), gt0 _ (List.mem_of_getElem? (i := 13) rfl), gt1 _ (List.mem_of_getElem? (i := 10) rfl)⟩, (List.forall_mem_cons.mpr ⟨⟨gt4 _ (List.mem_of_getElem? (i := 38) rfl), gt4 _ (List.mem_of_getElem? (i := 40) rfl), gt0 _ (List.mem_of_getElem? (i := 14) rfl), gt1 _ (List.mem_of_getElem? (i := 10) rfl)⟩, (List.forall_mem_cons.mpr ⟨⟨gt4 _ (List.mem_of_getElem? (i := 42) rfl), gt4 _ (List.mem_of_getElem? (i := 44) rfl), gt0 _ (List.mem_of_getElem? (i := 15) rfl), gt1 _ (List.mem_of_getElem? (i := 10) rfl)⟩, (List.forall_mem_cons.mpr ⟨⟨gt4 _ (List.mem_of_getElem? (i := 46) rfl), gt4 _ (List.mem_of_getElem? (i := 48) rfl), gt0 _ (List.mem_of_getElem? (i := 16) rfl), gt1 _ (List.mem_of_getElem? (i := 10) rfl)⟩, (List.forall_mem_cons.mpr ⟨⟨gt4 _ (List.mem_of_getElem? (i := 50) rfl), gt4 _ (List.mem_of_getElem? (i := 52) rfl), gt0 _ (List.mem_of_getElem? (i := 17) rfl), gt1 _ (List.mem_of_getElem? (i := 10) rfl)⟩, (List.forall_mem_cons.mpr ⟨⟨gt4 _ (List.mem_of_getElem? (i := 54) rfl), gt4 _ (List.mem_of_getElem? (i := 56) rfl), gt0 _ (List.mem_of_getElem? (i := 18) rfl), gt1 _ (List.mem_of_getElem? (i := 10) rfl)⟩, (List.forall_mem_cons.mpr ⟨⟨gt4 _ (List.mem_of_getElem? (i := 58) rfl), gt4 _ (List.mem_of_getElem? (i := 60) rfl), gt0 _ (List.mem_of_getElem? (i := 19) rfl), gt1 _ (List.mem_of_getElem? (i := 10) rfl)⟩, (List.forall_mem_cons.mpr ⟨⟨gt4 _ (List.mem_of_getElem? (i := 62) rfl), gt4 _ (List.mem_of_getElem? (i := 64) rfl), gt0 _ (List.mem_of_getElem? (i := 20) rfl), gt1 _ (List.mem_of_getElem? (i := 10) rfl)⟩, (fun _ h => absurd h List.not_mem_nil)⟩)⟩)⟩)⟩)⟩)⟩)⟩)⟩)⟩)⟩)⟩)⟩)⟩)⟩)⟩)⟩)⟩)⟩)⟩)⟩)⟩)⟩)⟩)⟩)
def gVL_3 : List (Nat × Nat × Nat) := [(9, 50, 90), (9, 115, 96), (11, 205, 15), (17, 85, 120), (17, 89, 121), (11, 216, 73), (8, 153, 75), (8, 176, 76), (8, 179, 17), (11, 219, 74), (17, 93, 122), (17, 97, 123), (17, 101, 124), (11, 231, 24), (17, 105, 125), (17, 109, 126), (17, 114, 127), (17, 118, 128), (11, 254, 72), (8, 100, 65), (17, 122, 129), (17, 126, 130), (11, 257, 65), (17, 130, 131)]
set_option maxRecDepth 100000 in
theorem gVL_3_ok : ∀ q ∈ gVL_3, Cond.methodLink (gown q.1) q.2.1 (gH q.2.2).1 ∈ lw_tbl ∧ Cond.instanceMethod (gH q.2.2).1 ∈ lw_tbl ∧ Cond.selects (gH q.2.2).1.cls (gH q.2.2).1 (gH q.2.2).1 ∈ lw_tbl ∧ Cond.initialized (gH q.2.2).1.cls ∈ lw_tbl := (List.forall_mem_cons.mpr ⟨⟨gt4 _ (List.mem_of_getElem? (i := 66) rfl), gt4 _ (List.mem_of_getElem? (i := 68) rfl), gt0 _ (List.mem_of_getElem? (i := 21) rfl), gt1 _ (List.mem_of_getElem? (i := 10) rfl)⟩, (List.forall_mem_cons.mpr ⟨⟨gt4 _ (List.mem_of_getElem? (i := 70) rfl), gt4 _ (List.mem_of_getElem? (i := 72) rfl), gt0 _ (List.mem_of_getElem? (i := 22) rfl), gt1 _ (List.mem_of_getElem? (i := 10) rfl)⟩, (List.forall_mem_cons.mpr ⟨⟨gt4 _ (List.mem_of_getElem? (i := 74) rfl), gt4 _ (List.mem_of_getElem? (i := 75) rfl), gt4 _ (List.mem_of_getElem? (i := 76) rfl), gt1 _ (List.mem_of_getElem? (i := 6) rfl)⟩, (List.forall_mem_cons.mpr ⟨⟨gt4 _ (List.mem_of_getElem? (i := 82) rfl), gt4 _ (List.mem_of_getElem? (i := 83) rfl), gt4 _ (List.mem_of_getElem? (i := 84) rfl), gt1 _ (List.mem_of_getElem? (i := 1) rfl)⟩, (List.forall_mem_cons.mpr ⟨⟨gt4 _ (List.mem_of_getElem? (i := 86) rfl), gt4 _ (List.mem_of_getElem? (i := 87) rfl), gt4 _ (List.mem_of_getElem? (i := 88) rfl), gt1 _ (List.mem_of_getElem? (i := 1) rfl)⟩, (List.forall_mem_cons.mpr ⟨⟨gt4 _ (List.mem_of_getElem? (i := 90) rfl), gt4 _ (List.mem_of_getElem? (i := 91) rfl), gt4 _ (List.mem_of_getElem? (i := 92) rfl), gt1 _ (List.mem_of_getElem? (i := 2) rfl)⟩, (List.forall_mem_cons.mpr ⟨⟨gt4 _ (List.mem_of_getElem? (i := 97) rfl), gt4 _ (List.mem_of_getElem? (i := 99) rfl), gt0 _ (List.mem_of_getElem? (i := 23) rfl), gt1 _ (List.mem_of_getElem? (i := 2) rfl)⟩, (List.forall_mem_cons.mpr ⟨⟨gt4 _ (List.mem_of_getElem? (i := 101) rfl), gt4 _ (List.mem_of_getElem? (i := 103) rfl), gt0 _ (List.mem_of_getElem? (i := 24) rfl), gt1 _ (List.mem_of_getElem? (i := 2) rfl)⟩, (List.forall_mem_cons.mpr ⟨⟨gt4 _ (List.mem_of_getElem? (i := 105) rfl), gt4 _ (List.mem_of_getElem? (i := 106) rfl), gt4 _ (List.mem_of_getElem? (i := 107) rfl), gt1 _ (List.mem_of_getElem? (i := 6) rfl)⟩, (List.forall_mem_cons.mpr ⟨⟨gt4 _ (List.mem_of_getElem? (i := 117) rfl), gt4 _ (List.mem_of_getElem? (i := 118) rfl), gt4 _ (List.mem_of_getElem? (i := 119) rfl), gt1 _ (List.mem_of_getElem? (i := 2) rfl)⟩, (List.forall_mem_cons.mpr ⟨⟨gt4 _ (List.mem_of_getElem? (i := 121) rfl), gt4 _ (List.mem_of_getElem? (i := 122) rfl), gt4 _ (List.mem_of_getElem? (i := 123) rfl), gt1 _ (List.mem_of_getElem? (i := 1) rfl)⟩, (List.forall_mem_cons.mpr ⟨⟨gt4 _ (List.mem_of_getElem? (i := 125) rfl), gt4 _ (List.mem_of_getElem? (i := 126) rfl), gt4 _ (List.mem_of_getElem? (i := 127) rfl), gt1 _ (List.mem_of_getElem? (i := 1) rfl)⟩, (List.forall_mem_cons.mpr ⟨⟨gt4 _ (List.mem_of_getElem? (i := 129) rfl), gt4 _ (List.mem_of_getElem? (i := 130) rfl), gt4 _ (List.mem_of_getElem? (i := 131) rfl), gt1 _ (List.mem_of_getElem? (i := 1) rfl)⟩, (List.forall_mem_cons.mpr ⟨⟨gt4 _ (List.mem_of_getElem? (i := 133) rfl), gt3 _ (List.mem_of_getElem? (i := 139) rfl), gt3 _ (List.mem_of_getElem? (i := 140) rfl), gt1 _ (List.mem_of_getElem? (i := 5) rfl)⟩, (List.forall_mem_cons.mpr ⟨⟨gt4 _ (List.mem_of_getElem? (i := 134) rfl), gt4 _ (List.mem_of_getElem? (i := 135) rfl), gt4 _ (List.mem_of_getElem? (i := 136) rfl), gt1 _ (List.mem_of_getElem? (i := 1) rfl)⟩, (List.forall_mem_cons.mpr ⟨⟨gt4 _ (List.mem_of_getElem? (i := 138) rfl), gt4 _ (List.mem_of_getElem? (i := 139) rfl), gt4 _ (List.mem_of_getElem? (i := 140) rfl), gt1 _ (List.mem_of_getElem? (i := 1) rfl)⟩, (List.forall_mem_cons.mpr ⟨⟨gt4 _ (List.mem_of_getElem? (i := 143) rfl), gt4 _ (List.mem_of_getElem? (i := 144) rfl), gt4 _ (List.mem_of_getElem? (i := 145) rfl), gt1 _ (List.mem_of_getElem? (i := 1) rfl)⟩, (List.forall_mem_cons.mpr ⟨⟨gt4 _ (List.mem_of_getElem? (i := 147) rfl), gt4 _ (List.mem_of_getElem? (i := 148) rfl), gt4 _ (List.mem_of_getElem? (i := 149) rfl), gt1 _ (List.mem_of_getElem? (i := 1) rfl)⟩, (List.forall_mem_cons.mpr ⟨⟨gt4 _ (List.mem_of_getElem? (i := 151) rfl), gt4 _ (List.mem_of_getElem? (i := 152) rfl), gt4 _ (List.mem_of_getElem? (i := 153) rfl), gt1 _ (List.mem_of_getElem? (i := 2) rfl)⟩, (List.forall_mem_cons.mpr ⟨⟨gt4 _ (List.mem_of_getElem? (i := 155) rfl), gt4 _ (List.mem_of_getElem? (i := 156) rfl), gt4 _ (List.mem_of_getElem? (i := 157) rfl), gt1 _ (List.mem_of_getElem? (i := 2) rfl)⟩, (List.forall_mem_cons.mpr ⟨⟨gt4 _ (List.mem_of_getElem? (i := 159) rfl), gt4 _ (List.mem_of_getElem? (i := 160) rfl), gt4 _ (List.mem_of_getElem? (i := 161) rfl), gt1 _ (List.mem_of_getElem? (i := 1) rfl)⟩, (List.forall_mem_cons.mpr ⟨⟨gt4 _ (List.mem_of_getElem? (i := 163) rfl), gt4 _ (List.mem_of_getElem? (i := 164) rfl), gt4 _ (List.mem_of_getElem? (i := 165) rfl), gt1 _ (List.mem_of_getElem? (i := 1) rfl)⟩, (List.forall_mem_cons.mpr ⟨⟨gt4 _ (List.mem_of_getElem? (i := 167) rfl), gt4 _ (List.mem_of_getElem? (i := 156) rfl), gt4 _ (List.mem_of_getElem? (i := 157) rfl), gt1 _ (List.mem_of_getElem? (i := 2) rfl)⟩, (List.forall_mem_cons.mpr ⟨⟨gt4 _ (List.mem_of_getElem? (i := 168) rfl), gt4 _ (List.mem_of_getElem? (i := 169) rfl), gt4 _ (List.mem_of_getElem? (i := 170) rfl), gt1 _ (List.mem_of_getElem? (i := 1) rfl)⟩, (fun _ h => absurd h List.not_mem_nil)⟩)⟩)⟩)⟩)⟩)⟩)⟩)⟩)⟩)⟩)⟩)⟩)⟩)⟩)⟩)⟩)⟩)⟩)⟩)⟩)⟩)⟩)⟩)⟩)
def gVL_4 : List (Nat × Nat × Nat) := [(11, 263, 66), (17, 134, 132), (11, 266, 44), (6, 28, 46), (6, 44, 47), (6, 75, 70), (6, 53, 66), (6, 57, 48), (6, 32, 50), (6, 91, 51), (6, 40, 49), (11, 269, 45), (17, 138, 133), (11, 279, 98), (17, 142, 134), (11, 283, 100), (10, 40, 101), (17, 146, 135), (17, 150, 136), (11, 295, 54), (11, 301, 148), (11, 305, 149), (11, 352, 6), (17, 154, 137)]
set_option maxRecDepth 100000 in
theorem gVL_4_ok : ∀ q ∈ gVL_4, Cond.methodLink (gown q.1) q.2.1 (gH q.2.2).1 ∈ lw_tbl ∧ Cond.instanceMethod (gH q.2.2).1 ∈ lw_tbl ∧ Cond.selects (gH q.2.2).1.cls (gH q.2.2).1 (gH q.2.2).1 ∈ lw_tbl ∧ Cond.initialized (gH q.2.2).1.cls ∈ lw_tbl := (List.forall_mem_cons.mpr ⟨⟨gt4 _ (List.mem_of_getElem? (i := 172) rfl), gt4 _ (List.mem_of_getElem? (i := 173) rfl), gt4 _ (List.mem_of_getElem? (i := 174) rfl), gt1 _ (List.mem_of_getElem? (i := 2) rfl)⟩, (List.forall_mem_cons.mpr ⟨⟨gt4 _ (List.mem_of_getElem? (i := 176) rfl), gt4 _ (List.mem_of_getElem? (i := 177) rfl), gt4 _ (List.mem_of_getElem? (i := 178) rfl), gt1 _ (List.mem_of_getElem? (i := 1) rfl)⟩, (List.forall_mem_cons.mpr ⟨⟨gt4 _ (List.mem_of_getElem? (i := 180) rfl), gt4 _ (List.mem_of_getElem? (i := 181) rfl), gt4 _ (List.mem_of_getElem? (i := 182) rfl), gt1 _ (List.mem_of_getElem? (i := 9) rfl)⟩, (List.forall_mem_cons.mpr ⟨⟨gt4 _ (List.mem_of_getElem? (i := 184) rfl), gt4 _ (List.mem_of_getElem? (i := 186) rfl), gt0 _ (List.mem_of_getElem? (i := 25) rfl), gt1 _ (List.mem_of_getElem? (i := 9) rfl)⟩, (List.forall_mem_cons.mpr ⟨⟨gt4 _ (List.mem_of_getElem? (i := 188) rfl), gt4 _ (List.mem_of_getElem? (i := 190) rfl), gt0 _ (List.mem_of_getElem? (i := 26) rfl), gt1 _ (List.mem_of_getElem? (i := 9) rfl)⟩, (List.forall_mem_cons.mpr ⟨⟨gt4 _ (List.mem_of_getElem? (i := 192) rfl), gt3 _ (List.mem_of_getElem? (i := 131) rfl), gt3 _ (List.mem_of_getElem? (i := 132) rfl), gt1 _ (List.mem_of_getElem? (i := 2) rfl)⟩, (List.forall_mem_cons.mpr ⟨⟨gt4 _ (List.mem_of_getElem? (i := 193) rfl), gt4 _ (List.mem_of_getElem? (i := 173) rfl), gt4 _ (List.mem_of_getElem? (i := 174) rfl), gt1 _ (List.mem_of_getElem? (i := 2) rfl)⟩, (List.forall_mem_cons.mpr ⟨⟨gt4 _ (List.mem_of_getElem? (i := 194) rfl), gt4 _ (List.mem_of_getElem? (i := 196) rfl), gt0 _ (List.mem_of_getElem? (i := 27) rfl), gt1 _ (List.mem_of_getElem? (i := 9) rfl)⟩, (List.forall_mem_cons.mpr ⟨⟨gt4 _ (List.mem_of_getElem? (i := 199) rfl), gt4 _ (List.mem_of_getElem? (i := 201) rfl), gt0 _ (List.mem_of_getElem? (i := 28) rfl), gt1 _ (List.mem_of_getElem? (i := 9) rfl)⟩, (List.forall_mem_cons.mpr ⟨⟨gt4 _ (List.mem_of_getElem? (i := 203) rfl), gt4 _ (List.mem_of_getElem? (i := 205) rfl), gt0 _ (List.mem_of_getElem? (i := 29) rfl), gt1 _ (List.mem_of_getElem? (i := 9) rfl)⟩, (List.forall_mem_cons.mpr ⟨⟨gt4 _ (List.mem_of_getElem? (i := 207) rfl), gt4 _ (List.mem_of_getElem? (i := 209) rfl), gt0 _ (List.mem_of_getElem? (i := 30) rfl), gt1 _ (List.mem_of_getElem? (i := 9) rfl)⟩, (List.forall_mem_cons.mpr ⟨⟨gt4 _ (List.mem_of_getElem? (i := 211) rfl), gt4 _ (List.mem_of_getElem? (i := 212) rfl), gt4 _ (List.mem_of_getElem? (i := 213) rfl), gt1 _ (List.mem_of_getElem? (i := 9) rfl)⟩, (List.forall_mem_cons.mpr ⟨⟨gt4 _ (List.mem_of_getElem? (i := 215) rfl), gt4 _ (List.mem_of_getElem? (i := 216) rfl), gt4 _ (List.mem_of_getElem? (i := 217) rfl), gt1 _ (List.mem_of_getElem? (i := 1) rfl)⟩, (List.forall_mem_cons.mpr ⟨⟨gt4 _ (List.mem_of_getElem? (i := 219) rfl), gt4 _ (List.mem_of_getElem? (i := 220) rfl), gt4 _ (List.mem_of_getElem? (i := 221) rfl), gt1 _ (List.mem_of_getElem? (i := 3) rfl)⟩, (List.forall_mem_cons.mpr ⟨⟨gt4 _ (List.mem_of_getElem? (i := 223) rfl), gt4 _ (List.mem_of_getElem? (i := 224) rfl), gt4 _ (List.mem_of_getElem? (i := 225) rfl), gt1 _ (List.mem_of_getElem? (i := 1) rfl)⟩, (List.forall_mem_cons.mpr ⟨⟨gt4 _ (List.mem_of_getElem? (i := 227) rfl), gt4 _ (List.mem_of_getElem? (i := 228) rfl), gt4 _ (List.mem_of_getElem? (i := 229) rfl), gt1 _ (List.mem_of_getElem? (i := 3) rfl)⟩, (List.forall_mem_cons.mpr ⟨⟨gt4 _ (List.mem_of_getElem? (i := 231) rfl), gt4 _ (List.mem_of_getElem? (i := 233) rfl), gt0 _ (List.mem_of_getElem? (i := 31) rfl), gt1 _ (List.mem_of_getElem? (i := 3) rfl)⟩, (List.forall_mem_cons.mpr ⟨⟨gt4 _ (List.mem_of_getElem? (i := 236) rfl), gt4 _ (List.mem_of_getElem? (i := 237) rfl), gt4 _ (List.mem_of_getElem? (i := 238) rfl), gt1 _ (List.mem_of_getElem? (i := 1) rfl)⟩, (List.forall_mem_cons.mpr ⟨⟨gt5 _ (List.mem_of_getElem? (i := 0) rfl), gt5 _ (List.mem_of_getElem? (i := 1) rfl), gt5 _ (List.mem_of_getElem? (i := 2) rfl), gt1 _ (List.mem_of_getElem? (i := 1) rfl)⟩, (List.forall_mem_cons.mpr ⟨⟨gt5 _ (List.mem_of_getElem? (i := 4) rfl), gt5 _ (List.mem_of_getElem? (i := 5) rfl), gt5 _ (List.mem_of_getElem? (i := 6) rfl), gt1 _ (List.mem_of_getElem? (i := 11) rfl)⟩, (List.forall_mem_cons.mpr ⟨⟨gt5 _ (List.mem_of_getElem? (i := 10) rfl), gt5 _ (List.mem_of_getElem? (i := 12) rfl), gt0 _ (List.mem_of_getElem? (i := 32) rfl), gt1 _ (List.mem_of_getElem? (i := 1) rfl)⟩, (List.forall_mem_cons.mpr ⟨⟨gt5 _ (List.mem_of_getElem? (i := 14) rfl), gt5 _ (List.mem_of_getElem? (i := 16) rfl), gt0 _ (List.mem_of_getElem? (i := 33) rfl), gt1 _ (List.mem_of_getElem? (i := 1) rfl)⟩, (List.forall_mem_cons.mpr ⟨⟨gt5 _ (List.mem_of_getElem? (i := 20) rfl), gt3 _ (List.mem_of_getElem? (i := 114) rfl), gt3 _ (List.mem_of_getElem? (i := 115) rfl), gt1 _ (List.mem_of_getElem? (i := 7) rfl)⟩, (List.forall_mem_cons.mpr ⟨⟨gt5 _ (List.mem_of_getElem? (i := 21) rfl), gt5 _ (List.mem_of_getElem? (i := 22) rfl), gt5 _ (List.mem_of_getElem? (i := 23) rfl), gt1 _ (List.mem_of_getElem? (i := 1) rfl)⟩, (fun _ h => absurd h List.not_mem_nil)⟩)⟩)⟩)⟩)⟩)⟩)⟩)⟩)⟩)⟩)⟩)⟩)⟩)⟩)⟩)⟩)⟩)⟩)⟩)⟩)⟩)⟩)⟩)⟩)
def gVL_5 : List (Nat × Nat × Nat) := [(17, 158, 138), (17, 162, 139), (11, 318, 53), (17, 166, 140), (11, 320, 56), (17, 170, 141), (11, 326, 55), (17, 175, 142), (11, 338, 58), (8, 62, 29), (8, 66, 22), (8, 75, 16), (8, 78, 99), (17, 179, 143), (17, 183, 144), (17, 187, 145), (11, 341, 67), (11, 344, 68), (17, 191, 146), (17, 17, 158), (12, 111, 154), (17, 22, 159), (12, 115, 155), (17, 26, 160)]
set_option maxRecDepth 100000 in
theorem gVL_5_ok : ∀ q ∈ gVL_5, Cond.methodLink (gown q.1) q.2.1 (gH q.2.2).1 ∈ lw_tbl ∧ Cond.instanceMethod (gH q.2.2).1 ∈ lw_tbl ∧ Cond.selects (gH q.2.2).1.cls (gH q.2.2).1 (gH q.2.2).1 ∈ lw_tbl ∧ Cond.initialized (gH q.2.2).1.cls ∈ lw_tbl := (List.forall_mem_cons.mpr ⟨⟨gt5 _ (List.mem_of_getElem? (i := 25) rfl), gt5 _ (List.mem_of_getElem? (i := 26) rfl), gt5 _ (List.mem_of_getElem? (i := 27) rfl), gt1 _ (List.mem_of_getElem? (i := 1) rfl)⟩, (List.forall_mem_cons.mpr ⟨⟨gt5 _ (List.mem_of_getElem? (i := 30) rfl), gt5 _ (List.mem_of_getElem? (i := 31) rfl), gt5 _ (List.mem_of_getElem? (i := 32) rfl), gt1 _ (List.mem_of_getElem? (i := 1) rfl)⟩, (List.forall_mem_cons.mpr ⟨⟨gt5 _ (List.mem_of_getElem? (i := 34) rfl), gt5 _ (List.mem_of_getElem? (i := 35) rfl), gt5 _ (List.mem_of_getElem? (i := 36) rfl), gt1 _ (List.mem_of_getElem? (i := 11) rfl)⟩, (List.forall_mem_cons.mpr ⟨⟨gt5 _ (List.mem_of_getElem? (i := 38) rfl), gt5 _ (List.mem_of_getElem? (i := 39) rfl), gt5 _ (List.mem_of_getElem? (i := 40) rfl), gt1 _ (List.mem_of_getElem? (i := 1) rfl)⟩, (List.forall_mem_cons.mpr ⟨⟨gt5 _ (List.mem_of_getElem? (i := 42) rfl), gt5 _ (List.mem_of_getElem? (i := 43) rfl), gt5 _ (List.mem_of_getElem? (i := 44) rfl), gt1 _ (List.mem_of_getElem? (i := 11) rfl)⟩, (List.forall_mem_cons.mpr ⟨⟨gt5 _ (List.mem_of_getElem? (i := 46) rfl), gt5 _ (List.mem_of_getElem? (i := 47) rfl), gt5 _ (List.mem_of_getElem? (i := 48) rfl), gt1 _ (List.mem_of_getElem? (i := 1) rfl)⟩, (List.forall_mem_cons.mpr ⟨⟨gt5 _ (List.mem_of_getElem? (i := 50) rfl), gt5 _ (List.mem_of_getElem? (i := 51) rfl), gt5 _ (List.mem_of_getElem? (i := 52) rfl), gt1 _ (List.mem_of_getElem? (i := 11) rfl)⟩, (List.forall_mem_cons.mpr ⟨⟨gt5 _ (List.mem_of_getElem? (i := 55) rfl), gt5 _ (List.mem_of_getElem? (i := 56) rfl), gt5 _ (List.mem_of_getElem? (i := 57) rfl), gt1 _ (List.mem_of_getElem? (i := 1) rfl)⟩, (List.forall_mem_cons.mpr ⟨⟨gt5 _ (List.mem_of_getElem? (i := 59) rfl), gt5 _ (List.mem_of_getElem? (i := 60) rfl), gt5 _ (List.mem_of_getElem? (i := 61) rfl), gt1 _ (List.mem_of_getElem? (i := 2) rfl)⟩, (List.forall_mem_cons.mpr ⟨⟨gt5 _ (List.mem_of_getElem? (i := 63) rfl), gt5 _ (List.mem_of_getElem? (i := 64) rfl), gt5 _ (List.mem_of_getElem? (i := 65) rfl), gt1 _ (List.mem_of_getElem? (i := 4) rfl)⟩, (List.forall_mem_cons.mpr ⟨⟨gt5 _ (List.mem_of_getElem? (i := 67) rfl), gt5 _ (List.mem_of_getElem? (i := 68) rfl), gt5 _ (List.mem_of_getElem? (i := 69) rfl), gt1 _ (List.mem_of_getElem? (i := 5) rfl)⟩, (List.forall_mem_cons.mpr ⟨⟨gt5 _ (List.mem_of_getElem? (i := 72) rfl), gt5 _ (List.mem_of_getElem? (i := 73) rfl), gt5 _ (List.mem_of_getElem? (i := 74) rfl), gt1 _ (List.mem_of_getElem? (i := 6) rfl)⟩, (List.forall_mem_cons.mpr ⟨⟨gt5 _ (List.mem_of_getElem? (i := 76) rfl), gt5 _ (List.mem_of_getElem? (i := 77) rfl), gt5 _ (List.mem_of_getElem? (i := 78) rfl), gt1 _ (List.mem_of_getElem? (i := 3) rfl)⟩, (List.forall_mem_cons.mpr ⟨⟨gt5 _ (List.mem_of_getElem? (i := 81) rfl), gt5 _ (List.mem_of_getElem? (i := 82) rfl), gt5 _ (List.mem_of_getElem? (i := 83) rfl), gt1 _ (List.mem_of_getElem? (i := 1) rfl)⟩, (List.forall_mem_cons.mpr ⟨⟨gt5 _ (List.mem_of_getElem? (i := 85) rfl), gt5 _ (List.mem_of_getElem? (i := 86) rfl), gt5 _ (List.mem_of_getElem? (i := 87) rfl), gt1 _ (List.mem_of_getElem? (i := 1) rfl)⟩, (List.forall_mem_cons.mpr ⟨⟨gt5 _ (List.mem_of_getElem? (i := 89) rfl), gt5 _ (List.mem_of_getElem? (i := 90) rfl), gt5 _ (List.mem_of_getElem? (i := 91) rfl), gt1 _ (List.mem_of_getElem? (i := 1) rfl)⟩, (List.forall_mem_cons.mpr ⟨⟨gt5 _ (List.mem_of_getElem? (i := 93) rfl), gt5 _ (List.mem_of_getElem? (i := 94) rfl), gt5 _ (List.mem_of_getElem? (i := 95) rfl), gt1 _ (List.mem_of_getElem? (i := 2) rfl)⟩, (List.forall_mem_cons.mpr ⟨⟨gt5 _ (List.mem_of_getElem? (i := 97) rfl), gt5 _ (List.mem_of_getElem? (i := 98) rfl), gt5 _ (List.mem_of_getElem? (i := 99) rfl), gt1 _ (List.mem_of_getElem? (i := 2) rfl)⟩, (List.forall_mem_cons.mpr ⟨⟨gt5 _ (List.mem_of_getElem? (i := 101) rfl), gt5 _ (List.mem_of_getElem? (i := 102) rfl), gt5 _ (List.mem_of_getElem? (i := 103) rfl), gt1 _ (List.mem_of_getElem? (i := 1) rfl)⟩, (List.forall_mem_cons.mpr ⟨⟨gt6 _ (List.mem_of_getElem? (i := 12) rfl), gt6 _ (List.mem_of_getElem? (i := 13) rfl), gt6 _ (List.mem_of_getElem? (i := 14) rfl), gt1 _ (List.mem_of_getElem? (i := 12) rfl)⟩, (List.forall_mem_cons.mpr ⟨⟨gt6 _ (List.mem_of_getElem? (i := 19) rfl), gt6 _ (List.mem_of_getElem? (i := 21) rfl), gt0 _ (List.mem_of_getElem? (i := 34) rfl), gt1 _ (List.mem_of_getElem? (i := 12) rfl)⟩, (List.forall_mem_cons.mpr ⟨⟨gt6 _ (List.mem_of_getElem? (i := 24) rfl), gt6 _ (List.mem_of_getElem? (i := 25) rfl), gt6 _ (List.mem_of_getElem? (i := 26) rfl), gt1 _ (List.mem_of_getElem? (i := 12) rfl)⟩, (List.forall_mem_cons.mpr ⟨⟨gt6 _ (List.mem_of_getElem? (i := 28) rfl), gt6 _ (List.mem_of_getElem? (i := 30) rfl), gt0 _ (List.mem_of_getElem? (i := 35) rfl), gt1 _ (List.mem_of_getElem? (i := 12) rfl)⟩, (List.forall_mem_cons.mpr ⟨⟨gt6 _ (List.mem_of_getElem? (i := 32) rfl), gt6 _ (List.mem_of_getElem? (i := 33) rfl), gt6 _ (List.mem_of_getElem? (i := 34) rfl), gt1 _ (List.mem_of_getElem? (i := 12) rfl)⟩, (fun _ h => absurd h List.not_mem_nil)⟩)⟩)⟩)⟩)⟩)⟩)⟩)⟩)⟩)⟩)⟩)⟩)⟩)⟩)⟩)⟩)⟩)⟩)⟩)⟩)⟩)⟩)⟩)⟩)
def gVL_6 : List (Nat × Nat × Nat) := [(17, 30, 163), (12, 122, 162), (17, 34, 164), (17, 38, 167), (12, 132, 156), (12, 135, 166), (12, 129, 165), (17, 42, 170), (12, 141, 169), (12, 138, 168), (17, 46, 171), (17, 50, 175), (12, 148, 174), (12, 144, 173), (17, 55, 176), (17, 59, 178), (12, 157, 177), (12, 151, 172), (17, 63, 180), (12, 160, 179), (17, 72, 182), (12, 163, 181), (17, 67, 186), (12, 173, 185)]
set_option maxRecDepth 100000 in
theorem gVL_6_ok : ∀ q ∈ gVL_6, Cond.methodLink (gown q.1) q.2.1 (gH q.2.2).1 ∈ lw_tbl ∧ Cond.instanceMethod (gH q.2.2).1 ∈ lw_tbl ∧ Cond.selects (gH q.2.2).1.cls (gH q.2.2).1 (gH q.2.2).1 ∈ lw_tbl ∧ Cond.initialized (gH q.2.2).1.cls ∈ lw_tbl := (List.forall_mem_cons.mpr ⟨⟨gt6 _ (List.mem_of_getElem? (i := 36) rfl), gt6 _ (List.mem_of_getElem? (i := 37) rfl), gt6 _ (List.mem_of_getElem? (i := 38) rfl), gt1 _ (List.mem_of_getElem? (i := 12) rfl)⟩, (List.forall_mem_cons.mpr ⟨⟨gt6 _ (List.mem_of_getElem? (i := 40) rfl), gt6 _ (List.mem_of_getElem? (i := 42) rfl), gt0 _ (List.mem_of_getElem? (i := 36) rfl), gt1 _ (List.mem_of_getElem? (i := 12) rfl)⟩, (List.forall_mem_cons.mpr ⟨⟨gt6 _ (List.mem_of_getElem? (i := 47) rfl), gt6 _ (List.mem_of_getElem? (i := 48) rfl), gt6 _ (List.mem_of_getElem? (i := 49) rfl), gt1 _ (List.mem_of_getElem? (i := 12) rfl)⟩, (List.forall_mem_cons.mpr ⟨⟨gt6 _ (List.mem_of_getElem? (i := 51) rfl), gt6 _ (List.mem_of_getElem? (i := 52) rfl), gt6 _ (List.mem_of_getElem? (i := 53) rfl), gt1 _ (List.mem_of_getElem? (i := 12) rfl)⟩, (List.forall_mem_cons.mpr ⟨⟨gt6 _ (List.mem_of_getElem? (i := 55) rfl), gt6 _ (List.mem_of_getElem? (i := 57) rfl), gt0 _ (List.mem_of_getElem? (i := 37) rfl), gt1 _ (List.mem_of_getElem? (i := 12) rfl)⟩, (List.forall_mem_cons.mpr ⟨⟨gt6 _ (List.mem_of_getElem? (i := 59) rfl), gt6 _ (List.mem_of_getElem? (i := 61) rfl), gt0 _ (List.mem_of_getElem? (i := 38) rfl), gt1 _ (List.mem_of_getElem? (i := 12) rfl)⟩, (List.forall_mem_cons.mpr ⟨⟨gt6 _ (List.mem_of_getElem? (i := 63) rfl), gt6 _ (List.mem_of_getElem? (i := 65) rfl), gt0 _ (List.mem_of_getElem? (i := 39) rfl), gt1 _ (List.mem_of_getElem? (i := 12) rfl)⟩, (List.forall_mem_cons.mpr ⟨⟨gt6 _ (List.mem_of_getElem? (i := 67) rfl), gt6 _ (List.mem_of_getElem? (i := 68) rfl), gt6 _ (List.mem_of_getElem? (i := 69) rfl), gt1 _ (List.mem_of_getElem? (i := 12) rfl)⟩, (List.forall_mem_cons.mpr ⟨⟨gt6 _ (List.mem_of_getElem? (i := 71) rfl), gt6 _ (List.mem_of_getElem? (i := 73) rfl), gt0 _ (List.mem_of_getElem? (i := 40) rfl), gt1 _ (List.mem_of_getElem? (i := 12) rfl)⟩, (List.forall_mem_cons.mpr ⟨⟨gt6 _ (List.mem_of_getElem? (i := 75) rfl), gt6 _ (List.mem_of_getElem? (i := 77) rfl), gt0 _ (List.mem_of_getElem? (i := 41) rfl), gt1 _ (List.mem_of_getElem? (i := 12) rfl)⟩, (List.forall_mem_cons.mpr ⟨⟨gt6 _ (List.mem_of_getElem? (i := 79) rfl), gt6 _ (List.mem_of_getElem? (i := 80) rfl), gt6 _ (List.mem_of_getElem? (i := 81) rfl), gt1 _ (List.mem_of_getElem? (i := 12) rfl)⟩, (List.forall_mem_cons.mpr ⟨⟨gt6 _ (List.mem_of_getElem? (i := 83) rfl), gt6 _ (List.mem_of_getElem? (i := 84) rfl), gt6 _ (List.mem_of_getElem? (i := 85) rfl), gt1 _ (List.mem_of_getElem? (i := 12) rfl)⟩, (List.forall_mem_cons.mpr ⟨⟨gt6 _ (List.mem_of_getElem? (i := 87) rfl), gt6 _ (List.mem_of_getElem? (i := 89) rfl), gt0 _ (List.mem_of_getElem? (i := 42) rfl), gt1 _ (List.mem_of_getElem? (i := 12) rfl)⟩, (List.forall_mem_cons.mpr ⟨⟨gt6 _ (List.mem_of_getElem? (i := 91) rfl), gt6 _ (List.mem_of_getElem? (i := 93) rfl), gt0 _ (List.mem_of_getElem? (i := 43) rfl), gt1 _ (List.mem_of_getElem? (i := 12) rfl)⟩, (List.forall_mem_cons.mpr ⟨⟨gt6 _ (List.mem_of_getElem? (i := 95) rfl), gt6 _ (List.mem_of_getElem? (i := 96) rfl), gt6 _ (List.mem_of_getElem? (i := 97) rfl), gt1 _ (List.mem_of_getElem? (i := 12) rfl)⟩, (List.forall_mem_cons.mpr ⟨⟨gt6 _ (List.mem_of_getElem? (i := 99) rfl), gt6 _ (List.mem_of_getElem? (i := 100) rfl), gt6 _ (List.mem_of_getElem? (i := 101) rfl), gt1 _ (List.mem_of_getElem? (i := 12) rfl)⟩, (List.forall_mem_cons.mpr ⟨⟨gt6 _ (List.mem_of_getElem? (i := 106) rfl), gt6 _ (List.mem_of_getElem? (i := 108) rfl), gt0 _ (List.mem_of_getElem? (i := 44) rfl), gt1 _ (List.mem_of_getElem? (i := 12) rfl)⟩, (List.forall_mem_cons.mpr ⟨⟨gt6 _ (List.mem_of_getElem? (i := 110) rfl), gt6 _ (List.mem_of_getElem? (i := 112) rfl), gt0 _ (List.mem_of_getElem? (i := 45) rfl), gt1 _ (List.mem_of_getElem? (i := 12) rfl)⟩, (List.forall_mem_cons.mpr ⟨⟨gt6 _ (List.mem_of_getElem? (i := 114) rfl), gt6 _ (List.mem_of_getElem? (i := 115) rfl), gt6 _ (List.mem_of_getElem? (i := 116) rfl), gt1 _ (List.mem_of_getElem? (i := 12) rfl)⟩, (List.forall_mem_cons.mpr ⟨⟨gt6 _ (List.mem_of_getElem? (i := 118) rfl), gt6 _ (List.mem_of_getElem? (i := 120) rfl), gt0 _ (List.mem_of_getElem? (i := 46) rfl), gt1 _ (List.mem_of_getElem? (i := 12) rfl)⟩, (List.forall_mem_cons.mpr ⟨⟨gt6 _ (List.mem_of_getElem? (i := 122) rfl), gt6 _ (List.mem_of_getElem? (i := 123) rfl), gt6 _ (List.mem_of_getElem? (i := 124) rfl), gt1 _ (List.mem_of_getElem? (i := 12) rfl)⟩, (List.forall_mem_cons.mpr ⟨⟨gt6 _ (List.mem_of_getElem? (i := 126) rfl), gt6 _ (List.mem_of_getElem? (i := 128) rfl), gt0 _ (List.mem_of_getElem? (i := 47) rfl), gt1 _ (List.mem_of_getElem? (i := 12) rfl)⟩, (List.forall_mem_cons.mpr ⟨⟨gt6 _ (List.mem_of_getElem? (i := 130) rfl), gt6 _ (List.mem_of_getElem? (i := 131) rfl), gt6 _ (List.mem_of_getElem? (i := 132) rfl), gt1 _ (List.mem_of_getElem? (i := 12) rfl)⟩, (List.forall_mem_cons.mpr ⟨⟨gt6 _ (List.mem_of_getElem? (i := 137) rfl), gt6 _ (List.mem_of_getElem? (i := 139) rfl), gt0 _ (List.mem_of_getElem? (i := 48) rfl), gt1 _ (List.mem_of_getElem? (i := 12) rfl)⟩, (fun _ h => absurd h List.not_mem_nil)⟩)⟩)⟩)⟩)⟩)⟩)⟩)⟩)⟩)⟩)⟩)⟩)⟩)⟩)⟩)⟩)⟩)⟩)⟩)⟩)⟩)⟩)⟩)⟩)
def gVL_7 : List (Nat × Nat × Nat) := [(12, 176, 184), (17, 76, 187), (17, 80, 188), (17, 84, 204), (12, 250, 203), (12, 240, 194), (12, 188, 189), (12, 243, 201), (12, 218, 195), (12, 231, 198), (12, 215, 196), (12, 234, 197), (12, 247, 202), (12, 237, 199), (17, 88, 205), (17, 92, 213), (12, 272, 212), (12, 263, 209), (12, 260, 207), (12, 253, 206), (12, 269, 210), (17, 96, 214), (17, 100, 215), (17, 104, 216)]
set_option maxRecDepth 100000 in
theorem gVL_7_ok : ∀ q ∈ gVL_7, Cond.methodLink (gown q.1) q.2.1 (gH q.2.2).1 ∈ lw_tbl ∧ Cond.instanceMethod (gH q.2.2).1 ∈ lw_tbl ∧ Cond.selects (gH q.2.2).1.cls (gH q.2.2).1 (gH q.2.2).1 ∈ lw_tbl ∧ Cond.initialized (gH q.2.2).1.cls ∈ lw_tbl := (List.forall_mem_cons.mpr ⟨⟨gt6 _ (List.mem_of_getElem? (i := 141) rfl), gt6 _ (List.mem_of_getElem? (i := 143) rfl), gt0 _ (List.mem_of_getElem? (i := 49) rfl), gt1 _ (List.mem_of_getElem? (i := 12) rfl)⟩, (List.forall_mem_cons.mpr ⟨⟨gt6 _ (List.mem_of_getElem? (i := 145) rfl), gt6 _ (List.mem_of_getElem? (i := 146) rfl), gt6 _ (List.mem_of_getElem? (i := 147) rfl), gt1 _ (List.mem_of_getElem? (i := 12) rfl)⟩, (List.forall_mem_cons.mpr ⟨⟨gt6 _ (List.mem_of_getElem? (i := 149) rfl), gt6 _ (List.mem_of_getElem? (i := 150) rfl), gt6 _ (List.mem_of_getElem? (i := 151) rfl), gt1 _ (List.mem_of_getElem? (i := 12) rfl)⟩, (List.forall_mem_cons.mpr ⟨⟨gt6 _ (List.mem_of_getElem? (i := 153) rfl), gt6 _ (List.mem_of_getElem? (i := 154) rfl), gt6 _ (List.mem_of_getElem? (i := 155) rfl), gt1 _ (List.mem_of_getElem? (i := 12) rfl)⟩, (List.forall_mem_cons.mpr ⟨⟨gt6 _ (List.mem_of_getElem? (i := 157) rfl), gt6 _ (List.mem_of_getElem? (i := 159) rfl), gt0 _ (List.mem_of_getElem? (i := 50) rfl), gt1 _ (List.mem_of_getElem? (i := 12) rfl)⟩, (List.forall_mem_cons.mpr ⟨⟨gt6 _ (List.mem_of_getElem? (i := 161) rfl), gt6 _ (List.mem_of_getElem? (i := 163) rfl), gt0 _ (List.mem_of_getElem? (i := 51) rfl), gt1 _ (List.mem_of_getElem? (i := 12) rfl)⟩, (List.forall_mem_cons.mpr ⟨⟨gt6 _ (List.mem_of_getElem? (i := 165) rfl), gt6 _ (List.mem_of_getElem? (i := 167) rfl), gt0 _ (List.mem_of_getElem? (i := 52) rfl), gt1 _ (List.mem_of_getElem? (i := 12) rfl)⟩, (List.forall_mem_cons.mpr ⟨⟨gt6 _ (List.mem_of_getElem? (i := 181) rfl), gt6 _ (List.mem_of_getElem? (i := 183) rfl), gt0 _ (List.mem_of_getElem? (i := 53) rfl), gt1 _ (List.mem_of_getElem? (i := 12) rfl)⟩, (List.forall_mem_cons.mpr ⟨⟨gt6 _ (List.mem_of_getElem? (i := 185) rfl), gt6 _ (List.mem_of_getElem? (i := 187) rfl), gt0 _ (List.mem_of_getElem? (i := 54) rfl), gt1 _ (List.mem_of_getElem? (i := 12) rfl)⟩, (List.forall_mem_cons.mpr ⟨⟨gt6 _ (List.mem_of_getElem? (i := 189) rfl), gt6 _ (List.mem_of_getElem? (i := 191) rfl), gt0 _ (List.mem_of_getElem? (i := 55) rfl), gt1 _ (List.mem_of_getElem? (i := 12) rfl)⟩, (List.forall_mem_cons.mpr ⟨⟨gt6 _ (List.mem_of_getElem? (i := 193) rfl), gt6 _ (List.mem_of_getElem? (i := 195) rfl), gt0 _ (List.mem_of_getElem? (i := 56) rfl), gt1 _ (List.mem_of_getElem? (i := 12) rfl)⟩, (List.forall_mem_cons.mpr ⟨⟨gt6 _ (List.mem_of_getElem? (i := 197) rfl), gt6 _ (List.mem_of_getElem? (i := 199) rfl), gt0 _ (List.mem_of_getElem? (i := 57) rfl), gt1 _ (List.mem_of_getElem? (i := 12) rfl)⟩, (List.forall_mem_cons.mpr ⟨⟨gt6 _ (List.mem_of_getElem? (i := 201) rfl), gt6 _ (List.mem_of_getElem? (i := 203) rfl), gt0 _ (List.mem_of_getElem? (i := 58) rfl), gt1 _ (List.mem_of_getElem? (i := 12) rfl)⟩, (List.forall_mem_cons.mpr ⟨⟨gt6 _ (List.mem_of_getElem? (i := 205) rfl), gt6 _ (List.mem_of_getElem? (i := 207) rfl), gt0 _ (List.mem_of_getElem? (i := 59) rfl), gt1 _ (List.mem_of_getElem? (i := 12) rfl)⟩, (List.forall_mem_cons.mpr ⟨⟨gt6 _ (List.mem_of_getElem? (i := 212) rfl), gt6 _ (List.mem_of_getElem? (i := 213) rfl), gt6 _ (List.mem_of_getElem? (i := 214) rfl), gt1 _ (List.mem_of_getElem? (i := 12) rfl)⟩, (List.forall_mem_cons.mpr ⟨⟨gt6 _ (List.mem_of_getElem? (i := 216) rfl), gt6 _ (List.mem_of_getElem? (i := 217) rfl), gt6 _ (List.mem_of_getElem? (i := 218) rfl), gt1 _ (List.mem_of_getElem? (i := 12) rfl)⟩, (List.forall_mem_cons.mpr ⟨⟨gt6 _ (List.mem_of_getElem? (i := 220) rfl), gt6 _ (List.mem_of_getElem? (i := 222) rfl), gt0 _ (List.mem_of_getElem? (i := 60) rfl), gt1 _ (List.mem_of_getElem? (i := 12) rfl)⟩, (List.forall_mem_cons.mpr ⟨⟨gt6 _ (List.mem_of_getElem? (i := 224) rfl), gt6 _ (List.mem_of_getElem? (i := 226) rfl), gt0 _ (List.mem_of_getElem? (i := 61) rfl), gt1 _ (List.mem_of_getElem? (i := 12) rfl)⟩, (List.forall_mem_cons.mpr ⟨⟨gt6 _ (List.mem_of_getElem? (i := 231) rfl), gt6 _ (List.mem_of_getElem? (i := 233) rfl), gt0 _ (List.mem_of_getElem? (i := 62) rfl), gt1 _ (List.mem_of_getElem? (i := 12) rfl)⟩, (List.forall_mem_cons.mpr ⟨⟨gt6 _ (List.mem_of_getElem? (i := 235) rfl), gt6 _ (List.mem_of_getElem? (i := 237) rfl), gt0 _ (List.mem_of_getElem? (i := 63) rfl), gt1 _ (List.mem_of_getElem? (i := 12) rfl)⟩, (List.forall_mem_cons.mpr ⟨⟨gt7 _ (List.mem_of_getElem? (i := 2) rfl), gt7 _ (List.mem_of_getElem? (i := 4) rfl), gt0 _ (List.mem_of_getElem? (i := 64) rfl), gt1 _ (List.mem_of_getElem? (i := 12) rfl)⟩, (List.forall_mem_cons.mpr ⟨⟨gt7 _ (List.mem_of_getElem? (i := 6) rfl), gt7 _ (List.mem_of_getElem? (i := 7) rfl), gt7 _ (List.mem_of_getElem? (i := 8) rfl), gt1 _ (List.mem_of_getElem? (i := 12) rfl)⟩, (List.forall_mem_cons.mpr ⟨⟨gt7 _ (List.mem_of_getElem? (i := 10) rfl), gt7 _ (List.mem_of_getElem? (i := 11) rfl), gt7 _ (List.mem_of_getElem? (i := 12) rfl), gt1 _ (List.mem_of_getElem? (i := 12) rfl)⟩, (List.forall_mem_cons.mpr ⟨⟨gt7 _ (List.mem_of_getElem? (i := 14) rfl), gt7 _ (List.mem_of_getElem? (i := 15) rfl), gt7 _ (List.mem_of_getElem? (i := 16) rfl), gt1 _ (List.mem_of_getElem? (i := 12) rfl)⟩, (fun _ h => absurd h List.not_mem_nil)⟩)⟩)⟩)⟩)⟩)⟩)⟩)⟩)⟩)⟩)⟩)⟩)⟩)⟩)⟩)⟩)⟩)⟩)⟩)⟩)⟩)⟩)⟩)⟩)
def gVL_8 : List (Nat × Nat × Nat) := [(17, 108, 217), (17, 113, 218), (17, 117, 220), (17, 121, 224), (12, 288, 223), (12, 282, 221), (12, 285, 222), (17, 125, 225), (17, 129, 226), (17, 133, 228), (12, 291, 227), (17, 137, 230), (12, 294, 229), (17, 141, 231), (17, 145, 232), (17, 149, 233), (17, 153, 234), (17, 157, 235), (17, 161, 236), (17, 165, 238), (17, 169, 239), (17, 174, 240), (17, 178, 243), (12, 310, 242)]
set_option maxRecDepth 100000 in
theorem gVL_8_ok : ∀ q ∈ gVL_8, Cond.methodLink (gown q.1) q.2.1 (gH q.2.2).1 ∈ lw_tbl ∧ Cond.instanceMethod (gH q.2.2).1 ∈ lw_tbl ∧ Cond.selects (gH q.2.2).1.cls (gH q.2.2).1 (gH q.2.2).1 ∈ lw_tbl ∧ Cond.initialized (gH q.2.2).1.cls ∈ lw_tbl := (List.forall_mem_cons.mpr ⟨⟨gt7 _ (List.mem_of_getElem? (i := 18) rfl), gt7 _ (List.mem_of_getElem? (i := 19) rfl), gt7 _ (List.mem_of_getElem? (i := 20) rfl), gt1 _ (List.mem_of_getElem? (i := 12) rfl)⟩, (List.forall_mem_cons.mpr ⟨⟨gt7 _ (List.mem_of_getElem? (i := 22) rfl), gt7 _ (List.mem_of_getElem? (i := 23) rfl), gt7 _ (List.mem_of_getElem? (i := 24) rfl), gt1 _ (List.mem_of_getElem? (i := 12) rfl)⟩, (List.forall_mem_cons.mpr ⟨⟨gt7 _ (List.mem_of_getElem? (i := 27) rfl), gt7 _ (List.mem_of_getElem? (i := 28) rfl), gt7 _ (List.mem_of_getElem? (i := 29) rfl), gt1 _ (List.mem_of_getElem? (i := 12) rfl)⟩, (List.forall_mem_cons.mpr ⟨⟨gt7 _ (List.mem_of_getElem? (i := 34) rfl), gt7 _ (List.mem_of_getElem? (i := 35) rfl), gt7 _ (List.mem_of_getElem? (i := 36) rfl), gt1 _ (List.mem_of_getElem? (i := 12) rfl)⟩, (List.forall_mem_cons.mpr ⟨⟨gt7 _ (List.mem_of_getElem? (i := 38) rfl), gt7 _ (List.mem_of_getElem? (i := 40) rfl), gt0 _ (List.mem_of_getElem? (i := 65) rfl), gt1 _ (List.mem_of_getElem? (i := 12) rfl)⟩, (List.forall_mem_cons.mpr ⟨⟨gt7 _ (List.mem_of_getElem? (i := 42) rfl), gt7 _ (List.mem_of_getElem? (i := 44) rfl), gt0 _ (List.mem_of_getElem? (i := 66) rfl), gt1 _ (List.mem_of_getElem? (i := 12) rfl)⟩, (List.forall_mem_cons.mpr ⟨⟨gt7 _ (List.mem_of_getElem? (i := 46) rfl), gt7 _ (List.mem_of_getElem? (i := 48) rfl), gt0 _ (List.mem_of_getElem? (i := 67) rfl), gt1 _ (List.mem_of_getElem? (i := 12) rfl)⟩, (List.forall_mem_cons.mpr ⟨⟨gt7 _ (List.mem_of_getElem? (i := 50) rfl), gt7 _ (List.mem_of_getElem? (i := 51) rfl), gt7 _ (List.mem_of_getElem? (i := 52) rfl), gt1 _ (List.mem_of_getElem? (i := 12) rfl)⟩, (List.forall_mem_cons.mpr ⟨⟨gt7 _ (List.mem_of_getElem? (i := 54) rfl), gt7 _ (List.mem_of_getElem? (i := 55) rfl), gt7 _ (List.mem_of_getElem? (i := 56) rfl), gt1 _ (List.mem_of_getElem? (i := 12) rfl)⟩, (List.forall_mem_cons.mpr ⟨⟨gt7 _ (List.mem_of_getElem? (i := 58) rfl), gt7 _ (List.mem_of_getElem? (i := 59) rfl), gt7 _ (List.mem_of_getElem? (i := 60) rfl), gt1 _ (List.mem_of_getElem? (i := 12) rfl)⟩, (List.forall_mem_cons.mpr ⟨⟨gt7 _ (List.mem_of_getElem? (i := 62) rfl), gt7 _ (List.mem_of_getElem? (i := 64) rfl), gt0 _ (List.mem_of_getElem? (i := 68) rfl), gt1 _ (List.mem_of_getElem? (i := 12) rfl)⟩, (List.forall_mem_cons.mpr ⟨⟨gt7 _ (List.mem_of_getElem? (i := 66) rfl), gt7 _ (List.mem_of_getElem? (i := 67) rfl), gt7 _ (List.mem_of_getElem? (i := 68) rfl), gt1 _ (List.mem_of_getElem? (i := 12) rfl)⟩, (List.forall_mem_cons.mpr ⟨⟨gt7 _ (List.mem_of_getElem? (i := 70) rfl), gt7 _ (List.mem_of_getElem? (i := 72) rfl), gt0 _ (List.mem_of_getElem? (i := 69) rfl), gt1 _ (List.mem_of_getElem? (i := 12) rfl)⟩, (List.forall_mem_cons.mpr ⟨⟨gt7 _ (List.mem_of_getElem? (i := 74) rfl), gt7 _ (List.mem_of_getElem? (i := 75) rfl), gt7 _ (List.mem_of_getElem? (i := 76) rfl), gt1 _ (List.mem_of_getElem? (i := 12) rfl)⟩, (List.forall_mem_cons.mpr ⟨⟨gt7 _ (List.mem_of_getElem? (i := 78) rfl), gt7 _ (List.mem_of_getElem? (i := 79) rfl), gt7 _ (List.mem_of_getElem? (i := 80) rfl), gt1 _ (List.mem_of_getElem? (i := 12) rfl)⟩, (List.forall_mem_cons.mpr ⟨⟨gt7 _ (List.mem_of_getElem? (i := 82) rfl), gt7 _ (List.mem_of_getElem? (i := 83) rfl), gt7 _ (List.mem_of_getElem? (i := 84) rfl), gt1 _ (List.mem_of_getElem? (i := 12) rfl)⟩, (List.forall_mem_cons.mpr ⟨⟨gt7 _ (List.mem_of_getElem? (i := 86) rfl), gt7 _ (List.mem_of_getElem? (i := 87) rfl), gt7 _ (List.mem_of_getElem? (i := 88) rfl), gt1 _ (List.mem_of_getElem? (i := 12) rfl)⟩, (List.forall_mem_cons.mpr ⟨⟨gt7 _ (List.mem_of_getElem? (i := 93) rfl), gt7 _ (List.mem_of_getElem? (i := 94) rfl), gt7 _ (List.mem_of_getElem? (i := 95) rfl), gt1 _ (List.mem_of_getElem? (i := 12) rfl)⟩, (List.forall_mem_cons.mpr ⟨⟨gt7 _ (List.mem_of_getElem? (i := 97) rfl), gt7 _ (List.mem_of_getElem? (i := 98) rfl), gt7 _ (List.mem_of_getElem? (i := 99) rfl), gt1 _ (List.mem_of_getElem? (i := 12) rfl)⟩, (List.forall_mem_cons.mpr ⟨⟨gt7 _ (List.mem_of_getElem? (i := 101) rfl), gt7 _ (List.mem_of_getElem? (i := 102) rfl), gt7 _ (List.mem_of_getElem? (i := 103) rfl), gt1 _ (List.mem_of_getElem? (i := 12) rfl)⟩, (List.forall_mem_cons.mpr ⟨⟨gt7 _ (List.mem_of_getElem? (i := 105) rfl), gt7 _ (List.mem_of_getElem? (i := 106) rfl), gt7 _ (List.mem_of_getElem? (i := 107) rfl), gt1 _ (List.mem_of_getElem? (i := 12) rfl)⟩, (List.forall_mem_cons.mpr ⟨⟨gt7 _ (List.mem_of_getElem? (i := 109) rfl), gt7 _ (List.mem_of_getElem? (i := 110) rfl), gt7 _ (List.mem_of_getElem? (i := 111) rfl), gt1 _ (List.mem_of_getElem? (i := 12) rfl)⟩, (List.forall_mem_cons.mpr ⟨⟨gt7 _ (List.mem_of_getElem? (i := 113) rfl), gt7 _ (List.mem_of_getElem? (i := 114) rfl), gt7 _ (List.mem_of_getElem? (i := 115) rfl), gt1 _ (List.mem_of_getElem? (i := 12) rfl)⟩, (List.forall_mem_cons.mpr ⟨⟨gt7 _ (List.mem_of_getElem? (i := 117) rfl), gt7 _ (List.mem_of_getElem? (i := 119) rfl), gt0 _ (List.mem_of_getElem? (i := 70) rfl), gt1 _ (List.mem_of_getElem? (i := 12) rfl)⟩, (fun _ h => absurd h List.not_mem_nil)⟩)⟩)⟩)⟩)⟩)⟩)⟩)⟩)⟩)⟩)⟩)⟩)⟩)⟩)⟩)⟩)⟩)⟩)⟩)⟩)⟩)⟩)⟩)⟩)
def gVL_9 : List (Nat × Nat × Nat) := [(12, 306, 241), (17, 182, 244), (17, 186, 245), (17, 190, 246), (17, 194, 247)]
set_option maxRecDepth 100000 in
theorem gVL_9_ok : ∀ q ∈ gVL_9, Cond.methodLink (gown q.1) q.2.1 (gH q.2.2).1 ∈ lw_tbl ∧ Cond.instanceMethod (gH q.2.2).1 ∈ lw_tbl ∧ Cond.selects (gH q.2.2).1.cls (gH q.2.2).1 (gH q.2.2).1 ∈ lw_tbl ∧ Cond.initialized (gH q.2.2).1.cls ∈ lw_tbl := (List.forall_mem_cons.mpr ⟨⟨gt7 _ (List.mem_of_getElem? (i := 121) rfl), gt7 _ (List.mem_of_getElem? (i := 123) rfl), gt0 _ (List.mem_of_getElem? (i := 71) rfl), gt1 _ (List.mem_of_getElem? (i := 12) rfl)⟩, (List.forall_mem_cons.mpr ⟨⟨gt7 _ (List.mem_of_getElem? (i := 125) rfl), gt7 _ (List.mem_of_getElem? (i := 126) rfl), gt7 _ (List.mem_of_getElem? (i := 127) rfl), gt1 _ (List.mem_of_getElem? (i := 12) rfl)⟩, (List.forall_mem_cons.mpr ⟨⟨gt7 _ (List.mem_of_getElem? (i := 129) rfl), gt7 _ (List.mem_of_getElem? (i := 130) rfl), gt7 _ (List.mem_of_getElem? (i := 131) rfl), gt1 _ (List.mem_of_getElem? (i := 12) rfl)⟩, (List.forall_mem_cons.mpr ⟨⟨gt7 _ (List.mem_of_getElem? (i := 133) rfl), gt7 _ (List.mem_of_getElem? (i := 134) rfl), gt7 _ (List.mem_of_getElem? (i := 135) rfl), gt1 _ (List.mem_of_getElem? (i := 12) rfl)⟩, (List.forall_mem_cons.mpr ⟨⟨gt7 _ (List.mem_of_getElem? (i := 137) rfl), gt7 _ (List.mem_of_getElem? (i := 138) rfl), gt7 _ (List.mem_of_getElem? (i := 139) rfl), gt1 _ (List.mem_of_getElem? (i := 12) rfl)⟩, (fun _ h => absurd h List.not_mem_nil)⟩)⟩)⟩)⟩)⟩)
def gVL : List (Nat × Nat × Nat) := gVL_0 ++ (gVL_1 ++ (gVL_2 ++ (gVL_3 ++ (gVL_4 ++ (gVL_5 ++ (gVL_6 ++ (gVL_7 ++ (gVL_8 ++ (gVL_9)))))))))
theorem gVL_ok : ∀ q ∈ gVL, Cond.methodLink (gown q.1) q.2.1 (gH q.2.2).1 ∈ lw_tbl ∧ Cond.instanceMethod (gH q.2.2).1 ∈ lw_tbl ∧ Cond.selects (gH q.2.2).1.cls (gH q.2.2).1 (gH q.2.2).1 ∈ lw_tbl ∧ Cond.initialized (gH q.2.2).1.cls ∈ lw_tbl := by
  intro q hq
  simp only [gVL, List.mem_append] at hq
  rcases hq with hq | hq | hq | hq | hq | hq | hq | hq | hq | hq
  · exact gVL_0_ok q hq
  · exact gVL_1_ok q hq
  · exact gVL_2_ok q hq
  · exact gVL_3_ok q hq
  · exact gVL_4_ok q hq
  · exact gVL_5_ok q hq
  · exact gVL_6_ok q hq
  · exact gVL_7_ok q hq
  · exact gVL_8_ok q hq
  · exact gVL_9_ok q hq
def gSL_0 : List (Nat × Nat × Nat) := [(11, 66, 150), (8, 109, 250), (11, 104, 151), (3, 30, 1), (0, 18, 3), (3, 39, 2), (11, 128, 10), (1, 15, 11), (1, 25, 9), (1, 29, 12), (0, 24, 249), (11, 170, 248), (5, 93, 10), (9, 57, 85), (9, 83, 252), (9, 64, 86), (9, 86, 84), (9, 70, 87), (9, 77, 251), (2, 22, 252), (8, 147, 13), (2, 38, 18), (2, 42, 19), (8, 157, 252)]
set_option maxRecDepth 100000 in
theorem gSL_0_ok : ∀ q ∈ gSL_0, Cond.methodLink (gown q.1) q.2.1 (gH q.2.2).1 ∈ lw_tbl ∧ Cond.static (gH q.2.2).1 ∈ lw_tbl ∧ Cond.initialized (gH q.2.2).1.cls ∈ lw_tbl := (List.forall_mem_cons.mpr ⟨⟨gt2 _ (List.mem_of_getElem? (i := 218) rfl), gt2 _ (List.mem_of_getElem? (i := 219) rfl), gt1 _ (List.mem_of_getElem? (i := 1) rfl)⟩, (List.forall_mem_cons.mpr ⟨⟨gt3 _ (List.mem_of_getElem? (i := 15) rfl), gt3 _ (List.mem_of_getElem? (i := 16) rfl), gt1 _ (List.mem_of_getElem? (i := 13) rfl)⟩, (List.forall_mem_cons.mpr ⟨⟨gt3 _ (List.mem_of_getElem? (i := 22) rfl), gt3 _ (List.mem_of_getElem? (i := 23) rfl), gt1 _ (List.mem_of_getElem? (i := 1) rfl)⟩, (List.forall_mem_cons.mpr ⟨⟨gt3 _ (List.mem_of_getElem? (i := 29) rfl), gt3 _ (List.mem_of_getElem? (i := 30) rfl), gt1 _ (List.mem_of_getElem? (i := 7) rfl)⟩, (List.forall_mem_cons.mpr ⟨⟨gt3 _ (List.mem_of_getElem? (i := 32) rfl), gt3 _ (List.mem_of_getElem? (i := 33) rfl), gt1 _ (List.mem_of_getElem? (i := 7) rfl)⟩, (List.forall_mem_cons.mpr ⟨⟨gt3 _ (List.mem_of_getElem? (i := 36) rfl), gt3 _ (List.mem_of_getElem? (i := 37) rfl), gt1 _ (List.mem_of_getElem? (i := 7) rfl)⟩, (List.forall_mem_cons.mpr ⟨⟨gt3 _ (List.mem_of_getElem? (i := 59) rfl), gt3 _ (List.mem_of_getElem? (i := 60) rfl), gt1 _ (List.mem_of_getElem? (i := 14) rfl)⟩, (List.forall_mem_cons.mpr ⟨⟨gt3 _ (List.mem_of_getElem? (i := 62) rfl), gt3 _ (List.mem_of_getElem? (i := 63) rfl), gt1 _ (List.mem_of_getElem? (i := 14) rfl)⟩, (List.forall_mem_cons.mpr ⟨⟨gt3 _ (List.mem_of_getElem? (i := 73) rfl), gt3 _ (List.mem_of_getElem? (i := 74) rfl), gt1 _ (List.mem_of_getElem? (i := 14) rfl)⟩, (List.forall_mem_cons.mpr ⟨⟨gt3 _ (List.mem_of_getElem? (i := 78) rfl), gt3 _ (List.mem_of_getElem? (i := 79) rfl), gt1 _ (List.mem_of_getElem? (i := 14) rfl)⟩, (List.forall_mem_cons.mpr ⟨⟨gt3 _ (List.mem_of_getElem? (i := 150) rfl), gt3 _ (List.mem_of_getElem? (i := 151) rfl), gt1 _ (List.mem_of_getElem? (i := 15) rfl)⟩, (List.forall_mem_cons.mpr ⟨⟨gt3 _ (List.mem_of_getElem? (i := 160) rfl), gt3 _ (List.mem_of_getElem? (i := 161) rfl), gt1 _ (List.mem_of_getElem? (i := 16) rfl)⟩, (List.forall_mem_cons.mpr ⟨⟨gt3 _ (List.mem_of_getElem? (i := 179) rfl), gt3 _ (List.mem_of_getElem? (i := 60) rfl), gt1 _ (List.mem_of_getElem? (i := 14) rfl)⟩, (List.forall_mem_cons.mpr ⟨⟨gt4 _ (List.mem_of_getElem? (i := 6) rfl), gt4 _ (List.mem_of_getElem? (i := 7) rfl), gt1 _ (List.mem_of_getElem? (i := 10) rfl)⟩, (List.forall_mem_cons.mpr ⟨⟨gt4 _ (List.mem_of_getElem? (i := 13) rfl), gt4 _ (List.mem_of_getElem? (i := 14) rfl), gt1 _ (List.mem_of_getElem? (i := 13) rfl)⟩, (List.forall_mem_cons.mpr ⟨⟨gt4 _ (List.mem_of_getElem? (i := 20) rfl), gt4 _ (List.mem_of_getElem? (i := 21) rfl), gt1 _ (List.mem_of_getElem? (i := 10) rfl)⟩, (List.forall_mem_cons.mpr ⟨⟨gt4 _ (List.mem_of_getElem? (i := 27) rfl), gt4 _ (List.mem_of_getElem? (i := 28) rfl), gt1 _ (List.mem_of_getElem? (i := 10) rfl)⟩, (List.forall_mem_cons.mpr ⟨⟨gt4 _ (List.mem_of_getElem? (i := 32) rfl), gt4 _ (List.mem_of_getElem? (i := 33) rfl), gt1 _ (List.mem_of_getElem? (i := 10) rfl)⟩, (List.forall_mem_cons.mpr ⟨⟨gt4 _ (List.mem_of_getElem? (i := 35) rfl), gt4 _ (List.mem_of_getElem? (i := 36) rfl), gt1 _ (List.mem_of_getElem? (i := 13) rfl)⟩, (List.forall_mem_cons.mpr ⟨⟨gt4 _ (List.mem_of_getElem? (i := 78) rfl), gt4 _ (List.mem_of_getElem? (i := 14) rfl), gt1 _ (List.mem_of_getElem? (i := 13) rfl)⟩, (List.forall_mem_cons.mpr ⟨⟨gt4 _ (List.mem_of_getElem? (i := 94) rfl), gt4 _ (List.mem_of_getElem? (i := 95) rfl), gt1 _ (List.mem_of_getElem? (i := 14) rfl)⟩, (List.forall_mem_cons.mpr ⟨⟨gt4 _ (List.mem_of_getElem? (i := 109) rfl), gt4 _ (List.mem_of_getElem? (i := 110) rfl), gt1 _ (List.mem_of_getElem? (i := 6) rfl)⟩, (List.forall_mem_cons.mpr ⟨⟨gt4 _ (List.mem_of_getElem? (i := 112) rfl), gt4 _ (List.mem_of_getElem? (i := 113) rfl), gt1 _ (List.mem_of_getElem? (i := 6) rfl)⟩, (List.forall_mem_cons.mpr ⟨⟨gt4 _ (List.mem_of_getElem? (i := 115) rfl), gt4 _ (List.mem_of_getElem? (i := 14) rfl), gt1 _ (List.mem_of_getElem? (i := 13) rfl)⟩, (fun _ h => absurd h List.not_mem_nil)⟩)⟩)⟩)⟩)⟩)⟩)⟩)⟩)⟩)⟩)⟩)⟩)⟩)⟩)⟩)⟩)⟩)⟩)⟩)⟩)⟩)⟩)⟩)⟩)
def gSL_1 : List (Nat × Nat × Nat) := [(8, 161, 251), (6, 82, 10), (10, 44, 251), (11, 347, 1), (11, 350, 2), (11, 315, 9), (12, 104, 153), (12, 119, 161), (12, 154, 157), (12, 170, 183), (12, 194, 190), (12, 200, 192), (12, 203, 191), (12, 206, 193), (12, 225, 200), (12, 256, 208), (12, 266, 211), (12, 279, 219), (12, 300, 237)]
set_option maxRecDepth 100000 in
theorem gSL_1_ok : ∀ q ∈ gSL_1, Cond.methodLink (gown q.1) q.2.1 (gH q.2.2).1 ∈ lw_tbl ∧ Cond.static (gH q.2.2).1 ∈ lw_tbl ∧ Cond.initialized (gH q.2.2).1.cls ∈ lw_tbl := (List.forall_mem_cons.mpr ⟨⟨gt4 _ (List.mem_of_getElem? (i := 116) rfl), gt4 _ (List.mem_of_getElem? (i := 36) rfl), gt1 _ (List.mem_of_getElem? (i := 13) rfl)⟩, (List.forall_mem_cons.mpr ⟨⟨gt4 _ (List.mem_of_getElem? (i := 198) rfl), gt3 _ (List.mem_of_getElem? (i := 60) rfl), gt1 _ (List.mem_of_getElem? (i := 14) rfl)⟩, (List.forall_mem_cons.mpr ⟨⟨gt4 _ (List.mem_of_getElem? (i := 235) rfl), gt4 _ (List.mem_of_getElem? (i := 36) rfl), gt1 _ (List.mem_of_getElem? (i := 13) rfl)⟩, (List.forall_mem_cons.mpr ⟨⟨gt5 _ (List.mem_of_getElem? (i := 18) rfl), gt3 _ (List.mem_of_getElem? (i := 30) rfl), gt1 _ (List.mem_of_getElem? (i := 7) rfl)⟩, (List.forall_mem_cons.mpr ⟨⟨gt5 _ (List.mem_of_getElem? (i := 19) rfl), gt3 _ (List.mem_of_getElem? (i := 37) rfl), gt1 _ (List.mem_of_getElem? (i := 7) rfl)⟩, (List.forall_mem_cons.mpr ⟨⟨gt5 _ (List.mem_of_getElem? (i := 29) rfl), gt3 _ (List.mem_of_getElem? (i := 74) rfl), gt1 _ (List.mem_of_getElem? (i := 14) rfl)⟩, (List.forall_mem_cons.mpr ⟨⟨gt6 _ (List.mem_of_getElem? (i := 16) rfl), gt6 _ (List.mem_of_getElem? (i := 17) rfl), gt1 _ (List.mem_of_getElem? (i := 12) rfl)⟩, (List.forall_mem_cons.mpr ⟨⟨gt6 _ (List.mem_of_getElem? (i := 44) rfl), gt6 _ (List.mem_of_getElem? (i := 45) rfl), gt1 _ (List.mem_of_getElem? (i := 12) rfl)⟩, (List.forall_mem_cons.mpr ⟨⟨gt6 _ (List.mem_of_getElem? (i := 103) rfl), gt6 _ (List.mem_of_getElem? (i := 104) rfl), gt1 _ (List.mem_of_getElem? (i := 12) rfl)⟩, (List.forall_mem_cons.mpr ⟨⟨gt6 _ (List.mem_of_getElem? (i := 134) rfl), gt6 _ (List.mem_of_getElem? (i := 135) rfl), gt1 _ (List.mem_of_getElem? (i := 12) rfl)⟩, (List.forall_mem_cons.mpr ⟨⟨gt6 _ (List.mem_of_getElem? (i := 169) rfl), gt6 _ (List.mem_of_getElem? (i := 170) rfl), gt1 _ (List.mem_of_getElem? (i := 12) rfl)⟩, (List.forall_mem_cons.mpr ⟨⟨gt6 _ (List.mem_of_getElem? (i := 172) rfl), gt6 _ (List.mem_of_getElem? (i := 173) rfl), gt1 _ (List.mem_of_getElem? (i := 12) rfl)⟩, (List.forall_mem_cons.mpr ⟨⟨gt6 _ (List.mem_of_getElem? (i := 175) rfl), gt6 _ (List.mem_of_getElem? (i := 176) rfl), gt1 _ (List.mem_of_getElem? (i := 12) rfl)⟩, (List.forall_mem_cons.mpr ⟨⟨gt6 _ (List.mem_of_getElem? (i := 178) rfl), gt6 _ (List.mem_of_getElem? (i := 179) rfl), gt1 _ (List.mem_of_getElem? (i := 12) rfl)⟩, (List.forall_mem_cons.mpr ⟨⟨gt6 _ (List.mem_of_getElem? (i := 209) rfl), gt6 _ (List.mem_of_getElem? (i := 210) rfl), gt1 _ (List.mem_of_getElem? (i := 12) rfl)⟩, (List.forall_mem_cons.mpr ⟨⟨gt6 _ (List.mem_of_getElem? (i := 228) rfl), gt6 _ (List.mem_of_getElem? (i := 229) rfl), gt1 _ (List.mem_of_getElem? (i := 12) rfl)⟩, (List.forall_mem_cons.mpr ⟨⟨gt6 _ (List.mem_of_getElem? (i := 239) rfl), gt7 _ (List.mem_of_getElem? (i := 0) rfl), gt1 _ (List.mem_of_getElem? (i := 12) rfl)⟩, (List.forall_mem_cons.mpr ⟨⟨gt7 _ (List.mem_of_getElem? (i := 31) rfl), gt7 _ (List.mem_of_getElem? (i := 32) rfl), gt1 _ (List.mem_of_getElem? (i := 12) rfl)⟩, (List.forall_mem_cons.mpr ⟨⟨gt7 _ (List.mem_of_getElem? (i := 90) rfl), gt7 _ (List.mem_of_getElem? (i := 91) rfl), gt1 _ (List.mem_of_getElem? (i := 12) rfl)⟩, (fun _ h => absurd h List.not_mem_nil)⟩)⟩)⟩)⟩)⟩)⟩)⟩)⟩)⟩)⟩)⟩)⟩)⟩)⟩)⟩)⟩)⟩)⟩)⟩)
def gSL : List (Nat × Nat × Nat) := gSL_0 ++ (gSL_1)
theorem gSL_ok : ∀ q ∈ gSL, Cond.methodLink (gown q.1) q.2.1 (gH q.2.2).1 ∈ lw_tbl ∧ Cond.static (gH q.2.2).1 ∈ lw_tbl ∧ Cond.initialized (gH q.2.2).1.cls ∈ lw_tbl := by
  intro q hq
  simp only [gSL, List.mem_append] at hq
  rcases hq with hq | hq
  · exact gSL_0_ok q hq
  · exact gSL_1_ok q hq
def gIL_0 : List (Nat × Nat × Nat) := [(17, 9, 102), (11, 11, 57), (11, 28, 32), (11, 37, 43), (17, 12, 152)]
set_option maxRecDepth 100000 in
theorem gIL_0_ok : ∀ q ∈ gIL_0, Cond.methodLink (gown q.1) q.2.1 (gH q.2.2).1 ∈ lw_tbl ∧ Cond.instanceMethod (gH q.2.2).1 ∈ lw_tbl ∧ Cond.initialized (gH q.2.2).1.cls ∈ lw_tbl := (List.forall_mem_cons.mpr ⟨⟨gt1 _ (List.mem_of_getElem? (i := 20) rfl), gt1 _ (List.mem_of_getElem? (i := 21) rfl), gt1 _ (List.mem_of_getElem? (i := 1) rfl)⟩, (List.forall_mem_cons.mpr ⟨⟨gt1 _ (List.mem_of_getElem? (i := 28) rfl), gt1 _ (List.mem_of_getElem? (i := 29) rfl), gt1 _ (List.mem_of_getElem? (i := 2) rfl)⟩, (List.forall_mem_cons.mpr ⟨⟨gt2 _ (List.mem_of_getElem? (i := 44) rfl), gt2 _ (List.mem_of_getElem? (i := 45) rfl), gt1 _ (List.mem_of_getElem? (i := 8) rfl)⟩, (List.forall_mem_cons.mpr ⟨⟨gt2 _ (List.mem_of_getElem? (i := 95) rfl), gt2 _ (List.mem_of_getElem? (i := 96) rfl), gt1 _ (List.mem_of_getElem? (i := 9) rfl)⟩, (List.forall_mem_cons.mpr ⟨⟨gt5 _ (List.mem_of_getElem? (i := 107) rfl), gt5 _ (List.mem_of_getElem? (i := 108) rfl), gt1 _ (List.mem_of_getElem? (i := 12) rfl)⟩, (fun _ h => absurd h List.not_mem_nil)⟩)⟩)⟩)⟩)⟩)
def gIL : List (Nat × Nat × Nat) := gIL_0
theorem gIL_ok : ∀ q ∈ gIL, Cond.methodLink (gown q.1) q.2.1 (gH q.2.2).1 ∈ lw_tbl ∧ Cond.instanceMethod (gH q.2.2).1 ∈ lw_tbl ∧ Cond.initialized (gH q.2.2).1.cls ∈ lw_tbl := gIL_0_ok
def gNL_0 : List (Nat × Nat × Nat) := [(8, 38, 97), (8, 46, 27), (8, 47, 20), (8, 48, 14), (11, 21, 0), (11, 46, 77), (11, 57, 52)]
set_option maxRecDepth 100000 in
theorem gNL_0_ok : ∀ q ∈ gNL_0, Cond.methodLinkNest (gown q.1) q.2.1 (gH q.2.2).1 "FieldPitches" ∈ lw_tbl ∧ Cond.instanceMethod (gH q.2.2).1 ∈ lw_tbl ∧ Cond.initialized (gH q.2.2).1.cls ∈ lw_tbl := (List.forall_mem_cons.mpr ⟨⟨gt1 _ (List.mem_of_getElem? (i := 40) rfl), gt1 _ (List.mem_of_getElem? (i := 41) rfl), gt1 _ (List.mem_of_getElem? (i := 3) rfl)⟩, (List.forall_mem_cons.mpr ⟨⟨gt1 _ (List.mem_of_getElem? (i := 72) rfl), gt1 _ (List.mem_of_getElem? (i := 73) rfl), gt1 _ (List.mem_of_getElem? (i := 4) rfl)⟩, (List.forall_mem_cons.mpr ⟨⟨gt1 _ (List.mem_of_getElem? (i := 120) rfl), gt1 _ (List.mem_of_getElem? (i := 121) rfl), gt1 _ (List.mem_of_getElem? (i := 5) rfl)⟩, (List.forall_mem_cons.mpr ⟨⟨gt1 _ (List.mem_of_getElem? (i := 196) rfl), gt1 _ (List.mem_of_getElem? (i := 197) rfl), gt1 _ (List.mem_of_getElem? (i := 6) rfl)⟩, (List.forall_mem_cons.mpr ⟨⟨gt2 _ (List.mem_of_getElem? (i := 30) rfl), gt2 _ (List.mem_of_getElem? (i := 31) rfl), gt1 _ (List.mem_of_getElem? (i := 7) rfl)⟩, (List.forall_mem_cons.mpr ⟨⟨gt2 _ (List.mem_of_getElem? (i := 123) rfl), gt2 _ (List.mem_of_getElem? (i := 124) rfl), gt1 _ (List.mem_of_getElem? (i := 10) rfl)⟩, (List.forall_mem_cons.mpr ⟨⟨gt2 _ (List.mem_of_getElem? (i := 169) rfl), gt2 _ (List.mem_of_getElem? (i := 170) rfl), gt1 _ (List.mem_of_getElem? (i := 11) rfl)⟩, (fun _ h => absurd h List.not_mem_nil)⟩)⟩)⟩)⟩)⟩)⟩)⟩)
def gNL : List (Nat × Nat × Nat) := gNL_0
theorem gNL_ok : ∀ q ∈ gNL, Cond.methodLinkNest (gown q.1) q.2.1 (gH q.2.2).1 "FieldPitches" ∈ lw_tbl ∧ Cond.instanceMethod (gH q.2.2).1 ∈ lw_tbl ∧ Cond.initialized (gH q.2.2).1.cls ∈ lw_tbl := gNL_0_ok
def gOL_0 : List (Nat × Nat) := [(11, 3), (8, 3), (10, 3), (4, 1), (3, 3), (2, 5), (0, 3), (5, 3), (6, 3), (9, 3), (7, 3), (12, 1)]
set_option maxRecDepth 100000 in
theorem gOL_0_ok : ∀ q ∈ gOL_0, Cond.methodLink (gown q.1) q.2 Lib.objectInit ∈ lw_tbl := (List.forall_mem_cons.mpr ⟨gt1 _ (List.mem_of_getElem? (i := 23) rfl), (List.forall_mem_cons.mpr ⟨gt1 _ (List.mem_of_getElem? (i := 31) rfl), (List.forall_mem_cons.mpr ⟨gt1 _ (List.mem_of_getElem? (i := 43) rfl), (List.forall_mem_cons.mpr ⟨gt1 _ (List.mem_of_getElem? (i := 75) rfl), (List.forall_mem_cons.mpr ⟨gt1 _ (List.mem_of_getElem? (i := 123) rfl), (List.forall_mem_cons.mpr ⟨gt1 _ (List.mem_of_getElem? (i := 199) rfl), (List.forall_mem_cons.mpr ⟨gt2 _ (List.mem_of_getElem? (i := 33) rfl), (List.forall_mem_cons.mpr ⟨gt2 _ (List.mem_of_getElem? (i := 47) rfl), (List.forall_mem_cons.mpr ⟨gt2 _ (List.mem_of_getElem? (i := 98) rfl), (List.forall_mem_cons.mpr ⟨gt2 _ (List.mem_of_getElem? (i := 126) rfl), (List.forall_mem_cons.mpr ⟨gt2 _ (List.mem_of_getElem? (i := 172) rfl), (List.forall_mem_cons.mpr ⟨gt5 _ (List.mem_of_getElem? (i := 110) rfl), (fun _ h => absurd h List.not_mem_nil)⟩)⟩)⟩)⟩)⟩)⟩)⟩)⟩)⟩)⟩)⟩)⟩)
def gOL : List (Nat × Nat) := gOL_0
theorem gOL_ok : ∀ q ∈ gOL, Cond.methodLink (gown q.1) q.2 Lib.objectInit ∈ lw_tbl := gOL_0_ok
def gAL_0 : List (Nat × Nat) := [(2, 32), (11, 332), (8, 69), (10, 25)]
set_option maxRecDepth 100000 in
theorem gAL_0_ok : ∀ q ∈ gAL_0, Cond.methodLink (gown q.1) q.2 arraycopyName ∈ lw_tbl := (List.forall_mem_cons.mpr ⟨gt4 _ (List.mem_of_getElem? (i := 79) rfl), (List.forall_mem_cons.mpr ⟨gt5 _ (List.mem_of_getElem? (i := 54) rfl), (List.forall_mem_cons.mpr ⟨gt5 _ (List.mem_of_getElem? (i := 71) rfl), (List.forall_mem_cons.mpr ⟨gt5 _ (List.mem_of_getElem? (i := 80) rfl), (fun _ h => absurd h List.not_mem_nil)⟩)⟩)⟩)⟩)
def gAL : List (Nat × Nat) := gAL_0
theorem gAL_ok : ∀ q ∈ gAL, Cond.methodLink (gown q.1) q.2 arraycopyName ∈ lw_tbl := gAL_0_ok
theorem gO_inst : Cond.instanceMethod Lib.objectInit ∈ lw_tbl := gt1 _ (List.mem_of_getElem? (i := 24) rfl)
theorem gO_code : Cond.code Lib.objectInit ⟨#[0xb1]⟩ 1 none ∈ lw_tbl := gt1 _ (List.mem_of_getElem? (i := 25) rfl)
theorem gA_nat : Cond.native arraycopyName ∈ lw_tbl := gt4 _ (List.mem_of_getElem? (i := 81) rfl)
theorem gA_stat : Cond.static arraycopyName ∈ lw_tbl := gt4 _ (List.mem_of_getElem? (i := 80) rfl)
theorem gA_ini : Cond.initialized "java/lang/System" ∈ lw_tbl := gt1 _ (List.mem_of_getElem? (i := 17) rfl)
def gix_MN : Nat := 24
theorem gMN : Cond.classLink RX5 24 "[[I" ∈ lw_tbl := gt2 _ (List.mem_of_getElem? (i := 48) rfl)
def gaC (t : Nat) : String := match t with
  | 3 => "FieldPitches$Pitch"
  | 4 => "FieldPitches$Party"
  | 5 => "FieldPitches$Law"
  | _ => "FieldPitches$Sheet"
def gQL_0 : List (Nat × Nat × Nat) := [(8, 9, 3), (8, 17, 4), (8, 30, 5), (11, 51, 6)]
set_option maxRecDepth 100000 in
theorem gQL_0_ok : ∀ q ∈ gQL_0, Cond.classLink (gown q.1) q.2.1 (gaC q.2.2) ∈ lw_tbl ∧ 3 ≤ q.2.2 ∧ q.2.2 ≤ 6 := (List.forall_mem_cons.mpr ⟨⟨gt1 _ (List.mem_of_getElem? (i := 32) rfl), by decide, by decide⟩, (List.forall_mem_cons.mpr ⟨⟨gt1 _ (List.mem_of_getElem? (i := 34) rfl), by decide, by decide⟩, (List.forall_mem_cons.mpr ⟨⟨gt1 _ (List.mem_of_getElem? (i := 36) rfl), by decide, by decide⟩, (List.forall_mem_cons.mpr ⟨⟨gt2 _ (List.mem_of_getElem? (i := 166) rfl), by decide, by decide⟩, (fun _ h => absurd h List.not_mem_nil)⟩)⟩)⟩)⟩)
def gQL : List (Nat × Nat × Nat) := gQL_0
theorem gQL_ok : ∀ q ∈ gQL, Cond.classLink (gown q.1) q.2.1 (gaC q.2.2) ∈ lw_tbl ∧ 3 ≤ q.2.2 ∧ q.2.2 ≤ 6 := gQL_0_ok
def gCL_0 : List (Nat × Nat × Nat) := [(17, 7, 10), (11, 9, 7), (8, 9, 3), (8, 17, 2), (8, 30, 1), (8, 36, 9), (11, 19, 0), (11, 26, 4), (11, 35, 5), (11, 44, 8), (11, 51, 6), (17, 10, 11)]
set_option maxRecDepth 100000 in
theorem gCL_0_ok : ∀ q ∈ gCL_0, Cond.classLink (gown q.1) q.2.1 (gR q.2.2) ∈ lw_tbl ∧ Cond.instantiable (gR q.2.2) (gN q.2.2) ∈ lw_tbl ∧ Cond.initialized (gR q.2.2) ∈ lw_tbl := (List.forall_mem_cons.mpr ⟨⟨gt1 _ (List.mem_of_getElem? (i := 18) rfl), gt1 _ (List.mem_of_getElem? (i := 19) rfl), gt1 _ (List.mem_of_getElem? (i := 1) rfl)⟩, (List.forall_mem_cons.mpr ⟨⟨gt1 _ (List.mem_of_getElem? (i := 26) rfl), gt1 _ (List.mem_of_getElem? (i := 27) rfl), gt1 _ (List.mem_of_getElem? (i := 2) rfl)⟩, (List.forall_mem_cons.mpr ⟨⟨gt1 _ (List.mem_of_getElem? (i := 32) rfl), gt1 _ (List.mem_of_getElem? (i := 71) rfl), gt1 _ (List.mem_of_getElem? (i := 4) rfl)⟩, (List.forall_mem_cons.mpr ⟨⟨gt1 _ (List.mem_of_getElem? (i := 34) rfl), gt1 _ (List.mem_of_getElem? (i := 119) rfl), gt1 _ (List.mem_of_getElem? (i := 5) rfl)⟩, (List.forall_mem_cons.mpr ⟨⟨gt1 _ (List.mem_of_getElem? (i := 36) rfl), gt1 _ (List.mem_of_getElem? (i := 195) rfl), gt1 _ (List.mem_of_getElem? (i := 6) rfl)⟩, (List.forall_mem_cons.mpr ⟨⟨gt1 _ (List.mem_of_getElem? (i := 38) rfl), gt1 _ (List.mem_of_getElem? (i := 39) rfl), gt1 _ (List.mem_of_getElem? (i := 3) rfl)⟩, (List.forall_mem_cons.mpr ⟨⟨gt2 _ (List.mem_of_getElem? (i := 28) rfl), gt2 _ (List.mem_of_getElem? (i := 29) rfl), gt1 _ (List.mem_of_getElem? (i := 7) rfl)⟩, (List.forall_mem_cons.mpr ⟨⟨gt2 _ (List.mem_of_getElem? (i := 42) rfl), gt2 _ (List.mem_of_getElem? (i := 43) rfl), gt1 _ (List.mem_of_getElem? (i := 8) rfl)⟩, (List.forall_mem_cons.mpr ⟨⟨gt2 _ (List.mem_of_getElem? (i := 93) rfl), gt2 _ (List.mem_of_getElem? (i := 94) rfl), gt1 _ (List.mem_of_getElem? (i := 9) rfl)⟩, (List.forall_mem_cons.mpr ⟨⟨gt2 _ (List.mem_of_getElem? (i := 121) rfl), gt2 _ (List.mem_of_getElem? (i := 122) rfl), gt1 _ (List.mem_of_getElem? (i := 10) rfl)⟩, (List.forall_mem_cons.mpr ⟨⟨gt2 _ (List.mem_of_getElem? (i := 166) rfl), gt2 _ (List.mem_of_getElem? (i := 168) rfl), gt1 _ (List.mem_of_getElem? (i := 11) rfl)⟩, (List.forall_mem_cons.mpr ⟨⟨gt5 _ (List.mem_of_getElem? (i := 105) rfl), gt5 _ (List.mem_of_getElem? (i := 106) rfl), gt1 _ (List.mem_of_getElem? (i := 12) rfl)⟩, (fun _ h => absurd h List.not_mem_nil)⟩)⟩)⟩)⟩)⟩)⟩)⟩)⟩)⟩)⟩)⟩)⟩)
def gCL : List (Nat × Nat × Nat) := gCL_0
theorem gCL_ok : ∀ q ∈ gCL, Cond.classLink (gown q.1) q.2.1 (gR q.2.2) ∈ lw_tbl ∧ Cond.instantiable (gR q.2.2) (gN q.2.2) ∈ lw_tbl ∧ Cond.initialized (gR q.2.2) ∈ lw_tbl := gCL_0_ok
def gKC_0 : List (Nat × Nat × Int) := [(11, 70, -1000001), (11, 79, -1000002), (11, 146, -1000005), (11, 147, -1000003), (11, 163, -1000004), (13, 265, 1431655765), (13, 266, 858993459), (13, 267, 252645135), (11, 244, 16777215), (11, 298, -1000006), (11, 300, -1000007), (12, 68, 53248), (12, 99, -1000001), (12, 278, 16777215)]
set_option maxRecDepth 100000 in
theorem gKC_0_ok : ∀ q ∈ gKC_0, Cond.constant (gown q.1) q.2.1 (Int32.ofInt q.2.2) ∈ lw_tbl := (List.forall_mem_cons.mpr ⟨gt2 _ (List.mem_of_getElem? (i := 221) rfl), (List.forall_mem_cons.mpr ⟨gt2 _ (List.mem_of_getElem? (i := 226) rfl), (List.forall_mem_cons.mpr ⟨gt3 _ (List.mem_of_getElem? (i := 103) rfl), (List.forall_mem_cons.mpr ⟨gt3 _ (List.mem_of_getElem? (i := 104) rfl), (List.forall_mem_cons.mpr ⟨gt3 _ (List.mem_of_getElem? (i := 121) rfl), (List.forall_mem_cons.mpr ⟨gt3 _ (List.mem_of_getElem? (i := 163) rfl), (List.forall_mem_cons.mpr ⟨gt3 _ (List.mem_of_getElem? (i := 164) rfl), (List.forall_mem_cons.mpr ⟨gt3 _ (List.mem_of_getElem? (i := 165) rfl), (List.forall_mem_cons.mpr ⟨gt4 _ (List.mem_of_getElem? (i := 142) rfl), (List.forall_mem_cons.mpr ⟨gt5 _ (List.mem_of_getElem? (i := 8) rfl), (List.forall_mem_cons.mpr ⟨gt5 _ (List.mem_of_getElem? (i := 9) rfl), (List.forall_mem_cons.mpr ⟨gt5 _ (List.mem_of_getElem? (i := 111) rfl), (List.forall_mem_cons.mpr ⟨gt6 _ (List.mem_of_getElem? (i := 23) rfl), (List.forall_mem_cons.mpr ⟨gt7 _ (List.mem_of_getElem? (i := 26) rfl), (fun _ h => absurd h List.not_mem_nil)⟩)⟩)⟩)⟩)⟩)⟩)⟩)⟩)⟩)⟩)⟩)⟩)⟩)⟩)
def gKC : List (Nat × Nat × Int) := gKC_0
theorem gKC_ok : ∀ q ∈ gKC, Cond.constant (gown q.1) q.2.1 (Int32.ofInt q.2.2) ∈ lw_tbl := gKC_0_ok
def gKL_0 : List (Nat × Nat × Int) := [(0, 22, -1), (14, 314, 6148914691236517205), (14, 316, 3689348814741910323), (14, 318, 1085102592571150095)]
set_option maxRecDepth 100000 in
theorem gKL_0_ok : ∀ q ∈ gKL_0, Cond.constantLong (gown q.1) q.2.1 (Int64.ofInt q.2.2) ∈ lw_tbl := (List.forall_mem_cons.mpr ⟨gt3 _ (List.mem_of_getElem? (i := 35) rfl), (List.forall_mem_cons.mpr ⟨gt3 _ (List.mem_of_getElem? (i := 153) rfl), (List.forall_mem_cons.mpr ⟨gt3 _ (List.mem_of_getElem? (i := 154) rfl), (List.forall_mem_cons.mpr ⟨gt3 _ (List.mem_of_getElem? (i := 155) rfl), (fun _ h => absurd h List.not_mem_nil)⟩)⟩)⟩)⟩)
def gKL : List (Nat × Nat × Int) := gKL_0
theorem gKL_ok : ∀ q ∈ gKL, Cond.constantLong (gown q.1) q.2.1 (Int64.ofInt q.2.2) ∈ lw_tbl := gKL_0_ok
def gix_ABOVE : Nat := 9
theorem gSt_ABOVE : Cond.fieldLink "FieldPitches$Kinds" 9 "FieldPitches$Kinds" "ABOVE" "[I" ∈ lw_tbl := gt3 _ (List.mem_of_getElem? (i := 76) rfl)
theorem gSl_ABOVE : Cond.laysStatic "FieldPitches$Kinds" "ABOVE" "[I" ∈ lw_tbl := gt3 _ (List.mem_of_getElem? (i := 77) rfl)
theorem gSi_ABOVE : Cond.initialized "FieldPitches$Kinds" ∈ lw_tbl := gt1 _ (List.mem_of_getElem? (i := 14) rfl)
def gix_NAMES : Nat := 89
theorem gSt_NAMES : Cond.fieldLink "FieldPitches$Tape" 89 "FieldPitches$Tape" "NAMES" "[C" ∈ lw_tbl := gt4 _ (List.mem_of_getElem? (i := 30) rfl)
theorem gSl_NAMES : Cond.laysStatic "FieldPitches$Tape" "NAMES" "[C" ∈ lw_tbl := gt4 _ (List.mem_of_getElem? (i := 31) rfl)
theorem gSi_NAMES : Cond.initialized "FieldPitches$Tape" ∈ lw_tbl := gt1 _ (List.mem_of_getElem? (i := 10) rfl)
set_option maxRecDepth 100000 in
theorem gin0 : ∀ w ∈ u_ws RX0 TX0 2, w ∈ lw_tbl := (List.forall_mem_cons.mpr ⟨gt2 _ (List.mem_of_getElem? (i := 36) rfl), (List.forall_mem_cons.mpr ⟨gt2 _ (List.mem_of_getElem? (i := 38) rfl), (fun _ h => absurd h List.not_mem_nil)⟩)⟩)
set_option maxRecDepth 100000 in
theorem gin1 : ∀ w ∈ u_ws RX2 TX2 4, w ∈ lw_tbl := (List.forall_mem_cons.mpr ⟨gt1 _ (List.mem_of_getElem? (i := 206) rfl), (List.forall_mem_cons.mpr ⟨gt1 _ (List.mem_of_getElem? (i := 208) rfl), (List.forall_mem_cons.mpr ⟨gt1 _ (List.mem_of_getElem? (i := 210) rfl), (List.forall_mem_cons.mpr ⟨gt1 _ (List.mem_of_getElem? (i := 212) rfl), (fun _ h => absurd h List.not_mem_nil)⟩)⟩)⟩)⟩)
set_option maxRecDepth 100000 in
theorem gin2 : ∀ w ∈ u_ws RX3 TX3 14, w ∈ lw_tbl := (List.forall_mem_cons.mpr ⟨gt1 _ (List.mem_of_getElem? (i := 166) rfl), (List.forall_mem_cons.mpr ⟨gt1 _ (List.mem_of_getElem? (i := 168) rfl), (List.forall_mem_cons.mpr ⟨gt1 _ (List.mem_of_getElem? (i := 170) rfl), (List.forall_mem_cons.mpr ⟨gt1 _ (List.mem_of_getElem? (i := 172) rfl), (List.forall_mem_cons.mpr ⟨gt1 _ (List.mem_of_getElem? (i := 174) rfl), (List.forall_mem_cons.mpr ⟨gt1 _ (List.mem_of_getElem? (i := 176) rfl), (List.forall_mem_cons.mpr ⟨gt1 _ (List.mem_of_getElem? (i := 178) rfl), (List.forall_mem_cons.mpr ⟨gt1 _ (List.mem_of_getElem? (i := 180) rfl), (List.forall_mem_cons.mpr ⟨gt1 _ (List.mem_of_getElem? (i := 182) rfl), (List.forall_mem_cons.mpr ⟨gt1 _ (List.mem_of_getElem? (i := 184) rfl), (List.forall_mem_cons.mpr ⟨gt1 _ (List.mem_of_getElem? (i := 186) rfl), (List.forall_mem_cons.mpr ⟨gt1 _ (List.mem_of_getElem? (i := 188) rfl), (List.forall_mem_cons.mpr ⟨gt1 _ (List.mem_of_getElem? (i := 190) rfl), (List.forall_mem_cons.mpr ⟨gt1 _ (List.mem_of_getElem? (i := 192) rfl), (fun _ h => absurd h List.not_mem_nil)⟩)⟩)⟩)⟩)⟩)⟩)⟩)⟩)⟩)⟩)⟩)⟩)⟩)⟩)
set_option maxRecDepth 100000 in
theorem gin3 : ∀ w ∈ u_ws RX4 TX4 10, w ∈ lw_tbl := (List.forall_mem_cons.mpr ⟨gt1 _ (List.mem_of_getElem? (i := 98) rfl), (List.forall_mem_cons.mpr ⟨gt1 _ (List.mem_of_getElem? (i := 100) rfl), (List.forall_mem_cons.mpr ⟨gt1 _ (List.mem_of_getElem? (i := 102) rfl), (List.forall_mem_cons.mpr ⟨gt1 _ (List.mem_of_getElem? (i := 104) rfl), (List.forall_mem_cons.mpr ⟨gt1 _ (List.mem_of_getElem? (i := 106) rfl), (List.forall_mem_cons.mpr ⟨gt1 _ (List.mem_of_getElem? (i := 108) rfl), (List.forall_mem_cons.mpr ⟨gt1 _ (List.mem_of_getElem? (i := 110) rfl), (List.forall_mem_cons.mpr ⟨gt1 _ (List.mem_of_getElem? (i := 112) rfl), (List.forall_mem_cons.mpr ⟨gt1 _ (List.mem_of_getElem? (i := 114) rfl), (List.forall_mem_cons.mpr ⟨gt1 _ (List.mem_of_getElem? (i := 116) rfl), (fun _ h => absurd h List.not_mem_nil)⟩)⟩)⟩)⟩)⟩)⟩)⟩)⟩)⟩)⟩)
set_option maxRecDepth 100000 in
theorem gin4 : ∀ w ∈ u_ws RX5 TX5 14, w ∈ lw_tbl := (List.forall_mem_cons.mpr ⟨gt2 _ (List.mem_of_getElem? (i := 64) rfl), (List.forall_mem_cons.mpr ⟨gt2 _ (List.mem_of_getElem? (i := 66) rfl), (List.forall_mem_cons.mpr ⟨gt2 _ (List.mem_of_getElem? (i := 68) rfl), (List.forall_mem_cons.mpr ⟨gt2 _ (List.mem_of_getElem? (i := 70) rfl), (List.forall_mem_cons.mpr ⟨gt2 _ (List.mem_of_getElem? (i := 72) rfl), (List.forall_mem_cons.mpr ⟨gt2 _ (List.mem_of_getElem? (i := 74) rfl), (List.forall_mem_cons.mpr ⟨gt2 _ (List.mem_of_getElem? (i := 76) rfl), (List.forall_mem_cons.mpr ⟨gt2 _ (List.mem_of_getElem? (i := 78) rfl), (List.forall_mem_cons.mpr ⟨gt2 _ (List.mem_of_getElem? (i := 80) rfl), (List.forall_mem_cons.mpr ⟨gt2 _ (List.mem_of_getElem? (i := 82) rfl), (List.forall_mem_cons.mpr ⟨gt2 _ (List.mem_of_getElem? (i := 84) rfl), (List.forall_mem_cons.mpr ⟨gt2 _ (List.mem_of_getElem? (i := 86) rfl), (List.forall_mem_cons.mpr ⟨gt2 _ (List.mem_of_getElem? (i := 88) rfl), (List.forall_mem_cons.mpr ⟨gt2 _ (List.mem_of_getElem? (i := 90) rfl), (fun _ h => absurd h List.not_mem_nil)⟩)⟩)⟩)⟩)⟩)⟩)⟩)⟩)⟩)⟩)⟩)⟩)⟩)⟩)
set_option maxRecDepth 100000 in
theorem gin5 : ∀ w ∈ u_ws RX6 TX6 7, w ∈ lw_tbl := (List.forall_mem_cons.mpr ⟨gt2 _ (List.mem_of_getElem? (i := 106) rfl), (List.forall_mem_cons.mpr ⟨gt2 _ (List.mem_of_getElem? (i := 108) rfl), (List.forall_mem_cons.mpr ⟨gt2 _ (List.mem_of_getElem? (i := 110) rfl), (List.forall_mem_cons.mpr ⟨gt2 _ (List.mem_of_getElem? (i := 112) rfl), (List.forall_mem_cons.mpr ⟨gt2 _ (List.mem_of_getElem? (i := 114) rfl), (List.forall_mem_cons.mpr ⟨gt2 _ (List.mem_of_getElem? (i := 116) rfl), (List.forall_mem_cons.mpr ⟨gt2 _ (List.mem_of_getElem? (i := 118) rfl), (fun _ h => absurd h List.not_mem_nil)⟩)⟩)⟩)⟩)⟩)⟩)⟩)
set_option maxRecDepth 100000 in
theorem gin6 : ∀ w ∈ u_ws RX7 TX7 3, w ∈ lw_tbl := (List.forall_mem_cons.mpr ⟨gt2 _ (List.mem_of_getElem? (i := 179) rfl), (List.forall_mem_cons.mpr ⟨gt2 _ (List.mem_of_getElem? (i := 181) rfl), (List.forall_mem_cons.mpr ⟨gt2 _ (List.mem_of_getElem? (i := 183) rfl), (fun _ h => absurd h List.not_mem_nil)⟩)⟩)⟩)
set_option maxRecDepth 100000 in
theorem gin7 : ∀ w ∈ u_ws RX8 TX8 11, w ∈ lw_tbl := (List.forall_mem_cons.mpr ⟨gt2 _ (List.mem_of_getElem? (i := 5) rfl), (List.forall_mem_cons.mpr ⟨gt2 _ (List.mem_of_getElem? (i := 7) rfl), (List.forall_mem_cons.mpr ⟨gt2 _ (List.mem_of_getElem? (i := 9) rfl), (List.forall_mem_cons.mpr ⟨gt2 _ (List.mem_of_getElem? (i := 11) rfl), (List.forall_mem_cons.mpr ⟨gt2 _ (List.mem_of_getElem? (i := 13) rfl), (List.forall_mem_cons.mpr ⟨gt2 _ (List.mem_of_getElem? (i := 15) rfl), (List.forall_mem_cons.mpr ⟨gt2 _ (List.mem_of_getElem? (i := 17) rfl), (List.forall_mem_cons.mpr ⟨gt2 _ (List.mem_of_getElem? (i := 19) rfl), (List.forall_mem_cons.mpr ⟨gt2 _ (List.mem_of_getElem? (i := 21) rfl), (List.forall_mem_cons.mpr ⟨gt2 _ (List.mem_of_getElem? (i := 23) rfl), (List.forall_mem_cons.mpr ⟨gt2 _ (List.mem_of_getElem? (i := 25) rfl), (fun _ h => absurd h List.not_mem_nil)⟩)⟩)⟩)⟩)⟩)⟩)⟩)⟩)⟩)⟩)⟩)
set_option maxRecDepth 100000 in
theorem gin8 : ∀ w ∈ u_ws RX9 TX9 11, w ∈ lw_tbl := (List.forall_mem_cons.mpr ⟨gt2 _ (List.mem_of_getElem? (i := 143) rfl), (List.forall_mem_cons.mpr ⟨gt2 _ (List.mem_of_getElem? (i := 145) rfl), (List.forall_mem_cons.mpr ⟨gt2 _ (List.mem_of_getElem? (i := 147) rfl), (List.forall_mem_cons.mpr ⟨gt2 _ (List.mem_of_getElem? (i := 149) rfl), (List.forall_mem_cons.mpr ⟨gt2 _ (List.mem_of_getElem? (i := 151) rfl), (List.forall_mem_cons.mpr ⟨gt2 _ (List.mem_of_getElem? (i := 153) rfl), (List.forall_mem_cons.mpr ⟨gt2 _ (List.mem_of_getElem? (i := 155) rfl), (List.forall_mem_cons.mpr ⟨gt2 _ (List.mem_of_getElem? (i := 157) rfl), (List.forall_mem_cons.mpr ⟨gt2 _ (List.mem_of_getElem? (i := 159) rfl), (List.forall_mem_cons.mpr ⟨gt2 _ (List.mem_of_getElem? (i := 161) rfl), (List.forall_mem_cons.mpr ⟨gt2 _ (List.mem_of_getElem? (i := 163) rfl), (fun _ h => absurd h List.not_mem_nil)⟩)⟩)⟩)⟩)⟩)⟩)⟩)⟩)⟩)⟩)⟩)
set_option maxRecDepth 100000 in
theorem gin9 : ∀ w ∈ u_ws RX10 TX10 7, w ∈ lw_tbl := (List.forall_mem_cons.mpr ⟨gt1 _ (List.mem_of_getElem? (i := 55) rfl), (List.forall_mem_cons.mpr ⟨gt1 _ (List.mem_of_getElem? (i := 57) rfl), (List.forall_mem_cons.mpr ⟨gt1 _ (List.mem_of_getElem? (i := 59) rfl), (List.forall_mem_cons.mpr ⟨gt1 _ (List.mem_of_getElem? (i := 61) rfl), (List.forall_mem_cons.mpr ⟨gt1 _ (List.mem_of_getElem? (i := 63) rfl), (List.forall_mem_cons.mpr ⟨gt1 _ (List.mem_of_getElem? (i := 65) rfl), (List.forall_mem_cons.mpr ⟨gt1 _ (List.mem_of_getElem? (i := 67) rfl), (fun _ h => absurd h List.not_mem_nil)⟩)⟩)⟩)⟩)⟩)⟩)⟩)
set_option maxRecDepth 100000 in
theorem gin10 : ∀ w ∈ u_ws RX11 TX11 9, w ∈ lw_tbl := (List.forall_mem_cons.mpr ⟨gt2 _ (List.mem_of_getElem? (i := 195) rfl), (List.forall_mem_cons.mpr ⟨gt2 _ (List.mem_of_getElem? (i := 197) rfl), (List.forall_mem_cons.mpr ⟨gt2 _ (List.mem_of_getElem? (i := 199) rfl), (List.forall_mem_cons.mpr ⟨gt2 _ (List.mem_of_getElem? (i := 201) rfl), (List.forall_mem_cons.mpr ⟨gt2 _ (List.mem_of_getElem? (i := 203) rfl), (List.forall_mem_cons.mpr ⟨gt2 _ (List.mem_of_getElem? (i := 205) rfl), (List.forall_mem_cons.mpr ⟨gt2 _ (List.mem_of_getElem? (i := 207) rfl), (List.forall_mem_cons.mpr ⟨gt2 _ (List.mem_of_getElem? (i := 209) rfl), (List.forall_mem_cons.mpr ⟨gt2 _ (List.mem_of_getElem? (i := 211) rfl), (fun _ h => absurd h List.not_mem_nil)⟩)⟩)⟩)⟩)⟩)⟩)⟩)⟩)⟩)
set_option maxRecDepth 100000 in
theorem gin11 : ∀ w ∈ u_ws RX12 TX12 46, w ∈ lw_tbl := (List.forall_mem_cons.mpr ⟨gt5 _ (List.mem_of_getElem? (i := 158) rfl), (List.forall_mem_cons.mpr ⟨gt5 _ (List.mem_of_getElem? (i := 160) rfl), (List.forall_mem_cons.mpr ⟨gt5 _ (List.mem_of_getElem? (i := 162) rfl), (List.forall_mem_cons.mpr ⟨gt5 _ (List.mem_of_getElem? (i := 164) rfl), (List.forall_mem_cons.mpr ⟨gt5 _ (List.mem_of_getElem? (i := 166) rfl), (List.forall_mem_cons.mpr ⟨gt5 _ (List.mem_of_getElem? (i := 168) rfl), (List.forall_mem_cons.mpr ⟨gt5 _ (List.mem_of_getElem? (i := 170) rfl), (List.forall_mem_cons.mpr ⟨gt5 _ (List.mem_of_getElem? (i := 172) rfl), (List.forall_mem_cons.mpr ⟨gt5 _ (List.mem_of_getElem? (i := 174) rfl), (List.forall_mem_cons.mpr ⟨gt5 _ (List.mem_of_getElem? (i := 176) rfl), (List.forall_mem_cons.mpr ⟨gt5 _ (List.mem_of_getElem? (i := 178) rfl), (List.forall_mem_cons.mpr ⟨gt5 _ (List.mem_of_getElem? (i := 180) rfl), (List.forall_mem_cons.mpr ⟨gt5 _ (List.mem_of_getElem? (i := 182) rfl), (List.forall_mem_cons.mpr ⟨gt5 _ (List.mem_of_getElem? (i := 184) rfl), (List.forall_mem_cons.mpr ⟨gt5 _ (List.mem_of_getElem? (i := 186) rfl), (List.forall_mem_cons.mpr ⟨gt5 _ (List.mem_of_getElem? (i := 188) rfl), (List.forall_mem_cons.mpr ⟨gt5 _ (List.mem_of_getElem? (i := 190) rfl), (List.forall_mem_cons.mpr ⟨gt5 _ (List.mem_of_getElem? (i := 192) rfl), (List.forall_mem_cons.mpr ⟨gt5 _ (List.mem_of_getElem? (i := 194) rfl), (List.forall_mem_cons.mpr ⟨gt5 _ (List.mem_of_getElem? (i := 196) rfl), (List.forall_mem_cons.mpr ⟨gt5 _ (List.mem_of_getElem? (i := 198) rfl), (List.forall_mem_cons.mpr ⟨gt5 _ (List.mem_of_getElem? (i := 200) rfl), (List.forall_mem_cons.mpr ⟨gt5 _ (List.mem_of_getElem? (i := 202) rfl), (List.forall_mem_cons.mpr ⟨gt5 _ (List.mem_of_getElem? (i := 204) rfl), (List.forall_mem_cons.mpr ⟨gt5 _ (List.mem_of_getElem? (i := 206) rfl), (List.forall_mem_cons.mpr ⟨gt5 _ (List.mem_of_getElem? (i := 208) rfl), (List.forall_mem_cons.mpr ⟨gt5 _ (List.mem_of_getElem? (i := 210) rfl), (List.forall_mem_cons.mpr ⟨gt5 _ (List.mem_of_getElem? (i := 212) rfl), (List.forall_mem_cons.mpr ⟨gt5 _ (List.mem_of_getElem? (i := 214) rfl), (List.forall_mem_cons.mpr ⟨gt5 _ (List.mem_of_getElem? (i := 216) rfl), (List.forall_mem_cons.mpr ⟨gt5 _ (List.mem_of_getElem? (i := 218) rfl), (List.forall_mem_cons.mpr ⟨gt5 _ (List.mem_of_getElem? (i := 220) rfl), (List.forall_mem_cons.mpr ⟨gt5 _ (List.mem_of_getElem? (i := 222) rfl), (List.forall_mem_cons.mpr ⟨gt5 _ (List.mem_of_getElem? (i := 224) rfl), (List.forall_mem_cons.mpr ⟨gt5 _ (List.mem_of_getElem? (i := 226) rfl), (List.forall_mem_cons.mpr ⟨gt5 _ (List.mem_of_getElem? (i := 228) rfl), (List.forall_mem_cons.mpr ⟨gt5 _ (List.mem_of_getElem? (i := 230) rfl), (List.forall_mem_cons.mpr ⟨gt5 _ (List.mem_of_getElem? (i := 232) rfl), (List.forall_mem_cons.mpr ⟨gt5 _ (List.mem_of_getElem? (i := 234) rfl), (List.forall_mem_cons.mpr ⟨gt5 _ (List.mem_of_getElem? (i := 236) rfl), (List.forall_mem_cons.mpr ⟨gt5 _ (List.mem_of_getElem? (i := 238) rfl), (List.forall_mem_cons.mpr ⟨gt6 _ (List.mem_of_getElem? (i := 0) rfl), (List.forall_mem_cons.mpr ⟨gt6 _ (List.mem_of_getElem? (i := 2) rfl), (List.forall_mem_cons.mpr ⟨gt6 _ (List.mem_of_getElem? (i := 4) rfl), (List.forall_mem_cons.mpr ⟨gt6 _ (List.mem_of_getElem? (i := 6) rfl), (List.forall_mem_cons.mpr ⟨gt6 _ (List.mem_of_getElem? (i := 8) rfl), (fun _ h => absurd h List.not_mem_nil)⟩)⟩)⟩)⟩)⟩)⟩)⟩)⟩)⟩)⟩)⟩)⟩)⟩)⟩)⟩)⟩)⟩)⟩)⟩)⟩)⟩)⟩)⟩)⟩)⟩)⟩)⟩)⟩)⟩)⟩)⟩)⟩)⟩)⟩)⟩)⟩)⟩)⟩)⟩)⟩)⟩)⟩)⟩)⟩)⟩)⟩)
theorem gac_int : Cond.arrayClass .int ∈ lw_tbl := gt1 _ (List.mem_of_getElem? (i := 70) rfl)
theorem gac_boolean : Cond.arrayClass .boolean ∈ lw_tbl := gt6 _ (List.mem_of_getElem? (i := 11) rfl)
theorem gac_long : Cond.arrayClass .long ∈ lw_tbl := gt2 _ (List.mem_of_getElem? (i := 41) rfl)
theorem gao_Pitch : Cond.arrayOver (.object "FieldPitches$Pitch") ∈ lw_tbl := gt1 _ (List.mem_of_getElem? (i := 33) rfl)
theorem gao_Party : Cond.arrayOver (.object "FieldPitches$Party") ∈ lw_tbl := gt1 _ (List.mem_of_getElem? (i := 35) rfl)
theorem gao_Law : Cond.arrayOver (.object "FieldPitches$Law") ∈ lw_tbl := gt1 _ (List.mem_of_getElem? (i := 37) rfl)
theorem gao_Sheet : Cond.arrayOver (.object "FieldPitches$Sheet") ∈ lw_tbl := gt2 _ (List.mem_of_getElem? (i := 167) rfl)
theorem gao_int : Cond.arrayOver (.array .int) ∈ lw_tbl := gt2 _ (List.mem_of_getElem? (i := 49) rfl)
