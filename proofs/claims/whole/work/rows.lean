section
/-! names, decode rows and words of the class, taken by program (wip/gen/mk01.py) out of the names that the task prints -/
def RX0 : String := "Handoverhouse$Call"
def TX0 : u_T := fun k => match k with
  | 0 => ("Handoverhouse$Call", "caller", "LHandoverhouse$Leg;", true)
  | 1 => ("Handoverhouse$Call", "other", "LHandoverhouse$Leg;", true)
  | 2 => ("Handoverhouse$Call", "seconds", "I", false)
  | 3 => ("Handoverhouse$Call", "paid", "I", false)
  | 4 => ("Handoverhouse$Call", "handovers", "I", false)
  | 5 => ("Handoverhouse$Call", "pingPongs", "I", false)
  | _ => ("Handoverhouse$Call", "ended", "I", false)
def tyX0 : Nat → FieldType := fun k => match k with
  | 0 => .object "Handoverhouse$Leg"
  | 1 => .object "Handoverhouse$Leg"
  | 2 => .int
  | 3 => .int
  | 4 => .int
  | 5 => .int
  | _ => .int
abbrev wsX00 : List Cond := u_ws RX0 TX0 7
theorem nmX0 : ∀ a, a < 7 → ∀ b, b < 7 → a ≠ b → (TX0 a).2.1 ≠ (TX0 b).2.1 := by decide +kernel
theorem tyX0_ok : ∀ k, k < 7 → parseFieldDescriptor (TX0 k).2.2.1 = some (tyX0 k) := by decide +kernel
abbrev cX0_init : ByteArray := prog_2_method_1_code
def yX0_init : MethodName := ⟨RX0, "<init>", "()V"⟩
abbrev cX0_hasLegOn : ByteArray := prog_2_method_2_code
def yX0_hasLegOn : MethodName := ⟨RX0, "hasLegOn", "(I)Z"⟩
abbrev cX0_copyFrom : ByteArray := prog_2_method_3_code
def yX0_copyFrom : MethodName := ⟨RX0, "copyFrom", "(LHandoverhouse$Call;)V"⟩
abbrev cX0_fact : ByteArray := prog_2_method_4_code
def yX0_fact : MethodName := ⟨RX0, "fact", "(I)I"⟩
def RX1 : String := "Handoverhouse$Handset"
def TX1 : u_T := fun k => match k with
  | 0 => ("Handoverhouse$Handset", "operator", "I", false)
  | 1 => ("Handoverhouse$Handset", "place", "I", false)
  | 2 => ("Handoverhouse$Handset", "speed", "I", false)
  | 3 => ("Handoverhouse$Handset", "balance", "I", false)
  | 4 => ("Handoverhouse$Handset", "on", "Z", false)
  | 5 => ("Handoverhouse$Handset", "mast", "I", false)
  | 6 => ("Handoverhouse$Handset", "call", "I", false)
  | 7 => ("Handoverhouse$Handset", "knownArea", "I", false)
  | 8 => ("Handoverhouse$Handset", "toldArea", "I", false)
  | 9 => ("Handoverhouse$Handset", "toldAt", "I", false)
  | 10 => ("Handoverhouse$Handset", "updates", "I", false)
  | 11 => ("Handoverhouse$Handset", "textsGot", "I", false)
  | _ => ("Handoverhouse$Handset", "textsWaiting", "I", false)
def tyX1 : Nat → FieldType := fun k => match k with
  | 0 => .int
  | 1 => .int
  | 2 => .int
  | 3 => .int
  | 4 => .boolean
  | 5 => .int
  | 6 => .int
  | 7 => .int
  | 8 => .int
  | 9 => .int
  | 10 => .int
  | 11 => .int
  | _ => .int
abbrev wsX10 : List Cond := u_ws RX1 TX1 13
theorem nmX1 : ∀ a, a < 13 → ∀ b, b < 13 → a ≠ b → (TX1 a).2.1 ≠ (TX1 b).2.1 := by decide +kernel
theorem tyX1_ok : ∀ k, k < 13 → parseFieldDescriptor (TX1 k).2.2.1 = some (tyX1 k) := by decide +kernel
abbrev cX1_init : ByteArray := prog_3_method_1_code
def yX1_init : MethodName := ⟨RX1, "<init>", "()V"⟩
abbrev cX1_isIdle : ByteArray := prog_3_method_2_code
def yX1_isIdle : MethodName := ⟨RX1, "isIdle", "()Z"⟩
abbrev cX1_move : ByteArray := prog_3_method_3_code
def yX1_move : MethodName := ⟨RX1, "move", "()V"⟩
abbrev cX1_tell : ByteArray := prog_3_method_4_code
def yX1_tell : MethodName := ⟨RX1, "tell", "(II)V"⟩
abbrev cX1_copyFrom : ByteArray := prog_3_method_5_code
def yX1_copyFrom : MethodName := ⟨RX1, "copyFrom", "(LHandoverhouse$Handset;)V"⟩
abbrev cX1_fact : ByteArray := prog_3_method_6_code
def yX1_fact : MethodName := ⟨RX1, "fact", "(I)I"⟩
def RX2 : String := "Handoverhouse$Leg"
def TX2 : u_T := fun k => match k with
  | 0 => ("Handoverhouse$Leg", "handset", "I", false)
  | 1 => ("Handoverhouse$Leg", "mast", "I", false)
  | 2 => ("Handoverhouse$Leg", "waits", "I", false)
  | 3 => ("Handoverhouse$Leg", "bad", "I", false)
  | 4 => ("Handoverhouse$Leg", "leftMast", "I", false)
  | _ => ("Handoverhouse$Leg", "leftAt", "I", false)
def tyX2 : Nat → FieldType := fun k => match k with
  | 0 => .int
  | 1 => .int
  | 2 => .int
  | 3 => .int
  | 4 => .int
  | _ => .int
abbrev wsX20 : List Cond := u_ws RX2 TX2 6
theorem nmX2 : ∀ a, a < 6 → ∀ b, b < 6 → a ≠ b → (TX2 a).2.1 ≠ (TX2 b).2.1 := by decide +kernel
theorem tyX2_ok : ∀ k, k < 6 → parseFieldDescriptor (TX2 k).2.2.1 = some (tyX2 k) := by decide +kernel
abbrev cX2_init : ByteArray := prog_4_method_1_code
def yX2_init : MethodName := ⟨RX2, "<init>", "()V"⟩
abbrev cX2_isUsed : ByteArray := prog_4_method_2_code
def yX2_isUsed : MethodName := ⟨RX2, "isUsed", "()Z"⟩
abbrev cX2_copyFrom : ByteArray := prog_4_method_3_code
def yX2_copyFrom : MethodName := ⟨RX2, "copyFrom", "(LHandoverhouse$Leg;)V"⟩
def RX3 : String := "Handoverhouse$Mast"
def TX3 : u_T := fun k => match k with
  | 0 => ("Handoverhouse$Mast", "place", "I", false)
  | 1 => ("Handoverhouse$Mast", "power", "I", false)
  | 2 => ("Handoverhouse$Mast", "frequency", "I", false)
  | 3 => ("Handoverhouse$Mast", "channels", "I", false)
  | 4 => ("Handoverhouse$Mast", "area", "I", false)
  | 5 => ("Handoverhouse$Mast", "operator", "I", false)
  | _ => ("Handoverhouse$Mast", "awake", "Z", false)
def tyX3 : Nat → FieldType := fun k => match k with
  | 0 => .int
  | 1 => .int
  | 2 => .int
  | 3 => .int
  | 4 => .int
  | 5 => .int
  | _ => .boolean
abbrev wsX30 : List Cond := u_ws RX3 TX3 7
theorem nmX3 : ∀ a, a < 7 → ∀ b, b < 7 → a ≠ b → (TX3 a).2.1 ≠ (TX3 b).2.1 := by decide +kernel
theorem tyX3_ok : ∀ k, k < 7 → parseFieldDescriptor (TX3 k).2.2.1 = some (tyX3 k) := by decide +kernel
abbrev cX3_init : ByteArray := prog_5_method_1_code
def yX3_init : MethodName := ⟨RX3, "<init>", "()V"⟩
abbrev cX3_distanceTo : ByteArray := prog_5_method_2_code
def yX3_distanceTo : MethodName := ⟨RX3, "distanceTo", "(I)I"⟩
abbrev cX3_noiseAt : ByteArray := prog_5_method_3_code
def yX3_noiseAt : MethodName := ⟨RX3, "noiseAt", "(I)I"⟩
abbrev cX3_fact : ByteArray := prog_5_method_4_code
def yX3_fact : MethodName := ⟨RX3, "fact", "(I)I"⟩
def RX4 : String := "Handoverhouse$Masts"
def TX4 : u_T := fun k => match k with
  | 0 => ("Handoverhouse$Masts", "all", "[LHandoverhouse$Mast;", true)
  | 1 => ("Handoverhouse$Masts", "bareQuality", "[[I", true)
  | _ => ("Handoverhouse$Masts", "count", "I", false)
def tyX4 : Nat → FieldType := fun k => match k with
  | 0 => .array (.object "Handoverhouse$Mast")
  | 1 => .array (.array .int)
  | _ => .int
abbrev wsX40 : List Cond := u_ws RX4 TX4 3
theorem nmX4 : ∀ a, a < 3 → ∀ b, b < 3 → a ≠ b → (TX4 a).2.1 ≠ (TX4 b).2.1 := by decide +kernel
theorem tyX4_ok : ∀ k, k < 3 → parseFieldDescriptor (TX4 k).2.2.1 = some (tyX4 k) := by decide +kernel
abbrev cX4_init : ByteArray := prog_6_method_1_code
def yX4_init : MethodName := ⟨RX4, "<init>", "()V"⟩
abbrev cX4_measure : ByteArray := prog_6_method_2_code
def yX4_measure : MethodName := ⟨RX4, "measure", "()V"⟩
abbrev cX4_measureOne : ByteArray := prog_6_method_3_code
def yX4_measureOne : MethodName := ⟨RX4, "measureOne", "(II)I"⟩
abbrev cX4_awakeInArea : ByteArray := prog_6_method_4_code
def yX4_awakeInArea : MethodName := ⟨RX4, "awakeInArea", "(I)I"⟩
abbrev cX4_awake : ByteArray := prog_6_method_5_code
def yX4_awake : MethodName := ⟨RX4, "awake", "()I"⟩
def RX5 : String := "Handoverhouse$Road"
def TX5 : u_T := fun k => match k with
  | 0 => ("Handoverhouse$Road", "masts", "LHandoverhouse$Masts;", true)
  | 1 => ("Handoverhouse$Road", "load", "[I", true)
  | 2 => ("Handoverhouse$Road", "carried", "[I", true)
  | 3 => ("Handoverhouse$Road", "handsets", "[LHandoverhouse$Handset;", true)
  | 4 => ("Handoverhouse$Road", "calls", "[LHandoverhouse$Call;", true)
  | 5 => ("Handoverhouse$Road", "handsetCount", "I", false)
  | 6 => ("Handoverhouse$Road", "callCount", "I", false)
  | 7 => ("Handoverhouse$Road", "textCount", "I", false)
  | 8 => ("Handoverhouse$Road", "now", "I", false)
  | _ => ("Handoverhouse$Road", "pages", "I", false)
def tyX5 : Nat → FieldType := fun k => match k with
  | 0 => .object "Handoverhouse$Masts"
  | 1 => .array .int
  | 2 => .array .int
  | 3 => .array (.object "Handoverhouse$Handset")
  | 4 => .array (.object "Handoverhouse$Call")
  | 5 => .int
  | 6 => .int
  | 7 => .int
  | 8 => .int
  | _ => .int
abbrev wsX50 : List Cond := u_ws RX5 TX5 10
theorem nmX5 : ∀ a, a < 10 → ∀ b, b < 10 → a ≠ b → (TX5 a).2.1 ≠ (TX5 b).2.1 := by decide +kernel
theorem tyX5_ok : ∀ k, k < 10 → parseFieldDescriptor (TX5 k).2.2.1 = some (tyX5 k) := by decide +kernel
abbrev cX5_init : ByteArray := prog_7_method_1_code
def yX5_init : MethodName := ⟨RX5, "<init>", "(LHandoverhouse$Masts;)V"⟩
abbrev cX5_copyFrom : ByteArray := prog_7_method_2_code
def yX5_copyFrom : MethodName := ⟨RX5, "copyFrom", "(LHandoverhouse$Road;)V"⟩
abbrev cX5_qualityAt : ByteArray := prog_7_method_3_code
def yX5_qualityAt : MethodName := ⟨RX5, "qualityAt", "(II)I"⟩
abbrev cX5_isHeard : ByteArray := prog_7_method_4_code
def yX5_isHeard : MethodName := ⟨RX5, "isHeard", "(II)Z"⟩
abbrev cX5_bestHeardAt : ByteArray := prog_7_method_5_code
def yX5_bestHeardAt : MethodName := ⟨RX5, "bestHeardAt", "(I)I"⟩
abbrev cX5_placesHeardWell : ByteArray := prog_7_method_6_code
def yX5_placesHeardWell : MethodName := ⟨RX5, "placesHeardWell", "()I"⟩
abbrev cX5_hasFreeChannels : ByteArray := prog_7_method_7_code
def yX5_hasFreeChannels : MethodName := ⟨RX5, "hasFreeChannels", "(II)Z"⟩
abbrev cX5_page : ByteArray := prog_7_method_8_code
def yX5_page : MethodName := ⟨RX5, "page", "(LHandoverhouse$Handset;)Z"⟩
abbrev cX5_isInArea : ByteArray := prog_7_method_9_code
def yX5_isInArea : MethodName := ⟨RX5, "isInArea", "(LHandoverhouse$Handset;I)Z"⟩
abbrev cX5_wouldBeFound : ByteArray := prog_7_method_10_code
def yX5_wouldBeFound : MethodName := ⟨RX5, "wouldBeFound", "(LHandoverhouse$Handset;)Z"⟩
abbrev cX5_handsetsToBeFound : ByteArray := prog_7_method_11_code
def yX5_handsetsToBeFound : MethodName := ⟨RX5, "handsetsToBeFound", "()I"⟩
abbrev cX5_forgetAreas : ByteArray := prog_7_method_12_code
def yX5_forgetAreas : MethodName := ⟨RX5, "forgetAreas", "()I"⟩
abbrev cX5_second : ByteArray := prog_7_method_13_code
def yX5_second : MethodName := ⟨RX5, "second", "()V"⟩
abbrev cX5_chooseMast : ByteArray := prog_7_method_14_code
def yX5_chooseMast : MethodName := ⟨RX5, "chooseMast", "(LHandoverhouse$Handset;)V"⟩
abbrev cX5_tellArea : ByteArray := prog_7_method_15_code
def yX5_tellArea : MethodName := ⟨RX5, "tellArea", "(LHandoverhouse$Handset;)V"⟩
abbrev cX5_lookAtLeg : ByteArray := prog_7_method_16_code
def yX5_lookAtLeg : MethodName := ⟨RX5, "lookAtLeg", "(LHandoverhouse$Call;LHandoverhouse$Leg;)V"⟩
abbrev cX5_isMuchBetter : ByteArray := prog_7_method_17_code
def yX5_isMuchBetter : MethodName := ⟨RX5, "isMuchBetter", "(III)Z"⟩
abbrev cX5_candidateFor : ByteArray := prog_7_method_18_code
def yX5_candidateFor : MethodName := ⟨RX5, "candidateFor", "(II)I"⟩
abbrev cX5_handOver : ByteArray := prog_7_method_19_code
def yX5_handOver : MethodName := ⟨RX5, "handOver", "(LHandoverhouse$Call;LHandoverhouse$Leg;I)V"⟩
abbrev cX5_charge : ByteArray := prog_7_method_20_code
def yX5_charge : MethodName := ⟨RX5, "charge", "(LHandoverhouse$Call;)V"⟩
abbrev cX5_carry : ByteArray := prog_7_method_21_code
def yX5_carry : MethodName := ⟨RX5, "carry", "(LHandoverhouse$Leg;)V"⟩
abbrev cX5_price : ByteArray := prog_7_method_22_code
def yX5_price : MethodName := ⟨RX5, "price", "(LHandoverhouse$Call;LHandoverhouse$Handset;)I"⟩
abbrev cX5_deliverTexts : ByteArray := prog_7_method_23_code
def yX5_deliverTexts : MethodName := ⟨RX5, "deliverTexts", "(LHandoverhouse$Handset;)V"⟩
abbrev cX5_tryCall : ByteArray := prog_7_method_24_code
def yX5_tryCall : MethodName := ⟨RX5, "tryCall", "(II)I"⟩
abbrev cX5_tryEmergency : ByteArray := prog_7_method_25_code
def yX5_tryEmergency : MethodName := ⟨RX5, "tryEmergency", "(I)I"⟩
abbrev cX5_join : ByteArray := prog_7_method_26_code
def yX5_join : MethodName := ⟨RX5, "join", "(LHandoverhouse$Leg;I)V"⟩
abbrev cX5_callToPush : ByteArray := prog_7_method_27_code
def yX5_callToPush : MethodName := ⟨RX5, "callToPush", "(I)I"⟩
abbrev cX5_end : ByteArray := prog_7_method_28_code
def yX5_end : MethodName := ⟨RX5, "end", "(LHandoverhouse$Call;I)V"⟩
abbrev cX5_release : ByteArray := prog_7_method_29_code
def yX5_release : MethodName := ⟨RX5, "release", "(LHandoverhouse$Leg;)V"⟩
abbrev cX5_switchOff : ByteArray := prog_7_method_30_code
def yX5_switchOff : MethodName := ⟨RX5, "switchOff", "(LHandoverhouse$Handset;)V"⟩
abbrev cX5_sendAway : ByteArray := prog_7_method_31_code
def yX5_sendAway : MethodName := ⟨RX5, "sendAway", "(I)V"⟩
abbrev cX5_campersOn : ByteArray := prog_7_method_32_code
def yX5_campersOn : MethodName := ⟨RX5, "campersOn", "(I)I"⟩
abbrev cX5_callsThat : ByteArray := prog_7_method_33_code
def yX5_callsThat : MethodName := ⟨RX5, "callsThat", "(I)I"⟩
abbrev cX5_sumOfCalls : ByteArray := prog_7_method_34_code
def yX5_sumOfCalls : MethodName := ⟨RX5, "sumOfCalls", "(I)I"⟩
abbrev cX5_sumOfHandsets : ByteArray := prog_7_method_35_code
def yX5_sumOfHandsets : MethodName := ⟨RX5, "sumOfHandsets", "(I)I"⟩
abbrev cX5_secondsOfEndedCalls : ByteArray := prog_7_method_36_code
def yX5_secondsOfEndedCalls : MethodName := ⟨RX5, "secondsOfEndedCalls", "()I"⟩
def RX6 : String := "Handoverhouse$Survey"
def TX6 : u_T := fun k => match k with
  | 0 => ("Handoverhouse$Survey", "undisturbed", "[I", true)
  | 1 => ("Handoverhouse$Survey", "disturbed", "[I", true)
  | _ => ("Handoverhouse$Survey", "noise", "[I", true)
def tyX6 : Nat → FieldType := fun k => match k with
  | 0 => .array .int
  | 1 => .array .int
  | _ => .array .int
abbrev wsX60 : List Cond := u_ws RX6 TX6 3
theorem nmX6 : ∀ a, a < 3 → ∀ b, b < 3 → a ≠ b → (TX6 a).2.1 ≠ (TX6 b).2.1 := by decide +kernel
theorem tyX6_ok : ∀ k, k < 3 → parseFieldDescriptor (TX6 k).2.2.1 = some (tyX6 k) := by decide +kernel
abbrev cX6_init : ByteArray := prog_8_method_1_code
def yX6_init : MethodName := ⟨RX6, "<init>", "()V"⟩
abbrev cX6_take : ByteArray := prog_8_method_2_code
def yX6_take : MethodName := ⟨RX6, "take", "(LHandoverhouse$Road;I)V"⟩
abbrev cX6_takeMast : ByteArray := prog_8_method_3_code
def yX6_takeMast : MethodName := ⟨RX6, "takeMast", "(LHandoverhouse$Road;III)V"⟩
abbrev cX6_placeFor : ByteArray := prog_8_method_4_code
def yX6_placeFor : MethodName := ⟨RX6, "placeFor", "(I)I"⟩
abbrev cX6_servedFrom : ByteArray := prog_8_method_5_code
def yX6_servedFrom : MethodName := ⟨RX6, "servedFrom", "(II)I"⟩
def RX7 : String := "Handoverhouse"
def TX7 : u_T := fun k => match k with
  | 0 => ("Handoverhouse", "masts", "LHandoverhouse$Masts;", true)
  | 1 => ("Handoverhouse", "road", "LHandoverhouse$Road;", true)
  | 2 => ("Handoverhouse", "trial", "LHandoverhouse$Road;", true)
  | _ => ("Handoverhouse", "survey", "LHandoverhouse$Survey;", true)
def tyX7 : Nat → FieldType := fun k => match k with
  | 0 => .object "Handoverhouse$Masts"
  | 1 => .object "Handoverhouse$Road"
  | 2 => .object "Handoverhouse$Road"
  | _ => .object "Handoverhouse$Survey"
abbrev wsX70 : List Cond := u_ws RX7 TX7 4
theorem nmX7 : ∀ a, a < 4 → ∀ b, b < 4 → a ≠ b → (TX7 a).2.1 ≠ (TX7 b).2.1 := by decide +kernel
theorem tyX7_ok : ∀ k, k < 4 → parseFieldDescriptor (TX7 k).2.2.1 = some (tyX7 k) := by decide +kernel
abbrev cX7_init : ByteArray := prog_1_method_1_code
def yX7_init : MethodName := ⟨RX7, "<init>", "()V"⟩
abbrev cX7_mast : ByteArray := prog_1_method_2_code
def yX7_mast : MethodName := ⟨RX7, "mast", "(IIIIII)I"⟩
abbrev cX7_handset : ByteArray := prog_1_method_3_code
def yX7_handset : MethodName := ⟨RX7, "handset", "(IIII)I"⟩
abbrev cX7_speed : ByteArray := prog_1_method_4_code
def yX7_speed : MethodName := ⟨RX7, "speed", "(II)I"⟩
abbrev cX7_top : ByteArray := prog_1_method_5_code
def yX7_top : MethodName := ⟨RX7, "top", "(II)I"⟩
abbrev cX7_turn : ByteArray := prog_1_method_6_code
def yX7_turn : MethodName := ⟨RX7, "turn", "(IZ)Z"⟩
abbrev cX7_wake : ByteArray := prog_1_method_7_code
def yX7_wake : MethodName := ⟨RX7, "wake", "(IZ)Z"⟩
abbrev cX7_call : ByteArray := prog_1_method_8_code
def yX7_call : MethodName := ⟨RX7, "call", "(II)I"⟩
abbrev cX7_emergency : ByteArray := prog_1_method_9_code
def yX7_emergency : MethodName := ⟨RX7, "emergency", "(I)I"⟩
abbrev cX7_hang : ByteArray := prog_1_method_10_code
def yX7_hang : MethodName := ⟨RX7, "hang", "(I)I"⟩
abbrev cX7_text : ByteArray := prog_1_method_11_code
def yX7_text : MethodName := ⟨RX7, "text", "(II)I"⟩
abbrev cX7_forget : ByteArray := prog_1_method_12_code
def yX7_forget : MethodName := ⟨RX7, "forget", "()I"⟩
abbrev cX7_pass : ByteArray := prog_1_method_13_code
def yX7_pass : MethodName := ⟨RX7, "pass", "(I)I"⟩
abbrev cX7_quality : ByteArray := prog_1_method_14_code
def yX7_quality : MethodName := ⟨RX7, "quality", "(II)I"⟩
abbrev cX7_best : ByteArray := prog_1_method_15_code
def yX7_best : MethodName := ⟨RX7, "best", "(I)I"⟩
abbrev cX7_ofMast : ByteArray := prog_1_method_16_code
def yX7_ofMast : MethodName := ⟨RX7, "ofMast", "(II)I"⟩
abbrev cX7_ofHandset : ByteArray := prog_1_method_17_code
def yX7_ofHandset : MethodName := ⟨RX7, "ofHandset", "(II)I"⟩
abbrev cX7_ofCall : ByteArray := prog_1_method_18_code
def yX7_ofCall : MethodName := ⟨RX7, "ofCall", "(II)I"⟩
abbrev cX7_many : ByteArray := prog_1_method_19_code
def yX7_many : MethodName := ⟨RX7, "many", "(I)I"⟩
abbrev cX7_meanSeconds : ByteArray := prog_1_method_20_code
def yX7_meanSeconds : MethodName := ⟨RX7, "meanSeconds", "()D"⟩
abbrev cX7_endsIn : ByteArray := prog_1_method_21_code
def yX7_endsIn : MethodName := ⟨RX7, "endsIn", "(II)I"⟩
abbrev cX7_wouldBeOn : ByteArray := prog_1_method_22_code
def yX7_wouldBeOn : MethodName := ⟨RX7, "wouldBeOn", "(II)I"⟩
abbrev cX7_bestPlace : ByteArray := prog_1_method_23_code
def yX7_bestPlace : MethodName := ⟨RX7, "bestPlace", "(II)I"⟩
abbrev cX7_digest : ByteArray := prog_1_method_24_code
def yX7_digest : MethodName := ⟨RX7, "digest", "()J"⟩
abbrev cX7_addMasts : ByteArray := prog_1_method_25_code
def yX7_addMasts : MethodName := ⟨RX7, "addMasts", "(J)J"⟩
abbrev cX7_addHandsets : ByteArray := prog_1_method_26_code
def yX7_addHandsets : MethodName := ⟨RX7, "addHandsets", "(J)J"⟩
abbrev cX7_addCalls : ByteArray := prog_1_method_27_code
def yX7_addCalls : MethodName := ⟨RX7, "addCalls", "(J)J"⟩
abbrev cX7_demandNumber : ByteArray := prog_1_method_28_code
def yX7_demandNumber : MethodName := ⟨RX7, "demandNumber", "(II)V"⟩
abbrev cX7_demandWithin : ByteArray := prog_1_method_29_code
def yX7_demandWithin : MethodName := ⟨RX7, "demandWithin", "(III)V"⟩
abbrev cX7_demandOthers : ByteArray := prog_1_method_30_code
def yX7_demandOthers : MethodName := ⟨RX7, "demandOthers", "(II)V"⟩
abbrev cX7_demandRoomForCall : ByteArray := prog_1_method_31_code
def yX7_demandRoomForCall : MethodName := ⟨RX7, "demandRoomForCall", "()V"⟩
def hh_w0 : List Cond := [.code yX0_init cX0_init 1 none, .methodLink RX0 3 objectInit, .instanceMethod objectInit, .code objectInit ⟨#[0xb1]⟩ 1 none, .classLink RX0 9 RX2, .instantiable RX2 6, .initialized RX2, .fieldLink RX0 12 "Handoverhouse$Call" "caller" "LHandoverhouse$Leg;", .fieldLink RX0 18 "Handoverhouse$Call" "other" "LHandoverhouse$Leg;", .fieldLink RX0 21 "Handoverhouse$Call" "ended" "I", .instanceMethod yX2_init, .code yX2_init cX2_init 1 none, .methodLink RX2 3 objectInit, .fieldLink RX2 9 "Handoverhouse$Leg" "handset" "I", .fieldLink RX2 15 "Handoverhouse$Leg" "mast" "I", .fieldLink RX2 18 "Handoverhouse$Leg" "leftMast" "I", .code yX0_hasLegOn cX0_hasLegOn 2 (some .boolean), .fieldLink RX0 25 "Handoverhouse$Leg" "mast" "I", .code yX0_copyFrom cX0_copyFrom 2 none, .fieldLink RX0 32 "Handoverhouse$Call" "seconds" "I", .fieldLink RX0 35 "Handoverhouse$Call" "paid" "I", .fieldLink RX0 38 "Handoverhouse$Call" "handovers" "I", .fieldLink RX0 41 "Handoverhouse$Call" "pingPongs" "I", .methodLink RX0 28 yX2_copyFrom, .instanceMethod yX2_copyFrom, .selects RX2 yX2_copyFrom yX2_copyFrom, .code yX2_copyFrom cX2_copyFrom 2 none, .fieldLink RX2 21 "Handoverhouse$Leg" "waits" "I", .fieldLink RX2 24 "Handoverhouse$Leg" "bad" "I", .fieldLink RX2 27 "Handoverhouse$Leg" "leftAt" "I", .code yX0_fact cX0_fact 2 (some .int), .fieldLink RX0 44 "Handoverhouse$Leg" "handset" "I", .code yX1_init cX1_init 1 none, .methodLink RX1 3 objectInit, .fieldLink RX1 9 "Handoverhouse$Handset" "mast" "I", .fieldLink RX1 15 "Handoverhouse$Handset" "call" "I", .fieldLink RX1 18 "Handoverhouse$Handset" "knownArea" "I", .fieldLink RX1 21 "Handoverhouse$Handset" "toldArea" "I", .code yX1_isIdle cX1_isIdle 1 (some .boolean), .fieldLink RX1 24 "Handoverhouse$Handset" "on" "Z"]
def hh_w1 : List Cond := [.code yX1_move cX1_move 1 none, .fieldLink RX1 28 "Handoverhouse$Handset" "place" "I", .fieldLink RX1 31 "Handoverhouse$Handset" "speed" "I", .code yX1_tell cX1_tell 3 none, .fieldLink RX1 34 "Handoverhouse$Handset" "toldAt" "I", .fieldLink RX1 37 "Handoverhouse$Handset" "updates" "I", .code yX1_copyFrom cX1_copyFrom 2 none, .fieldLink RX1 40 "Handoverhouse$Handset" "operator" "I", .fieldLink RX1 43 "Handoverhouse$Handset" "balance" "I", .fieldLink RX1 46 "Handoverhouse$Handset" "textsGot" "I", .fieldLink RX1 49 "Handoverhouse$Handset" "textsWaiting" "I", .code yX1_fact cX1_fact 2 (some .int), .code yX2_isUsed cX2_isUsed 1 (some .boolean), .code yX3_init cX3_init 1 none, .methodLink RX3 1 objectInit, .code yX3_distanceTo cX3_distanceTo 2 (some .int), .fieldLink RX3 7 "Handoverhouse$Mast" "place" "I", .code yX3_noiseAt cX3_noiseAt 3 (some .int), .fieldLink RX3 13 "Handoverhouse$Mast" "power" "I", .fieldLink RX3 20 "Handoverhouse$Mast" "awake" "Z", .methodLink RX3 16 yX3_distanceTo, .instanceMethod yX3_distanceTo, .selects RX3 yX3_distanceTo yX3_distanceTo, .initialized RX3, .code yX3_fact cX3_fact 2 (some .int), .fieldLink RX3 24 "Handoverhouse$Mast" "frequency" "I", .fieldLink RX3 27 "Handoverhouse$Mast" "channels" "I", .fieldLink RX3 30 "Handoverhouse$Mast" "area" "I", .fieldLink RX3 33 "Handoverhouse$Mast" "operator" "I", .code yX4_init cX4_init 2 none, .methodLink RX4 3 objectInit, .classLink RX4 9 RX3, .fieldLink RX4 11 "Handoverhouse$Masts" "all" "[LHandoverhouse$Mast;", .instantiable RX3 7, .classLink RX4 18 "[[I", .arrayClass .int, .fieldLink RX4 20 "Handoverhouse$Masts" "bareQuality" "[[I", .instanceMethod yX3_init, .code yX4_measure cX4_measure 3 none, .fieldLink RX4 23 "Handoverhouse$Masts" "count" "I"]
def hh_w2 : List Cond := [.methodLink RX4 27 yX4_measureOne, .instanceMethod yX4_measureOne, .selects RX4 yX4_measureOne yX4_measureOne, .initialized RX4, .code yX4_measureOne cX4_measureOne 6 (some .int), .fieldLink RX4 31 "Handoverhouse$Mast" "awake" "Z", .fieldLink RX4 35 "Handoverhouse$Mast" "power" "I", .fieldLink RX4 42 "Handoverhouse$Mast" "frequency" "I", .methodLink RX4 38 yX3_distanceTo, .methodLink RX4 45 yX3_noiseAt, .instanceMethod yX3_noiseAt, .selects RX3 yX3_noiseAt yX3_noiseAt, .code yX4_awakeInArea cX4_awakeInArea 4 (some .int), .fieldLink RX4 48 "Handoverhouse$Mast" "area" "I", .code yX4_awake cX4_awake 3 (some .int), .code yX5_init cX5_init 3 none, .methodLink RX5 3 objectInit, .fieldLink RX5 9 "Handoverhouse$Road" "masts" "LHandoverhouse$Masts;", .fieldLink RX5 15 "Handoverhouse$Road" "load" "[I", .fieldLink RX5 19 "Handoverhouse$Road" "carried" "[I", .classLink RX5 22 RX1, .fieldLink RX5 24 "Handoverhouse$Road" "handsets" "[LHandoverhouse$Handset;", .instantiable RX1 13, .initialized RX1, .classLink RX5 29 RX0, .fieldLink RX5 31 "Handoverhouse$Road" "calls" "[LHandoverhouse$Call;", .instantiable RX0 7, .initialized RX0, .instanceMethod yX1_init, .instanceMethod yX0_init, .code yX5_copyFrom cX5_copyFrom 3 none, .fieldLink RX5 36 "Handoverhouse$Road" "handsetCount" "I", .fieldLink RX5 44 "Handoverhouse$Road" "callCount" "I", .fieldLink RX5 50 "Handoverhouse$Road" "textCount" "I", .fieldLink RX5 53 "Handoverhouse$Road" "now" "I", .fieldLink RX5 56 "Handoverhouse$Road" "pages" "I", .methodLink RX5 40 yX1_copyFrom, .instanceMethod yX1_copyFrom, .selects RX1 yX1_copyFrom yX1_copyFrom, .methodLink RX5 47 yX0_copyFrom]
def hh_w3 : List Cond := [.instanceMethod yX0_copyFrom, .selects RX0 yX0_copyFrom yX0_copyFrom, .code yX5_qualityAt cX5_qualityAt 3 (some .int), .fieldLink RX5 59 "Handoverhouse$Masts" "bareQuality" "[[I", .code yX5_isHeard cX5_isHeard 3 (some .boolean), .methodLink RX5 65 yX5_qualityAt, .instanceMethod yX5_qualityAt, .selects RX5 yX5_qualityAt yX5_qualityAt, .initialized RX5, .code yX5_bestHeardAt cX5_bestHeardAt 6 (some .int), .fieldLink RX5 69 "Handoverhouse$Masts" "count" "I", .code yX5_placesHeardWell cX5_placesHeardWell 4 (some .int), .methodLink RX5 72 yX5_bestHeardAt, .instanceMethod yX5_bestHeardAt, .selects RX5 yX5_bestHeardAt yX5_bestHeardAt, .code yX5_hasFreeChannels cX5_hasFreeChannels 3 (some .boolean), .fieldLink RX5 76 "Handoverhouse$Masts" "all" "[LHandoverhouse$Mast;", .fieldLink RX5 80 "Handoverhouse$Mast" "channels" "I", .code yX5_page cX5_page 3 (some .boolean), .fieldLink RX5 85 "Handoverhouse$Handset" "knownArea" "I", .fieldLink RX5 92 "Handoverhouse$Handset" "mast" "I", .methodLink RX5 88 yX4_awake, .instanceMethod yX4_awake, .selects RX4 yX4_awake yX4_awake, .methodLink RX5 95 yX4_awakeInArea, .instanceMethod yX4_awakeInArea, .selects RX4 yX4_awakeInArea yX4_awakeInArea, .methodLink RX5 98 yX5_isInArea, .instanceMethod yX5_isInArea, .selects RX5 yX5_isInArea yX5_isInArea, .code yX5_isInArea cX5_isInArea 3 (some .boolean), .fieldLink RX5 102 "Handoverhouse$Mast" "area" "I", .code yX5_wouldBeFound cX5_wouldBeFound 3 (some .boolean), .code yX5_handsetsToBeFound cX5_handsetsToBeFound 3 (some .int), .methodLink RX5 105 yX5_wouldBeFound, .instanceMethod yX5_wouldBeFound, .selects RX5 yX5_wouldBeFound yX5_wouldBeFound, .code yX5_forgetAreas cX5_forgetAreas 3 (some .int), .code yX5_second cX5_second 2 none, .fieldLink RX5 122 "Handoverhouse$Call" "caller" "LHandoverhouse$Leg;"]
def hh_w4 : List Cond := [.fieldLink RX5 130 "Handoverhouse$Call" "other" "LHandoverhouse$Leg;", .methodLink RX5 109 yX1_move, .instanceMethod yX1_move, .selects RX1 yX1_move yX1_move, .methodLink RX5 112 yX1_isIdle, .instanceMethod yX1_isIdle, .selects RX1 yX1_isIdle yX1_isIdle, .methodLink RX5 116 yX5_chooseMast, .instanceMethod yX5_chooseMast, .selects RX5 yX5_chooseMast yX5_chooseMast, .code yX5_chooseMast cX5_chooseMast 5 none, .fieldLink RX5 139 "Handoverhouse$Handset" "place" "I", .methodLink RX5 119 yX5_tellArea, .instanceMethod yX5_tellArea, .selects RX5 yX5_tellArea yX5_tellArea, .code yX5_tellArea cX5_tellArea 3 none, .fieldLink RX5 142 "Handoverhouse$Handset" "toldArea" "I", .fieldLink RX5 145 "Handoverhouse$Handset" "toldAt" "I", .methodLink RX5 148 yX1_tell, .instanceMethod yX1_tell, .selects RX1 yX1_tell yX1_tell, .methodLink RX5 126 yX5_lookAtLeg, .instanceMethod yX5_lookAtLeg, .selects RX5 yX5_lookAtLeg yX5_lookAtLeg, .code yX5_lookAtLeg cX5_lookAtLeg 7 none, .fieldLink RX5 152 "Handoverhouse$Call" "ended" "I", .fieldLink RX5 160 "Handoverhouse$Leg" "handset" "I", .fieldLink RX5 163 "Handoverhouse$Leg" "mast" "I", .fieldLink RX5 175 "Handoverhouse$Leg" "waits" "I", .fieldLink RX5 182 "Handoverhouse$Leg" "bad" "I", .methodLink RX5 155 yX2_isUsed, .instanceMethod yX2_isUsed, .selects RX2 yX2_isUsed yX2_isUsed, .methodLink RX5 164 yX5_candidateFor, .instanceMethod yX5_candidateFor, .selects RX5 yX5_candidateFor yX5_candidateFor, .code yX5_candidateFor cX5_candidateFor 7 (some .int), .fieldLink RX5 189 "Handoverhouse$Mast" "awake" "Z", .methodLink RX5 192 yX5_hasFreeChannels, .instanceMethod yX5_hasFreeChannels]
def hh_w5 : List Cond := [.selects RX5 yX5_hasFreeChannels yX5_hasFreeChannels, .methodLink RX5 167 yX5_isHeard, .instanceMethod yX5_isHeard, .selects RX5 yX5_isHeard yX5_isHeard, .methodLink RX5 171 yX5_isMuchBetter, .instanceMethod yX5_isMuchBetter, .selects RX5 yX5_isMuchBetter yX5_isMuchBetter, .code yX5_isMuchBetter cX5_isMuchBetter 4 (some .boolean), .methodLink RX5 178 yX5_handOver, .instanceMethod yX5_handOver, .selects RX5 yX5_handOver yX5_handOver, .code yX5_handOver cX5_handOver 4 none, .fieldLink RX5 195 "Handoverhouse$Call" "handovers" "I", .fieldLink RX5 198 "Handoverhouse$Leg" "leftMast" "I", .fieldLink RX5 201 "Handoverhouse$Leg" "leftAt" "I", .fieldLink RX5 204 "Handoverhouse$Call" "pingPongs" "I", .methodLink RX5 185 yX5_end, .instanceMethod yX5_end, .selects RX5 yX5_end yX5_end, .code yX5_end cX5_end 3 none, .methodLink RX5 251 yX5_release, .instanceMethod yX5_release, .selects RX5 yX5_release yX5_release, .code yX5_release cX5_release 2 none, .fieldLink RX5 244 "Handoverhouse$Handset" "call" "I", .methodLink RX5 133 yX5_charge, .instanceMethod yX5_charge, .selects RX5 yX5_charge yX5_charge, .code yX5_charge cX5_charge 4 none, .fieldLink RX5 211 "Handoverhouse$Handset" "balance" "I", .fieldLink RX5 214 "Handoverhouse$Call" "paid" "I", .fieldLink RX5 217 "Handoverhouse$Call" "seconds" "I", .methodLink RX5 207 yX5_price, .instanceMethod yX5_price, .selects RX5 yX5_price yX5_price, .code yX5_price cX5_price 3 (some .int), .fieldLink RX5 224 "Handoverhouse$Mast" "operator" "I", .fieldLink RX5 227 "Handoverhouse$Handset" "operator" "I", .methodLink RX5 220 yX5_carry, .instanceMethod yX5_carry]
def hh_w6 : List Cond := [.selects RX5 yX5_carry yX5_carry, .code yX5_carry cX5_carry 2 none, .methodLink RX5 136 yX5_deliverTexts, .instanceMethod yX5_deliverTexts, .selects RX5 yX5_deliverTexts yX5_deliverTexts, .code yX5_deliverTexts cX5_deliverTexts 2 none, .fieldLink RX5 228 "Handoverhouse$Handset" "textsGot" "I", .fieldLink RX5 231 "Handoverhouse$Handset" "textsWaiting" "I", .code yX5_tryCall cX5_tryCall 6 (some .int), .methodLink RX5 234 yX5_page, .instanceMethod yX5_page, .selects RX5 yX5_page yX5_page, .methodLink RX5 237 yX5_join, .instanceMethod yX5_join, .selects RX5 yX5_join yX5_join, .code yX5_join cX5_join 3 none, .code yX5_tryEmergency cX5_tryEmergency 4 (some .int), .methodLink RX5 241 yX5_callToPush, .instanceMethod yX5_callToPush, .selects RX5 yX5_callToPush yX5_callToPush, .code yX5_callToPush cX5_callToPush 4 (some .int), .methodLink RX5 247 yX0_hasLegOn, .instanceMethod yX0_hasLegOn, .selects RX0 yX0_hasLegOn yX0_hasLegOn, .code yX5_switchOff cX5_switchOff 2 none, .code yX5_sendAway cX5_sendAway 3 none, .code yX5_campersOn cX5_campersOn 4 (some .int), .code yX5_callsThat cX5_callsThat 4 (some .int), .code yX5_sumOfCalls cX5_sumOfCalls 4 (some .int), .methodLink RX5 254 yX0_fact, .instanceMethod yX0_fact, .selects RX0 yX0_fact yX0_fact, .code yX5_sumOfHandsets cX5_sumOfHandsets 4 (some .int), .methodLink RX5 257 yX1_fact, .instanceMethod yX1_fact, .selects RX1 yX1_fact yX1_fact, .code yX5_secondsOfEndedCalls cX5_secondsOfEndedCalls 3 (some .int), .code yX6_init cX6_init 1 none, .methodLink RX6 3 objectInit, .fieldLink RX6 9 "Handoverhouse$Survey" "undisturbed" "[I"]
def hh_w7 : List Cond := [.fieldLink RX6 15 "Handoverhouse$Survey" "disturbed" "[I", .fieldLink RX6 18 "Handoverhouse$Survey" "noise" "[I", .code yX6_take cX6_take 5 none, .fieldLink RX6 21 "Handoverhouse$Road" "masts" "LHandoverhouse$Masts;", .fieldLink RX6 27 "Handoverhouse$Masts" "count" "I", .methodLink RX6 33 yX6_takeMast, .instanceMethod yX6_takeMast, .selects RX6 yX6_takeMast yX6_takeMast, .initialized RX6, .code yX6_takeMast cX6_takeMast 7 none, .fieldLink RX6 37 "Handoverhouse$Masts" "all" "[LHandoverhouse$Mast;", .fieldLink RX6 45 "Handoverhouse$Mast" "frequency" "I", .methodLink RX6 50 Lib.Math.max.name, .static Lib.Math.max.name, .initialized "java/lang/Math", .code Lib.Math.max.name Lib.Math.max.code 2 (some .int), .methodLink RX6 41 yX5_qualityAt, .methodLink RX6 55 yX3_noiseAt, .code yX6_placeFor cX6_placeFor 6 (some .int), .methodLink RX6 59 yX6_servedFrom, .instanceMethod yX6_servedFrom, .selects RX6 yX6_servedFrom yX6_servedFrom, .code yX6_servedFrom cX6_servedFrom 7 (some .int), .methodLink RX6 62 Lib.Math.abs.name, .static Lib.Math.abs.name, .code Lib.Math.abs.name Lib.Math.abs.code 1 (some .int), .code yX7_init cX7_init 1 none, .methodLink RX7 1 objectInit, .classLink RX7 7 RX4, .instantiable RX4 3, .fieldLink RX7 10 "Handoverhouse" "masts" "LHandoverhouse$Masts;", .classLink RX7 16 RX5, .instantiable RX5 10, .fieldLink RX7 21 "Handoverhouse" "road" "LHandoverhouse$Road;", .fieldLink RX7 25 "Handoverhouse" "trial" "LHandoverhouse$Road;", .classLink RX7 28 RX6, .instantiable RX6 3, .fieldLink RX7 31 "Handoverhouse" "survey" "LHandoverhouse$Survey;", .methodLink RX7 9 yX4_init, .instanceMethod yX4_init]
def hh_w8 : List Cond := [.methodLink RX7 18 yX5_init, .instanceMethod yX5_init, .instanceMethod yX6_init, .code yX7_mast cX7_mast 8 (some .int), .fieldLink RX7 39 "Handoverhouse$Masts" "count" "I", .fieldLink RX7 50 "Handoverhouse$Masts" "all" "[LHandoverhouse$Mast;", .fieldLink RX7 54 "Handoverhouse$Mast" "place" "I", .fieldLink RX7 59 "Handoverhouse$Mast" "power" "I", .fieldLink RX7 62 "Handoverhouse$Mast" "frequency" "I", .fieldLink RX7 65 "Handoverhouse$Mast" "channels" "I", .fieldLink RX7 68 "Handoverhouse$Mast" "area" "I", .fieldLink RX7 71 "Handoverhouse$Mast" "operator" "I", .fieldLink RX7 74 "Handoverhouse$Mast" "awake" "Z", .methodLink RX7 35 yX7_demandWithin, .static yX7_demandWithin, .initialized RX7, .code yX7_demandWithin cX7_demandWithin 3 none, .methodLink RX7 78 yX4_measure, .instanceMethod yX4_measure, .selects RX4 yX4_measure yX4_measure, .code yX7_handset cX7_handset 6 (some .int), .fieldLink RX7 81 "Handoverhouse$Road" "handsetCount" "I", .fieldLink RX7 86 "Handoverhouse$Road" "handsets" "[LHandoverhouse$Handset;", .fieldLink RX7 90 "Handoverhouse$Handset" "operator" "I", .fieldLink RX7 93 "Handoverhouse$Handset" "place" "I", .fieldLink RX7 94 "Handoverhouse$Handset" "speed" "I", .fieldLink RX7 97 "Handoverhouse$Handset" "balance" "I", .fieldLink RX7 100 "Handoverhouse$Handset" "on" "Z", .code yX7_speed cX7_speed 4 (some .int), .methodLink RX7 103 yX7_demandNumber, .static yX7_demandNumber, .code yX7_demandNumber cX7_demandNumber 2 none, .code yX7_top cX7_top 3 (some .int), .code yX7_turn cX7_turn 4 (some .boolean), .methodLink RX7 107 yX5_switchOff, .instanceMethod yX5_switchOff, .selects RX5 yX5_switchOff yX5_switchOff, .code yX7_wake cX7_wake 3 (some .boolean), .fieldLink RX7 111 "Handoverhouse$Road" "load" "[I", .methodLink RX7 115 yX5_sendAway]
def hh_w9 : List Cond := [.instanceMethod yX5_sendAway, .selects RX5 yX5_sendAway yX5_sendAway, .code yX7_call cX7_call 3 (some .int), .methodLink RX7 119 yX7_demandOthers, .static yX7_demandOthers, .code yX7_demandOthers cX7_demandOthers 2 none, .methodLink RX7 122 yX7_demandRoomForCall, .instanceMethod yX7_demandRoomForCall, .selects RX7 yX7_demandRoomForCall yX7_demandRoomForCall, .code yX7_demandRoomForCall cX7_demandRoomForCall 1 none, .fieldLink RX7 133 "Handoverhouse$Road" "callCount" "I", .methodLink RX7 125 yX5_tryCall, .instanceMethod yX5_tryCall, .selects RX5 yX5_tryCall yX5_tryCall, .code yX7_emergency cX7_emergency 2 (some .int), .methodLink RX7 129 yX5_tryEmergency, .instanceMethod yX5_tryEmergency, .selects RX5 yX5_tryEmergency yX5_tryEmergency, .code yX7_hang cX7_hang 3 (some .int), .fieldLink RX7 136 "Handoverhouse$Road" "calls" "[LHandoverhouse$Call;", .fieldLink RX7 140 "Handoverhouse$Call" "ended" "I", .fieldLink RX7 151 "Handoverhouse$Call" "seconds" "I", .methodLink RX7 147 yX5_end, .code yX7_text cX7_text 3 (some .int), .fieldLink RX7 154 "Handoverhouse$Road" "textCount" "I", .fieldLink RX7 159 "Handoverhouse$Handset" "textsWaiting" "I", .code yX7_forget cX7_forget 1 (some .int), .methodLink RX7 162 yX5_forgetAreas, .instanceMethod yX5_forgetAreas, .selects RX5 yX5_forgetAreas yX5_forgetAreas, .code yX7_pass cX7_pass 4 (some .int), .methodLink RX7 166 yX5_callsThat, .instanceMethod yX5_callsThat, .selects RX5 yX5_callsThat yX5_callsThat, .methodLink RX7 169 yX5_second, .instanceMethod yX5_second, .selects RX5 yX5_second yX5_second, .code yX7_quality cX7_quality 3 (some .int), .methodLink RX7 172 yX5_qualityAt, .code yX7_best cX7_best 2 (some .int)]
def hh_w10 : List Cond := [.methodLink RX7 175 yX5_bestHeardAt, .code yX7_ofMast cX7_ofMast 3 (some .int), .fieldLink RX7 181 "Handoverhouse$Road" "carried" "[I", .methodLink RX7 178 yX5_campersOn, .instanceMethod yX5_campersOn, .selects RX5 yX5_campersOn yX5_campersOn, .methodLink RX7 184 yX3_fact, .instanceMethod yX3_fact, .selects RX3 yX3_fact yX3_fact, .code yX7_ofHandset cX7_ofHandset 3 (some .int), .methodLink RX7 187 yX1_fact, .code yX7_ofCall cX7_ofCall 3 (some .int), .methodLink RX7 188 yX0_fact, .code yX7_many cX7_many 2 (some .int), .fieldLink RX7 189 "Handoverhouse$Road" "now" "I", .fieldLink RX7 195 "Handoverhouse$Road" "pages" "I", .methodLink RX7 192 yX5_sumOfCalls, .instanceMethod yX5_sumOfCalls, .selects RX5 yX5_sumOfCalls yX5_sumOfCalls, .methodLink RX7 198 yX5_sumOfHandsets, .instanceMethod yX5_sumOfHandsets, .selects RX5 yX5_sumOfHandsets yX5_sumOfHandsets, .methodLink RX7 201 yX5_handsetsToBeFound, .instanceMethod yX5_handsetsToBeFound, .selects RX5 yX5_handsetsToBeFound yX5_handsetsToBeFound, .methodLink RX7 204 yX5_placesHeardWell, .instanceMethod yX5_placesHeardWell, .selects RX5 yX5_placesHeardWell yX5_placesHeardWell, .code yX7_meanSeconds cX7_meanSeconds 2 (some .double), .methodLink RX7 207 yX5_secondsOfEndedCalls, .instanceMethod yX5_secondsOfEndedCalls, .selects RX5 yX5_secondsOfEndedCalls yX5_secondsOfEndedCalls, .code yX7_endsIn cX7_endsIn 4 (some .int), .methodLink RX7 210 yX5_copyFrom, .instanceMethod yX5_copyFrom, .selects RX5 yX5_copyFrom yX5_copyFrom, .code yX7_wouldBeOn cX7_wouldBeOn 4 (some .int), .fieldLink RX7 214 "Handoverhouse$Handset" "mast" "I", .code yX7_bestPlace cX7_bestPlace 3 (some .int), .methodLink RX7 217 yX6_take]
def hh_w11 : List Cond := [.instanceMethod yX6_take, .selects RX6 yX6_take yX6_take, .methodLink RX7 221 yX6_placeFor, .instanceMethod yX6_placeFor, .selects RX6 yX6_placeFor yX6_placeFor, .code yX7_digest cX7_digest 4 (some .long), .constantLong RX7 224 (58188), .constantLong RX7 226 (31), .methodLink RX7 228 yX7_many, .instanceMethod yX7_many, .selects RX7 yX7_many yX7_many, .methodLink RX7 231 yX7_addMasts, .instanceMethod yX7_addMasts, .selects RX7 yX7_addMasts yX7_addMasts, .code yX7_addMasts cX7_addMasts 7 (some .long), .methodLink RX7 247 yX7_ofMast, .instanceMethod yX7_ofMast, .selects RX7 yX7_ofMast yX7_ofMast, .methodLink RX7 250 yX7_quality, .instanceMethod yX7_quality, .selects RX7 yX7_quality yX7_quality, .methodLink RX7 235 yX7_addHandsets, .instanceMethod yX7_addHandsets, .selects RX7 yX7_addHandsets yX7_addHandsets, .code yX7_addHandsets cX7_addHandsets 7 (some .long), .methodLink RX7 253 yX7_ofHandset, .instanceMethod yX7_ofHandset, .selects RX7 yX7_ofHandset yX7_ofHandset, .methodLink RX7 256 yX7_wouldBeOn, .instanceMethod yX7_wouldBeOn, .selects RX7 yX7_wouldBeOn yX7_wouldBeOn, .methodLink RX7 238 yX7_addCalls, .instanceMethod yX7_addCalls, .selects RX7 yX7_addCalls yX7_addCalls, .code yX7_addCalls cX7_addCalls 7 (some .long), .methodLink RX7 259 yX7_ofCall, .instanceMethod yX7_ofCall, .selects RX7 yX7_ofCall yX7_ofCall, .methodLink RX7 262 yX7_endsIn, .instanceMethod yX7_endsIn]
def hh_w12 : List Cond := [.selects RX7 yX7_endsIn yX7_endsIn, .methodLink RX7 241 yX7_best, .instanceMethod yX7_best, .selects RX7 yX7_best yX7_best, .methodLink RX7 244 yX7_bestPlace, .instanceMethod yX7_bestPlace, .selects RX7 yX7_bestPlace yX7_bestPlace]
def hh_wf : List Cond := wsX00 ++ (wsX10 ++ (wsX20 ++ (wsX30 ++ (wsX40 ++ (wsX50 ++ (wsX60 ++ (wsX70)))))))
def hh_wa : List Cond := hh_w0 ++ (hh_w1 ++ (hh_w2 ++ (hh_w3 ++ (hh_w4 ++ (hh_w5 ++ (hh_w6 ++ (hh_w7 ++ (hh_w8 ++ (hh_w9 ++ (hh_w10 ++ (hh_w11 ++ (hh_w12 ++ hh_wf))))))))))))
theorem hh_in0 : ∀ w ∈ hh_w0, w ∈ hh_wa := fun w h => List.mem_append_left _ h
theorem hh_in1 : ∀ w ∈ hh_w1, w ∈ hh_wa := fun w h => List.mem_append_right _ (List.mem_append_left _ h)
theorem hh_in2 : ∀ w ∈ hh_w2, w ∈ hh_wa := fun w h => List.mem_append_right _ (List.mem_append_right _ (List.mem_append_left _ h))
theorem hh_in3 : ∀ w ∈ hh_w3, w ∈ hh_wa := fun w h => List.mem_append_right _ (List.mem_append_right _ (List.mem_append_right _ (List.mem_append_left _ h)))
theorem hh_in4 : ∀ w ∈ hh_w4, w ∈ hh_wa := fun w h => List.mem_append_right _ (List.mem_append_right _ (List.mem_append_right _ (List.mem_append_right _ (List.mem_append_left _ h))))
theorem hh_in5 : ∀ w ∈ hh_w5, w ∈ hh_wa := fun w h => List.mem_append_right _ (List.mem_append_right _ (List.mem_append_right _ (List.mem_append_right _ (List.mem_append_right _ (List.mem_append_left _ h)))))
theorem hh_in6 : ∀ w ∈ hh_w6, w ∈ hh_wa := fun w h => List.mem_append_right _ (List.mem_append_right _ (List.mem_append_right _ (List.mem_append_right _ (List.mem_append_right _ (List.mem_append_right _ (List.mem_append_left _ h))))))
theorem hh_in7 : ∀ w ∈ hh_w7, w ∈ hh_wa := fun w h => List.mem_append_right _ (List.mem_append_right _ (List.mem_append_right _ (List.mem_append_right _ (List.mem_append_right _ (List.mem_append_right _ (List.mem_append_right _ (List.mem_append_left _ h)))))))
theorem hh_in8 : ∀ w ∈ hh_w8, w ∈ hh_wa := fun w h => List.mem_append_right _ (List.mem_append_right _ (List.mem_append_right _ (List.mem_append_right _ (List.mem_append_right _ (List.mem_append_right _ (List.mem_append_right _ (List.mem_append_right _ (List.mem_append_left _ h))))))))
theorem hh_in9 : ∀ w ∈ hh_w9, w ∈ hh_wa := fun w h => List.mem_append_right _ (List.mem_append_right _ (List.mem_append_right _ (List.mem_append_right _ (List.mem_append_right _ (List.mem_append_right _ (List.mem_append_right _ (List.mem_append_right _ (List.mem_append_right _ (List.mem_append_left _ h)))))))))
theorem hh_in10 : ∀ w ∈ hh_w10, w ∈ hh_wa := fun w h => List.mem_append_right _ (List.mem_append_right _ (List.mem_append_right _ (List.mem_append_right _ (List.mem_append_right _ (List.mem_append_right _ (List.mem_append_right _ (List.mem_append_right _ (List.mem_append_right _ (List.mem_append_right _ (List.mem_append_left _ h))))))))))
theorem hh_in11 : ∀ w ∈ hh_w11, w ∈ hh_wa := fun w h => List.mem_append_right _ (List.mem_append_right _ (List.mem_append_right _ (List.mem_append_right _ (List.mem_append_right _ (List.mem_append_right _ (List.mem_append_right _ (List.mem_append_right _ (List.mem_append_right _ (List.mem_append_right _ (List.mem_append_right _ (List.mem_append_left _ h)))))))))))
theorem hh_in12 : ∀ w ∈ hh_w12, w ∈ hh_wa := fun w h => List.mem_append_right _ (List.mem_append_right _ (List.mem_append_right _ (List.mem_append_right _ (List.mem_append_right _ (List.mem_append_right _ (List.mem_append_right _ (List.mem_append_right _ (List.mem_append_right _ (List.mem_append_right _ (List.mem_append_right _ (List.mem_append_right _ (List.mem_append_left _ h))))))))))))
theorem hh_inf : ∀ w ∈ hh_wf, w ∈ hh_wa := fun w h => List.mem_append_right _ (List.mem_append_right _ (List.mem_append_right _ (List.mem_append_right _ (List.mem_append_right _ (List.mem_append_right _ (List.mem_append_right _ (List.mem_append_right _ (List.mem_append_right _ (List.mem_append_right _ (List.mem_append_right _ (List.mem_append_right _ (List.mem_append_right _ h))))))))))))
theorem hh_uX0 : ∀ w ∈ wsX00, w ∈ hh_wa := fun w h => hh_inf w (List.mem_append_left _ h)
theorem hh_uX1 : ∀ w ∈ wsX10, w ∈ hh_wa := fun w h => hh_inf w (List.mem_append_right _ (List.mem_append_left _ h))
theorem hh_uX2 : ∀ w ∈ wsX20, w ∈ hh_wa := fun w h => hh_inf w (List.mem_append_right _ (List.mem_append_right _ (List.mem_append_left _ h)))
theorem hh_uX3 : ∀ w ∈ wsX30, w ∈ hh_wa := fun w h => hh_inf w (List.mem_append_right _ (List.mem_append_right _ (List.mem_append_right _ (List.mem_append_left _ h))))
theorem hh_uX4 : ∀ w ∈ wsX40, w ∈ hh_wa := fun w h => hh_inf w (List.mem_append_right _ (List.mem_append_right _ (List.mem_append_right _ (List.mem_append_right _ (List.mem_append_left _ h)))))
theorem hh_uX5 : ∀ w ∈ wsX50, w ∈ hh_wa := fun w h => hh_inf w (List.mem_append_right _ (List.mem_append_right _ (List.mem_append_right _ (List.mem_append_right _ (List.mem_append_right _ (List.mem_append_left _ h))))))
theorem hh_uX6 : ∀ w ∈ wsX60, w ∈ hh_wa := fun w h => hh_inf w (List.mem_append_right _ (List.mem_append_right _ (List.mem_append_right _ (List.mem_append_right _ (List.mem_append_right _ (List.mem_append_right _ (List.mem_append_left _ h)))))))
theorem hh_uX7 : ∀ w ∈ wsX70, w ∈ hh_wa := fun w h => hh_inf w (List.mem_append_right _ (List.mem_append_right _ (List.mem_append_right _ (List.mem_append_right _ (List.mem_append_right _ (List.mem_append_right _ (List.mem_append_right _ (h))))))))
theorem hh_good : GoodIn hh_wa hh_wa := fun w hw => ⟨hw, good_of_word (List.all_eq_true.mp (by decide +kernel : hh_wa.all goodWord = true) w hw)⟩
theorem hm_0 : (Cond.code yX0_init cX0_init 1 none) ∈ hh_wa := hh_in0 _ (List.mem_of_getElem? (i := 0) rfl)
theorem hm_1 : (Cond.methodLink RX0 3 objectInit) ∈ hh_wa := hh_in0 _ (List.mem_of_getElem? (i := 1) rfl)
theorem hm_2 : (Cond.instanceMethod objectInit) ∈ hh_wa := hh_in0 _ (List.mem_of_getElem? (i := 2) rfl)
theorem hm_3 : (Cond.code objectInit ⟨#[0xb1]⟩ 1 none) ∈ hh_wa := hh_in0 _ (List.mem_of_getElem? (i := 3) rfl)
theorem hm_4 : (Cond.classLink RX0 9 RX2) ∈ hh_wa := hh_in0 _ (List.mem_of_getElem? (i := 4) rfl)
theorem hm_5 : (Cond.instantiable RX2 6) ∈ hh_wa := hh_in0 _ (List.mem_of_getElem? (i := 5) rfl)
theorem hm_6 : (Cond.initialized RX2) ∈ hh_wa := hh_in0 _ (List.mem_of_getElem? (i := 6) rfl)
theorem hm_7 : (Cond.fieldLink RX0 12 "Handoverhouse$Call" "caller" "LHandoverhouse$Leg;") ∈ hh_wa := hh_in0 _ (List.mem_of_getElem? (i := 7) rfl)
theorem hm_8 : (Cond.fieldLink RX0 18 "Handoverhouse$Call" "other" "LHandoverhouse$Leg;") ∈ hh_wa := hh_in0 _ (List.mem_of_getElem? (i := 8) rfl)
theorem hm_9 : (Cond.fieldLink RX0 21 "Handoverhouse$Call" "ended" "I") ∈ hh_wa := hh_in0 _ (List.mem_of_getElem? (i := 9) rfl)
theorem hm_10 : (Cond.instanceMethod yX2_init) ∈ hh_wa := hh_in0 _ (List.mem_of_getElem? (i := 10) rfl)
theorem hm_11 : (Cond.code yX2_init cX2_init 1 none) ∈ hh_wa := hh_in0 _ (List.mem_of_getElem? (i := 11) rfl)
theorem hm_12 : (Cond.methodLink RX2 3 objectInit) ∈ hh_wa := hh_in0 _ (List.mem_of_getElem? (i := 12) rfl)
theorem hm_13 : (Cond.fieldLink RX2 9 "Handoverhouse$Leg" "handset" "I") ∈ hh_wa := hh_in0 _ (List.mem_of_getElem? (i := 13) rfl)
theorem hm_14 : (Cond.fieldLink RX2 15 "Handoverhouse$Leg" "mast" "I") ∈ hh_wa := hh_in0 _ (List.mem_of_getElem? (i := 14) rfl)
theorem hm_15 : (Cond.fieldLink RX2 18 "Handoverhouse$Leg" "leftMast" "I") ∈ hh_wa := hh_in0 _ (List.mem_of_getElem? (i := 15) rfl)
theorem hm_16 : (Cond.code yX0_hasLegOn cX0_hasLegOn 2 (some .boolean)) ∈ hh_wa := hh_in0 _ (List.mem_of_getElem? (i := 16) rfl)
theorem hm_17 : (Cond.fieldLink RX0 25 "Handoverhouse$Leg" "mast" "I") ∈ hh_wa := hh_in0 _ (List.mem_of_getElem? (i := 17) rfl)
theorem hm_18 : (Cond.code yX0_copyFrom cX0_copyFrom 2 none) ∈ hh_wa := hh_in0 _ (List.mem_of_getElem? (i := 18) rfl)
theorem hm_19 : (Cond.fieldLink RX0 32 "Handoverhouse$Call" "seconds" "I") ∈ hh_wa := hh_in0 _ (List.mem_of_getElem? (i := 19) rfl)
theorem hm_20 : (Cond.fieldLink RX0 35 "Handoverhouse$Call" "paid" "I") ∈ hh_wa := hh_in0 _ (List.mem_of_getElem? (i := 20) rfl)
theorem hm_21 : (Cond.fieldLink RX0 38 "Handoverhouse$Call" "handovers" "I") ∈ hh_wa := hh_in0 _ (List.mem_of_getElem? (i := 21) rfl)
theorem hm_22 : (Cond.fieldLink RX0 41 "Handoverhouse$Call" "pingPongs" "I") ∈ hh_wa := hh_in0 _ (List.mem_of_getElem? (i := 22) rfl)
theorem hm_23 : (Cond.methodLink RX0 28 yX2_copyFrom) ∈ hh_wa := hh_in0 _ (List.mem_of_getElem? (i := 23) rfl)
theorem hm_24 : (Cond.instanceMethod yX2_copyFrom) ∈ hh_wa := hh_in0 _ (List.mem_of_getElem? (i := 24) rfl)
theorem hm_25 : (Cond.selects RX2 yX2_copyFrom yX2_copyFrom) ∈ hh_wa := hh_in0 _ (List.mem_of_getElem? (i := 25) rfl)
theorem hm_26 : (Cond.code yX2_copyFrom cX2_copyFrom 2 none) ∈ hh_wa := hh_in0 _ (List.mem_of_getElem? (i := 26) rfl)
theorem hm_27 : (Cond.fieldLink RX2 21 "Handoverhouse$Leg" "waits" "I") ∈ hh_wa := hh_in0 _ (List.mem_of_getElem? (i := 27) rfl)
theorem hm_28 : (Cond.fieldLink RX2 24 "Handoverhouse$Leg" "bad" "I") ∈ hh_wa := hh_in0 _ (List.mem_of_getElem? (i := 28) rfl)
theorem hm_29 : (Cond.fieldLink RX2 27 "Handoverhouse$Leg" "leftAt" "I") ∈ hh_wa := hh_in0 _ (List.mem_of_getElem? (i := 29) rfl)
theorem hm_30 : (Cond.code yX0_fact cX0_fact 2 (some .int)) ∈ hh_wa := hh_in0 _ (List.mem_of_getElem? (i := 30) rfl)
theorem hm_31 : (Cond.fieldLink RX0 44 "Handoverhouse$Leg" "handset" "I") ∈ hh_wa := hh_in0 _ (List.mem_of_getElem? (i := 31) rfl)
theorem hm_32 : (Cond.code yX1_init cX1_init 1 none) ∈ hh_wa := hh_in0 _ (List.mem_of_getElem? (i := 32) rfl)
theorem hm_33 : (Cond.methodLink RX1 3 objectInit) ∈ hh_wa := hh_in0 _ (List.mem_of_getElem? (i := 33) rfl)
theorem hm_34 : (Cond.fieldLink RX1 9 "Handoverhouse$Handset" "mast" "I") ∈ hh_wa := hh_in0 _ (List.mem_of_getElem? (i := 34) rfl)
theorem hm_35 : (Cond.fieldLink RX1 15 "Handoverhouse$Handset" "call" "I") ∈ hh_wa := hh_in0 _ (List.mem_of_getElem? (i := 35) rfl)
theorem hm_36 : (Cond.fieldLink RX1 18 "Handoverhouse$Handset" "knownArea" "I") ∈ hh_wa := hh_in0 _ (List.mem_of_getElem? (i := 36) rfl)
theorem hm_37 : (Cond.fieldLink RX1 21 "Handoverhouse$Handset" "toldArea" "I") ∈ hh_wa := hh_in0 _ (List.mem_of_getElem? (i := 37) rfl)
theorem hm_38 : (Cond.code yX1_isIdle cX1_isIdle 1 (some .boolean)) ∈ hh_wa := hh_in0 _ (List.mem_of_getElem? (i := 38) rfl)
theorem hm_39 : (Cond.fieldLink RX1 24 "Handoverhouse$Handset" "on" "Z") ∈ hh_wa := hh_in0 _ (List.mem_of_getElem? (i := 39) rfl)
theorem hm_40 : (Cond.code yX1_move cX1_move 1 none) ∈ hh_wa := hh_in1 _ (List.mem_of_getElem? (i := 0) rfl)
theorem hm_41 : (Cond.fieldLink RX1 28 "Handoverhouse$Handset" "place" "I") ∈ hh_wa := hh_in1 _ (List.mem_of_getElem? (i := 1) rfl)
theorem hm_42 : (Cond.fieldLink RX1 31 "Handoverhouse$Handset" "speed" "I") ∈ hh_wa := hh_in1 _ (List.mem_of_getElem? (i := 2) rfl)
theorem hm_43 : (Cond.code yX1_tell cX1_tell 3 none) ∈ hh_wa := hh_in1 _ (List.mem_of_getElem? (i := 3) rfl)
theorem hm_44 : (Cond.fieldLink RX1 34 "Handoverhouse$Handset" "toldAt" "I") ∈ hh_wa := hh_in1 _ (List.mem_of_getElem? (i := 4) rfl)
theorem hm_45 : (Cond.fieldLink RX1 37 "Handoverhouse$Handset" "updates" "I") ∈ hh_wa := hh_in1 _ (List.mem_of_getElem? (i := 5) rfl)
theorem hm_46 : (Cond.code yX1_copyFrom cX1_copyFrom 2 none) ∈ hh_wa := hh_in1 _ (List.mem_of_getElem? (i := 6) rfl)
theorem hm_47 : (Cond.fieldLink RX1 40 "Handoverhouse$Handset" "operator" "I") ∈ hh_wa := hh_in1 _ (List.mem_of_getElem? (i := 7) rfl)
theorem hm_48 : (Cond.fieldLink RX1 43 "Handoverhouse$Handset" "balance" "I") ∈ hh_wa := hh_in1 _ (List.mem_of_getElem? (i := 8) rfl)
theorem hm_49 : (Cond.fieldLink RX1 46 "Handoverhouse$Handset" "textsGot" "I") ∈ hh_wa := hh_in1 _ (List.mem_of_getElem? (i := 9) rfl)
theorem hm_50 : (Cond.fieldLink RX1 49 "Handoverhouse$Handset" "textsWaiting" "I") ∈ hh_wa := hh_in1 _ (List.mem_of_getElem? (i := 10) rfl)
theorem hm_51 : (Cond.code yX1_fact cX1_fact 2 (some .int)) ∈ hh_wa := hh_in1 _ (List.mem_of_getElem? (i := 11) rfl)
theorem hm_52 : (Cond.code yX2_isUsed cX2_isUsed 1 (some .boolean)) ∈ hh_wa := hh_in1 _ (List.mem_of_getElem? (i := 12) rfl)
theorem hm_53 : (Cond.code yX3_init cX3_init 1 none) ∈ hh_wa := hh_in1 _ (List.mem_of_getElem? (i := 13) rfl)
theorem hm_54 : (Cond.methodLink RX3 1 objectInit) ∈ hh_wa := hh_in1 _ (List.mem_of_getElem? (i := 14) rfl)
theorem hm_55 : (Cond.code yX3_distanceTo cX3_distanceTo 2 (some .int)) ∈ hh_wa := hh_in1 _ (List.mem_of_getElem? (i := 15) rfl)
theorem hm_56 : (Cond.fieldLink RX3 7 "Handoverhouse$Mast" "place" "I") ∈ hh_wa := hh_in1 _ (List.mem_of_getElem? (i := 16) rfl)
theorem hm_57 : (Cond.code yX3_noiseAt cX3_noiseAt 3 (some .int)) ∈ hh_wa := hh_in1 _ (List.mem_of_getElem? (i := 17) rfl)
theorem hm_58 : (Cond.fieldLink RX3 13 "Handoverhouse$Mast" "power" "I") ∈ hh_wa := hh_in1 _ (List.mem_of_getElem? (i := 18) rfl)
theorem hm_59 : (Cond.fieldLink RX3 20 "Handoverhouse$Mast" "awake" "Z") ∈ hh_wa := hh_in1 _ (List.mem_of_getElem? (i := 19) rfl)
theorem hm_60 : (Cond.methodLink RX3 16 yX3_distanceTo) ∈ hh_wa := hh_in1 _ (List.mem_of_getElem? (i := 20) rfl)
theorem hm_61 : (Cond.instanceMethod yX3_distanceTo) ∈ hh_wa := hh_in1 _ (List.mem_of_getElem? (i := 21) rfl)
theorem hm_62 : (Cond.selects RX3 yX3_distanceTo yX3_distanceTo) ∈ hh_wa := hh_in1 _ (List.mem_of_getElem? (i := 22) rfl)
theorem hm_63 : (Cond.initialized RX3) ∈ hh_wa := hh_in1 _ (List.mem_of_getElem? (i := 23) rfl)
theorem hm_64 : (Cond.code yX3_fact cX3_fact 2 (some .int)) ∈ hh_wa := hh_in1 _ (List.mem_of_getElem? (i := 24) rfl)
theorem hm_65 : (Cond.fieldLink RX3 24 "Handoverhouse$Mast" "frequency" "I") ∈ hh_wa := hh_in1 _ (List.mem_of_getElem? (i := 25) rfl)
theorem hm_66 : (Cond.fieldLink RX3 27 "Handoverhouse$Mast" "channels" "I") ∈ hh_wa := hh_in1 _ (List.mem_of_getElem? (i := 26) rfl)
theorem hm_67 : (Cond.fieldLink RX3 30 "Handoverhouse$Mast" "area" "I") ∈ hh_wa := hh_in1 _ (List.mem_of_getElem? (i := 27) rfl)
theorem hm_68 : (Cond.fieldLink RX3 33 "Handoverhouse$Mast" "operator" "I") ∈ hh_wa := hh_in1 _ (List.mem_of_getElem? (i := 28) rfl)
theorem hm_69 : (Cond.code yX4_init cX4_init 2 none) ∈ hh_wa := hh_in1 _ (List.mem_of_getElem? (i := 29) rfl)
theorem hm_70 : (Cond.methodLink RX4 3 objectInit) ∈ hh_wa := hh_in1 _ (List.mem_of_getElem? (i := 30) rfl)
theorem hm_71 : (Cond.classLink RX4 9 RX3) ∈ hh_wa := hh_in1 _ (List.mem_of_getElem? (i := 31) rfl)
theorem hm_72 : (Cond.fieldLink RX4 11 "Handoverhouse$Masts" "all" "[LHandoverhouse$Mast;") ∈ hh_wa := hh_in1 _ (List.mem_of_getElem? (i := 32) rfl)
theorem hm_73 : (Cond.instantiable RX3 7) ∈ hh_wa := hh_in1 _ (List.mem_of_getElem? (i := 33) rfl)
theorem hm_74 : (Cond.classLink RX4 18 "[[I") ∈ hh_wa := hh_in1 _ (List.mem_of_getElem? (i := 34) rfl)
theorem hm_75 : (Cond.arrayClass .int) ∈ hh_wa := hh_in1 _ (List.mem_of_getElem? (i := 35) rfl)
theorem hm_76 : (Cond.fieldLink RX4 20 "Handoverhouse$Masts" "bareQuality" "[[I") ∈ hh_wa := hh_in1 _ (List.mem_of_getElem? (i := 36) rfl)
theorem hm_77 : (Cond.instanceMethod yX3_init) ∈ hh_wa := hh_in1 _ (List.mem_of_getElem? (i := 37) rfl)
theorem hm_78 : (Cond.code yX4_measure cX4_measure 3 none) ∈ hh_wa := hh_in1 _ (List.mem_of_getElem? (i := 38) rfl)
theorem hm_79 : (Cond.fieldLink RX4 23 "Handoverhouse$Masts" "count" "I") ∈ hh_wa := hh_in1 _ (List.mem_of_getElem? (i := 39) rfl)
theorem hm_80 : (Cond.methodLink RX4 27 yX4_measureOne) ∈ hh_wa := hh_in2 _ (List.mem_of_getElem? (i := 0) rfl)
theorem hm_81 : (Cond.instanceMethod yX4_measureOne) ∈ hh_wa := hh_in2 _ (List.mem_of_getElem? (i := 1) rfl)
theorem hm_82 : (Cond.selects RX4 yX4_measureOne yX4_measureOne) ∈ hh_wa := hh_in2 _ (List.mem_of_getElem? (i := 2) rfl)
theorem hm_83 : (Cond.initialized RX4) ∈ hh_wa := hh_in2 _ (List.mem_of_getElem? (i := 3) rfl)
theorem hm_84 : (Cond.code yX4_measureOne cX4_measureOne 6 (some .int)) ∈ hh_wa := hh_in2 _ (List.mem_of_getElem? (i := 4) rfl)
theorem hm_85 : (Cond.fieldLink RX4 31 "Handoverhouse$Mast" "awake" "Z") ∈ hh_wa := hh_in2 _ (List.mem_of_getElem? (i := 5) rfl)
theorem hm_86 : (Cond.fieldLink RX4 35 "Handoverhouse$Mast" "power" "I") ∈ hh_wa := hh_in2 _ (List.mem_of_getElem? (i := 6) rfl)
theorem hm_87 : (Cond.fieldLink RX4 42 "Handoverhouse$Mast" "frequency" "I") ∈ hh_wa := hh_in2 _ (List.mem_of_getElem? (i := 7) rfl)
theorem hm_88 : (Cond.methodLink RX4 38 yX3_distanceTo) ∈ hh_wa := hh_in2 _ (List.mem_of_getElem? (i := 8) rfl)
theorem hm_89 : (Cond.methodLink RX4 45 yX3_noiseAt) ∈ hh_wa := hh_in2 _ (List.mem_of_getElem? (i := 9) rfl)
theorem hm_90 : (Cond.instanceMethod yX3_noiseAt) ∈ hh_wa := hh_in2 _ (List.mem_of_getElem? (i := 10) rfl)
theorem hm_91 : (Cond.selects RX3 yX3_noiseAt yX3_noiseAt) ∈ hh_wa := hh_in2 _ (List.mem_of_getElem? (i := 11) rfl)
theorem hm_92 : (Cond.code yX4_awakeInArea cX4_awakeInArea 4 (some .int)) ∈ hh_wa := hh_in2 _ (List.mem_of_getElem? (i := 12) rfl)
theorem hm_93 : (Cond.fieldLink RX4 48 "Handoverhouse$Mast" "area" "I") ∈ hh_wa := hh_in2 _ (List.mem_of_getElem? (i := 13) rfl)
theorem hm_94 : (Cond.code yX4_awake cX4_awake 3 (some .int)) ∈ hh_wa := hh_in2 _ (List.mem_of_getElem? (i := 14) rfl)
theorem hm_95 : (Cond.code yX5_init cX5_init 3 none) ∈ hh_wa := hh_in2 _ (List.mem_of_getElem? (i := 15) rfl)
theorem hm_96 : (Cond.methodLink RX5 3 objectInit) ∈ hh_wa := hh_in2 _ (List.mem_of_getElem? (i := 16) rfl)
theorem hm_97 : (Cond.fieldLink RX5 9 "Handoverhouse$Road" "masts" "LHandoverhouse$Masts;") ∈ hh_wa := hh_in2 _ (List.mem_of_getElem? (i := 17) rfl)
theorem hm_98 : (Cond.fieldLink RX5 15 "Handoverhouse$Road" "load" "[I") ∈ hh_wa := hh_in2 _ (List.mem_of_getElem? (i := 18) rfl)
theorem hm_99 : (Cond.fieldLink RX5 19 "Handoverhouse$Road" "carried" "[I") ∈ hh_wa := hh_in2 _ (List.mem_of_getElem? (i := 19) rfl)
theorem hm_100 : (Cond.classLink RX5 22 RX1) ∈ hh_wa := hh_in2 _ (List.mem_of_getElem? (i := 20) rfl)
theorem hm_101 : (Cond.fieldLink RX5 24 "Handoverhouse$Road" "handsets" "[LHandoverhouse$Handset;") ∈ hh_wa := hh_in2 _ (List.mem_of_getElem? (i := 21) rfl)
theorem hm_102 : (Cond.instantiable RX1 13) ∈ hh_wa := hh_in2 _ (List.mem_of_getElem? (i := 22) rfl)
theorem hm_103 : (Cond.initialized RX1) ∈ hh_wa := hh_in2 _ (List.mem_of_getElem? (i := 23) rfl)
theorem hm_104 : (Cond.classLink RX5 29 RX0) ∈ hh_wa := hh_in2 _ (List.mem_of_getElem? (i := 24) rfl)
theorem hm_105 : (Cond.fieldLink RX5 31 "Handoverhouse$Road" "calls" "[LHandoverhouse$Call;") ∈ hh_wa := hh_in2 _ (List.mem_of_getElem? (i := 25) rfl)
theorem hm_106 : (Cond.instantiable RX0 7) ∈ hh_wa := hh_in2 _ (List.mem_of_getElem? (i := 26) rfl)
theorem hm_107 : (Cond.initialized RX0) ∈ hh_wa := hh_in2 _ (List.mem_of_getElem? (i := 27) rfl)
theorem hm_108 : (Cond.instanceMethod yX1_init) ∈ hh_wa := hh_in2 _ (List.mem_of_getElem? (i := 28) rfl)
theorem hm_109 : (Cond.instanceMethod yX0_init) ∈ hh_wa := hh_in2 _ (List.mem_of_getElem? (i := 29) rfl)
theorem hm_110 : (Cond.code yX5_copyFrom cX5_copyFrom 3 none) ∈ hh_wa := hh_in2 _ (List.mem_of_getElem? (i := 30) rfl)
theorem hm_111 : (Cond.fieldLink RX5 36 "Handoverhouse$Road" "handsetCount" "I") ∈ hh_wa := hh_in2 _ (List.mem_of_getElem? (i := 31) rfl)
theorem hm_112 : (Cond.fieldLink RX5 44 "Handoverhouse$Road" "callCount" "I") ∈ hh_wa := hh_in2 _ (List.mem_of_getElem? (i := 32) rfl)
theorem hm_113 : (Cond.fieldLink RX5 50 "Handoverhouse$Road" "textCount" "I") ∈ hh_wa := hh_in2 _ (List.mem_of_getElem? (i := 33) rfl)
theorem hm_114 : (Cond.fieldLink RX5 53 "Handoverhouse$Road" "now" "I") ∈ hh_wa := hh_in2 _ (List.mem_of_getElem? (i := 34) rfl)
theorem hm_115 : (Cond.fieldLink RX5 56 "Handoverhouse$Road" "pages" "I") ∈ hh_wa := hh_in2 _ (List.mem_of_getElem? (i := 35) rfl)
theorem hm_116 : (Cond.methodLink RX5 40 yX1_copyFrom) ∈ hh_wa := hh_in2 _ (List.mem_of_getElem? (i := 36) rfl)
theorem hm_117 : (Cond.instanceMethod yX1_copyFrom) ∈ hh_wa := hh_in2 _ (List.mem_of_getElem? (i := 37) rfl)
theorem hm_118 : (Cond.selects RX1 yX1_copyFrom yX1_copyFrom) ∈ hh_wa := hh_in2 _ (List.mem_of_getElem? (i := 38) rfl)
theorem hm_119 : (Cond.methodLink RX5 47 yX0_copyFrom) ∈ hh_wa := hh_in2 _ (List.mem_of_getElem? (i := 39) rfl)
theorem hm_120 : (Cond.instanceMethod yX0_copyFrom) ∈ hh_wa := hh_in3 _ (List.mem_of_getElem? (i := 0) rfl)
theorem hm_121 : (Cond.selects RX0 yX0_copyFrom yX0_copyFrom) ∈ hh_wa := hh_in3 _ (List.mem_of_getElem? (i := 1) rfl)
theorem hm_122 : (Cond.code yX5_qualityAt cX5_qualityAt 3 (some .int)) ∈ hh_wa := hh_in3 _ (List.mem_of_getElem? (i := 2) rfl)
theorem hm_123 : (Cond.fieldLink RX5 59 "Handoverhouse$Masts" "bareQuality" "[[I") ∈ hh_wa := hh_in3 _ (List.mem_of_getElem? (i := 3) rfl)
theorem hm_124 : (Cond.code yX5_isHeard cX5_isHeard 3 (some .boolean)) ∈ hh_wa := hh_in3 _ (List.mem_of_getElem? (i := 4) rfl)
theorem hm_125 : (Cond.methodLink RX5 65 yX5_qualityAt) ∈ hh_wa := hh_in3 _ (List.mem_of_getElem? (i := 5) rfl)
theorem hm_126 : (Cond.instanceMethod yX5_qualityAt) ∈ hh_wa := hh_in3 _ (List.mem_of_getElem? (i := 6) rfl)
theorem hm_127 : (Cond.selects RX5 yX5_qualityAt yX5_qualityAt) ∈ hh_wa := hh_in3 _ (List.mem_of_getElem? (i := 7) rfl)
theorem hm_128 : (Cond.initialized RX5) ∈ hh_wa := hh_in3 _ (List.mem_of_getElem? (i := 8) rfl)
theorem hm_129 : (Cond.code yX5_bestHeardAt cX5_bestHeardAt 6 (some .int)) ∈ hh_wa := hh_in3 _ (List.mem_of_getElem? (i := 9) rfl)
theorem hm_130 : (Cond.fieldLink RX5 69 "Handoverhouse$Masts" "count" "I") ∈ hh_wa := hh_in3 _ (List.mem_of_getElem? (i := 10) rfl)
theorem hm_131 : (Cond.code yX5_placesHeardWell cX5_placesHeardWell 4 (some .int)) ∈ hh_wa := hh_in3 _ (List.mem_of_getElem? (i := 11) rfl)
theorem hm_132 : (Cond.methodLink RX5 72 yX5_bestHeardAt) ∈ hh_wa := hh_in3 _ (List.mem_of_getElem? (i := 12) rfl)
theorem hm_133 : (Cond.instanceMethod yX5_bestHeardAt) ∈ hh_wa := hh_in3 _ (List.mem_of_getElem? (i := 13) rfl)
theorem hm_134 : (Cond.selects RX5 yX5_bestHeardAt yX5_bestHeardAt) ∈ hh_wa := hh_in3 _ (List.mem_of_getElem? (i := 14) rfl)
theorem hm_135 : (Cond.code yX5_hasFreeChannels cX5_hasFreeChannels 3 (some .boolean)) ∈ hh_wa := hh_in3 _ (List.mem_of_getElem? (i := 15) rfl)
theorem hm_136 : (Cond.fieldLink RX5 76 "Handoverhouse$Masts" "all" "[LHandoverhouse$Mast;") ∈ hh_wa := hh_in3 _ (List.mem_of_getElem? (i := 16) rfl)
theorem hm_137 : (Cond.fieldLink RX5 80 "Handoverhouse$Mast" "channels" "I") ∈ hh_wa := hh_in3 _ (List.mem_of_getElem? (i := 17) rfl)
theorem hm_138 : (Cond.code yX5_page cX5_page 3 (some .boolean)) ∈ hh_wa := hh_in3 _ (List.mem_of_getElem? (i := 18) rfl)
theorem hm_139 : (Cond.fieldLink RX5 85 "Handoverhouse$Handset" "knownArea" "I") ∈ hh_wa := hh_in3 _ (List.mem_of_getElem? (i := 19) rfl)
theorem hm_140 : (Cond.fieldLink RX5 92 "Handoverhouse$Handset" "mast" "I") ∈ hh_wa := hh_in3 _ (List.mem_of_getElem? (i := 20) rfl)
theorem hm_141 : (Cond.methodLink RX5 88 yX4_awake) ∈ hh_wa := hh_in3 _ (List.mem_of_getElem? (i := 21) rfl)
theorem hm_142 : (Cond.instanceMethod yX4_awake) ∈ hh_wa := hh_in3 _ (List.mem_of_getElem? (i := 22) rfl)
theorem hm_143 : (Cond.selects RX4 yX4_awake yX4_awake) ∈ hh_wa := hh_in3 _ (List.mem_of_getElem? (i := 23) rfl)
theorem hm_144 : (Cond.methodLink RX5 95 yX4_awakeInArea) ∈ hh_wa := hh_in3 _ (List.mem_of_getElem? (i := 24) rfl)
theorem hm_145 : (Cond.instanceMethod yX4_awakeInArea) ∈ hh_wa := hh_in3 _ (List.mem_of_getElem? (i := 25) rfl)
theorem hm_146 : (Cond.selects RX4 yX4_awakeInArea yX4_awakeInArea) ∈ hh_wa := hh_in3 _ (List.mem_of_getElem? (i := 26) rfl)
theorem hm_147 : (Cond.methodLink RX5 98 yX5_isInArea) ∈ hh_wa := hh_in3 _ (List.mem_of_getElem? (i := 27) rfl)
theorem hm_148 : (Cond.instanceMethod yX5_isInArea) ∈ hh_wa := hh_in3 _ (List.mem_of_getElem? (i := 28) rfl)
theorem hm_149 : (Cond.selects RX5 yX5_isInArea yX5_isInArea) ∈ hh_wa := hh_in3 _ (List.mem_of_getElem? (i := 29) rfl)
theorem hm_150 : (Cond.code yX5_isInArea cX5_isInArea 3 (some .boolean)) ∈ hh_wa := hh_in3 _ (List.mem_of_getElem? (i := 30) rfl)
theorem hm_151 : (Cond.fieldLink RX5 102 "Handoverhouse$Mast" "area" "I") ∈ hh_wa := hh_in3 _ (List.mem_of_getElem? (i := 31) rfl)
theorem hm_152 : (Cond.code yX5_wouldBeFound cX5_wouldBeFound 3 (some .boolean)) ∈ hh_wa := hh_in3 _ (List.mem_of_getElem? (i := 32) rfl)
theorem hm_153 : (Cond.code yX5_handsetsToBeFound cX5_handsetsToBeFound 3 (some .int)) ∈ hh_wa := hh_in3 _ (List.mem_of_getElem? (i := 33) rfl)
theorem hm_154 : (Cond.methodLink RX5 105 yX5_wouldBeFound) ∈ hh_wa := hh_in3 _ (List.mem_of_getElem? (i := 34) rfl)
theorem hm_155 : (Cond.instanceMethod yX5_wouldBeFound) ∈ hh_wa := hh_in3 _ (List.mem_of_getElem? (i := 35) rfl)
theorem hm_156 : (Cond.selects RX5 yX5_wouldBeFound yX5_wouldBeFound) ∈ hh_wa := hh_in3 _ (List.mem_of_getElem? (i := 36) rfl)
theorem hm_157 : (Cond.code yX5_forgetAreas cX5_forgetAreas 3 (some .int)) ∈ hh_wa := hh_in3 _ (List.mem_of_getElem? (i := 37) rfl)
theorem hm_158 : (Cond.code yX5_second cX5_second 2 none) ∈ hh_wa := hh_in3 _ (List.mem_of_getElem? (i := 38) rfl)
theorem hm_159 : (Cond.fieldLink RX5 122 "Handoverhouse$Call" "caller" "LHandoverhouse$Leg;") ∈ hh_wa := hh_in3 _ (List.mem_of_getElem? (i := 39) rfl)
theorem hm_160 : (Cond.fieldLink RX5 130 "Handoverhouse$Call" "other" "LHandoverhouse$Leg;") ∈ hh_wa := hh_in4 _ (List.mem_of_getElem? (i := 0) rfl)
theorem hm_161 : (Cond.methodLink RX5 109 yX1_move) ∈ hh_wa := hh_in4 _ (List.mem_of_getElem? (i := 1) rfl)
theorem hm_162 : (Cond.instanceMethod yX1_move) ∈ hh_wa := hh_in4 _ (List.mem_of_getElem? (i := 2) rfl)
theorem hm_163 : (Cond.selects RX1 yX1_move yX1_move) ∈ hh_wa := hh_in4 _ (List.mem_of_getElem? (i := 3) rfl)
theorem hm_164 : (Cond.methodLink RX5 112 yX1_isIdle) ∈ hh_wa := hh_in4 _ (List.mem_of_getElem? (i := 4) rfl)
theorem hm_165 : (Cond.instanceMethod yX1_isIdle) ∈ hh_wa := hh_in4 _ (List.mem_of_getElem? (i := 5) rfl)
theorem hm_166 : (Cond.selects RX1 yX1_isIdle yX1_isIdle) ∈ hh_wa := hh_in4 _ (List.mem_of_getElem? (i := 6) rfl)
theorem hm_167 : (Cond.methodLink RX5 116 yX5_chooseMast) ∈ hh_wa := hh_in4 _ (List.mem_of_getElem? (i := 7) rfl)
theorem hm_168 : (Cond.instanceMethod yX5_chooseMast) ∈ hh_wa := hh_in4 _ (List.mem_of_getElem? (i := 8) rfl)
theorem hm_169 : (Cond.selects RX5 yX5_chooseMast yX5_chooseMast) ∈ hh_wa := hh_in4 _ (List.mem_of_getElem? (i := 9) rfl)
theorem hm_170 : (Cond.code yX5_chooseMast cX5_chooseMast 5 none) ∈ hh_wa := hh_in4 _ (List.mem_of_getElem? (i := 10) rfl)
theorem hm_171 : (Cond.fieldLink RX5 139 "Handoverhouse$Handset" "place" "I") ∈ hh_wa := hh_in4 _ (List.mem_of_getElem? (i := 11) rfl)
theorem hm_172 : (Cond.methodLink RX5 119 yX5_tellArea) ∈ hh_wa := hh_in4 _ (List.mem_of_getElem? (i := 12) rfl)
theorem hm_173 : (Cond.instanceMethod yX5_tellArea) ∈ hh_wa := hh_in4 _ (List.mem_of_getElem? (i := 13) rfl)
theorem hm_174 : (Cond.selects RX5 yX5_tellArea yX5_tellArea) ∈ hh_wa := hh_in4 _ (List.mem_of_getElem? (i := 14) rfl)
theorem hm_175 : (Cond.code yX5_tellArea cX5_tellArea 3 none) ∈ hh_wa := hh_in4 _ (List.mem_of_getElem? (i := 15) rfl)
theorem hm_176 : (Cond.fieldLink RX5 142 "Handoverhouse$Handset" "toldArea" "I") ∈ hh_wa := hh_in4 _ (List.mem_of_getElem? (i := 16) rfl)
theorem hm_177 : (Cond.fieldLink RX5 145 "Handoverhouse$Handset" "toldAt" "I") ∈ hh_wa := hh_in4 _ (List.mem_of_getElem? (i := 17) rfl)
theorem hm_178 : (Cond.methodLink RX5 148 yX1_tell) ∈ hh_wa := hh_in4 _ (List.mem_of_getElem? (i := 18) rfl)
theorem hm_179 : (Cond.instanceMethod yX1_tell) ∈ hh_wa := hh_in4 _ (List.mem_of_getElem? (i := 19) rfl)
theorem hm_180 : (Cond.selects RX1 yX1_tell yX1_tell) ∈ hh_wa := hh_in4 _ (List.mem_of_getElem? (i := 20) rfl)
theorem hm_181 : (Cond.methodLink RX5 126 yX5_lookAtLeg) ∈ hh_wa := hh_in4 _ (List.mem_of_getElem? (i := 21) rfl)
theorem hm_182 : (Cond.instanceMethod yX5_lookAtLeg) ∈ hh_wa := hh_in4 _ (List.mem_of_getElem? (i := 22) rfl)
theorem hm_183 : (Cond.selects RX5 yX5_lookAtLeg yX5_lookAtLeg) ∈ hh_wa := hh_in4 _ (List.mem_of_getElem? (i := 23) rfl)
theorem hm_184 : (Cond.code yX5_lookAtLeg cX5_lookAtLeg 7 none) ∈ hh_wa := hh_in4 _ (List.mem_of_getElem? (i := 24) rfl)
theorem hm_185 : (Cond.fieldLink RX5 152 "Handoverhouse$Call" "ended" "I") ∈ hh_wa := hh_in4 _ (List.mem_of_getElem? (i := 25) rfl)
theorem hm_186 : (Cond.fieldLink RX5 160 "Handoverhouse$Leg" "handset" "I") ∈ hh_wa := hh_in4 _ (List.mem_of_getElem? (i := 26) rfl)
theorem hm_187 : (Cond.fieldLink RX5 163 "Handoverhouse$Leg" "mast" "I") ∈ hh_wa := hh_in4 _ (List.mem_of_getElem? (i := 27) rfl)
theorem hm_188 : (Cond.fieldLink RX5 175 "Handoverhouse$Leg" "waits" "I") ∈ hh_wa := hh_in4 _ (List.mem_of_getElem? (i := 28) rfl)
theorem hm_189 : (Cond.fieldLink RX5 182 "Handoverhouse$Leg" "bad" "I") ∈ hh_wa := hh_in4 _ (List.mem_of_getElem? (i := 29) rfl)
theorem hm_190 : (Cond.methodLink RX5 155 yX2_isUsed) ∈ hh_wa := hh_in4 _ (List.mem_of_getElem? (i := 30) rfl)
theorem hm_191 : (Cond.instanceMethod yX2_isUsed) ∈ hh_wa := hh_in4 _ (List.mem_of_getElem? (i := 31) rfl)
theorem hm_192 : (Cond.selects RX2 yX2_isUsed yX2_isUsed) ∈ hh_wa := hh_in4 _ (List.mem_of_getElem? (i := 32) rfl)
theorem hm_193 : (Cond.methodLink RX5 164 yX5_candidateFor) ∈ hh_wa := hh_in4 _ (List.mem_of_getElem? (i := 33) rfl)
theorem hm_194 : (Cond.instanceMethod yX5_candidateFor) ∈ hh_wa := hh_in4 _ (List.mem_of_getElem? (i := 34) rfl)
theorem hm_195 : (Cond.selects RX5 yX5_candidateFor yX5_candidateFor) ∈ hh_wa := hh_in4 _ (List.mem_of_getElem? (i := 35) rfl)
theorem hm_196 : (Cond.code yX5_candidateFor cX5_candidateFor 7 (some .int)) ∈ hh_wa := hh_in4 _ (List.mem_of_getElem? (i := 36) rfl)
theorem hm_197 : (Cond.fieldLink RX5 189 "Handoverhouse$Mast" "awake" "Z") ∈ hh_wa := hh_in4 _ (List.mem_of_getElem? (i := 37) rfl)
theorem hm_198 : (Cond.methodLink RX5 192 yX5_hasFreeChannels) ∈ hh_wa := hh_in4 _ (List.mem_of_getElem? (i := 38) rfl)
theorem hm_199 : (Cond.instanceMethod yX5_hasFreeChannels) ∈ hh_wa := hh_in4 _ (List.mem_of_getElem? (i := 39) rfl)
theorem hm_200 : (Cond.selects RX5 yX5_hasFreeChannels yX5_hasFreeChannels) ∈ hh_wa := hh_in5 _ (List.mem_of_getElem? (i := 0) rfl)
theorem hm_201 : (Cond.methodLink RX5 167 yX5_isHeard) ∈ hh_wa := hh_in5 _ (List.mem_of_getElem? (i := 1) rfl)
theorem hm_202 : (Cond.instanceMethod yX5_isHeard) ∈ hh_wa := hh_in5 _ (List.mem_of_getElem? (i := 2) rfl)
theorem hm_203 : (Cond.selects RX5 yX5_isHeard yX5_isHeard) ∈ hh_wa := hh_in5 _ (List.mem_of_getElem? (i := 3) rfl)
theorem hm_204 : (Cond.methodLink RX5 171 yX5_isMuchBetter) ∈ hh_wa := hh_in5 _ (List.mem_of_getElem? (i := 4) rfl)
theorem hm_205 : (Cond.instanceMethod yX5_isMuchBetter) ∈ hh_wa := hh_in5 _ (List.mem_of_getElem? (i := 5) rfl)
theorem hm_206 : (Cond.selects RX5 yX5_isMuchBetter yX5_isMuchBetter) ∈ hh_wa := hh_in5 _ (List.mem_of_getElem? (i := 6) rfl)
theorem hm_207 : (Cond.code yX5_isMuchBetter cX5_isMuchBetter 4 (some .boolean)) ∈ hh_wa := hh_in5 _ (List.mem_of_getElem? (i := 7) rfl)
theorem hm_208 : (Cond.methodLink RX5 178 yX5_handOver) ∈ hh_wa := hh_in5 _ (List.mem_of_getElem? (i := 8) rfl)
theorem hm_209 : (Cond.instanceMethod yX5_handOver) ∈ hh_wa := hh_in5 _ (List.mem_of_getElem? (i := 9) rfl)
theorem hm_210 : (Cond.selects RX5 yX5_handOver yX5_handOver) ∈ hh_wa := hh_in5 _ (List.mem_of_getElem? (i := 10) rfl)
theorem hm_211 : (Cond.code yX5_handOver cX5_handOver 4 none) ∈ hh_wa := hh_in5 _ (List.mem_of_getElem? (i := 11) rfl)
theorem hm_212 : (Cond.fieldLink RX5 195 "Handoverhouse$Call" "handovers" "I") ∈ hh_wa := hh_in5 _ (List.mem_of_getElem? (i := 12) rfl)
theorem hm_213 : (Cond.fieldLink RX5 198 "Handoverhouse$Leg" "leftMast" "I") ∈ hh_wa := hh_in5 _ (List.mem_of_getElem? (i := 13) rfl)
theorem hm_214 : (Cond.fieldLink RX5 201 "Handoverhouse$Leg" "leftAt" "I") ∈ hh_wa := hh_in5 _ (List.mem_of_getElem? (i := 14) rfl)
theorem hm_215 : (Cond.fieldLink RX5 204 "Handoverhouse$Call" "pingPongs" "I") ∈ hh_wa := hh_in5 _ (List.mem_of_getElem? (i := 15) rfl)
theorem hm_216 : (Cond.methodLink RX5 185 yX5_end) ∈ hh_wa := hh_in5 _ (List.mem_of_getElem? (i := 16) rfl)
theorem hm_217 : (Cond.instanceMethod yX5_end) ∈ hh_wa := hh_in5 _ (List.mem_of_getElem? (i := 17) rfl)
theorem hm_218 : (Cond.selects RX5 yX5_end yX5_end) ∈ hh_wa := hh_in5 _ (List.mem_of_getElem? (i := 18) rfl)
theorem hm_219 : (Cond.code yX5_end cX5_end 3 none) ∈ hh_wa := hh_in5 _ (List.mem_of_getElem? (i := 19) rfl)
theorem hm_220 : (Cond.methodLink RX5 251 yX5_release) ∈ hh_wa := hh_in5 _ (List.mem_of_getElem? (i := 20) rfl)
theorem hm_221 : (Cond.instanceMethod yX5_release) ∈ hh_wa := hh_in5 _ (List.mem_of_getElem? (i := 21) rfl)
theorem hm_222 : (Cond.selects RX5 yX5_release yX5_release) ∈ hh_wa := hh_in5 _ (List.mem_of_getElem? (i := 22) rfl)
theorem hm_223 : (Cond.code yX5_release cX5_release 2 none) ∈ hh_wa := hh_in5 _ (List.mem_of_getElem? (i := 23) rfl)
theorem hm_224 : (Cond.fieldLink RX5 244 "Handoverhouse$Handset" "call" "I") ∈ hh_wa := hh_in5 _ (List.mem_of_getElem? (i := 24) rfl)
theorem hm_225 : (Cond.methodLink RX5 133 yX5_charge) ∈ hh_wa := hh_in5 _ (List.mem_of_getElem? (i := 25) rfl)
theorem hm_226 : (Cond.instanceMethod yX5_charge) ∈ hh_wa := hh_in5 _ (List.mem_of_getElem? (i := 26) rfl)
theorem hm_227 : (Cond.selects RX5 yX5_charge yX5_charge) ∈ hh_wa := hh_in5 _ (List.mem_of_getElem? (i := 27) rfl)
theorem hm_228 : (Cond.code yX5_charge cX5_charge 4 none) ∈ hh_wa := hh_in5 _ (List.mem_of_getElem? (i := 28) rfl)
theorem hm_229 : (Cond.fieldLink RX5 211 "Handoverhouse$Handset" "balance" "I") ∈ hh_wa := hh_in5 _ (List.mem_of_getElem? (i := 29) rfl)
theorem hm_230 : (Cond.fieldLink RX5 214 "Handoverhouse$Call" "paid" "I") ∈ hh_wa := hh_in5 _ (List.mem_of_getElem? (i := 30) rfl)
theorem hm_231 : (Cond.fieldLink RX5 217 "Handoverhouse$Call" "seconds" "I") ∈ hh_wa := hh_in5 _ (List.mem_of_getElem? (i := 31) rfl)
theorem hm_232 : (Cond.methodLink RX5 207 yX5_price) ∈ hh_wa := hh_in5 _ (List.mem_of_getElem? (i := 32) rfl)
theorem hm_233 : (Cond.instanceMethod yX5_price) ∈ hh_wa := hh_in5 _ (List.mem_of_getElem? (i := 33) rfl)
theorem hm_234 : (Cond.selects RX5 yX5_price yX5_price) ∈ hh_wa := hh_in5 _ (List.mem_of_getElem? (i := 34) rfl)
theorem hm_235 : (Cond.code yX5_price cX5_price 3 (some .int)) ∈ hh_wa := hh_in5 _ (List.mem_of_getElem? (i := 35) rfl)
theorem hm_236 : (Cond.fieldLink RX5 224 "Handoverhouse$Mast" "operator" "I") ∈ hh_wa := hh_in5 _ (List.mem_of_getElem? (i := 36) rfl)
theorem hm_237 : (Cond.fieldLink RX5 227 "Handoverhouse$Handset" "operator" "I") ∈ hh_wa := hh_in5 _ (List.mem_of_getElem? (i := 37) rfl)
theorem hm_238 : (Cond.methodLink RX5 220 yX5_carry) ∈ hh_wa := hh_in5 _ (List.mem_of_getElem? (i := 38) rfl)
theorem hm_239 : (Cond.instanceMethod yX5_carry) ∈ hh_wa := hh_in5 _ (List.mem_of_getElem? (i := 39) rfl)
theorem hm_240 : (Cond.selects RX5 yX5_carry yX5_carry) ∈ hh_wa := hh_in6 _ (List.mem_of_getElem? (i := 0) rfl)
theorem hm_241 : (Cond.code yX5_carry cX5_carry 2 none) ∈ hh_wa := hh_in6 _ (List.mem_of_getElem? (i := 1) rfl)
theorem hm_242 : (Cond.methodLink RX5 136 yX5_deliverTexts) ∈ hh_wa := hh_in6 _ (List.mem_of_getElem? (i := 2) rfl)
theorem hm_243 : (Cond.instanceMethod yX5_deliverTexts) ∈ hh_wa := hh_in6 _ (List.mem_of_getElem? (i := 3) rfl)
theorem hm_244 : (Cond.selects RX5 yX5_deliverTexts yX5_deliverTexts) ∈ hh_wa := hh_in6 _ (List.mem_of_getElem? (i := 4) rfl)
theorem hm_245 : (Cond.code yX5_deliverTexts cX5_deliverTexts 2 none) ∈ hh_wa := hh_in6 _ (List.mem_of_getElem? (i := 5) rfl)
theorem hm_246 : (Cond.fieldLink RX5 228 "Handoverhouse$Handset" "textsGot" "I") ∈ hh_wa := hh_in6 _ (List.mem_of_getElem? (i := 6) rfl)
theorem hm_247 : (Cond.fieldLink RX5 231 "Handoverhouse$Handset" "textsWaiting" "I") ∈ hh_wa := hh_in6 _ (List.mem_of_getElem? (i := 7) rfl)
theorem hm_248 : (Cond.code yX5_tryCall cX5_tryCall 6 (some .int)) ∈ hh_wa := hh_in6 _ (List.mem_of_getElem? (i := 8) rfl)
theorem hm_249 : (Cond.methodLink RX5 234 yX5_page) ∈ hh_wa := hh_in6 _ (List.mem_of_getElem? (i := 9) rfl)
theorem hm_250 : (Cond.instanceMethod yX5_page) ∈ hh_wa := hh_in6 _ (List.mem_of_getElem? (i := 10) rfl)
theorem hm_251 : (Cond.selects RX5 yX5_page yX5_page) ∈ hh_wa := hh_in6 _ (List.mem_of_getElem? (i := 11) rfl)
theorem hm_252 : (Cond.methodLink RX5 237 yX5_join) ∈ hh_wa := hh_in6 _ (List.mem_of_getElem? (i := 12) rfl)
theorem hm_253 : (Cond.instanceMethod yX5_join) ∈ hh_wa := hh_in6 _ (List.mem_of_getElem? (i := 13) rfl)
theorem hm_254 : (Cond.selects RX5 yX5_join yX5_join) ∈ hh_wa := hh_in6 _ (List.mem_of_getElem? (i := 14) rfl)
theorem hm_255 : (Cond.code yX5_join cX5_join 3 none) ∈ hh_wa := hh_in6 _ (List.mem_of_getElem? (i := 15) rfl)
theorem hm_256 : (Cond.code yX5_tryEmergency cX5_tryEmergency 4 (some .int)) ∈ hh_wa := hh_in6 _ (List.mem_of_getElem? (i := 16) rfl)
theorem hm_257 : (Cond.methodLink RX5 241 yX5_callToPush) ∈ hh_wa := hh_in6 _ (List.mem_of_getElem? (i := 17) rfl)
theorem hm_258 : (Cond.instanceMethod yX5_callToPush) ∈ hh_wa := hh_in6 _ (List.mem_of_getElem? (i := 18) rfl)
theorem hm_259 : (Cond.selects RX5 yX5_callToPush yX5_callToPush) ∈ hh_wa := hh_in6 _ (List.mem_of_getElem? (i := 19) rfl)
theorem hm_260 : (Cond.code yX5_callToPush cX5_callToPush 4 (some .int)) ∈ hh_wa := hh_in6 _ (List.mem_of_getElem? (i := 20) rfl)
theorem hm_261 : (Cond.methodLink RX5 247 yX0_hasLegOn) ∈ hh_wa := hh_in6 _ (List.mem_of_getElem? (i := 21) rfl)
theorem hm_262 : (Cond.instanceMethod yX0_hasLegOn) ∈ hh_wa := hh_in6 _ (List.mem_of_getElem? (i := 22) rfl)
theorem hm_263 : (Cond.selects RX0 yX0_hasLegOn yX0_hasLegOn) ∈ hh_wa := hh_in6 _ (List.mem_of_getElem? (i := 23) rfl)
theorem hm_264 : (Cond.code yX5_switchOff cX5_switchOff 2 none) ∈ hh_wa := hh_in6 _ (List.mem_of_getElem? (i := 24) rfl)
theorem hm_265 : (Cond.code yX5_sendAway cX5_sendAway 3 none) ∈ hh_wa := hh_in6 _ (List.mem_of_getElem? (i := 25) rfl)
theorem hm_266 : (Cond.code yX5_campersOn cX5_campersOn 4 (some .int)) ∈ hh_wa := hh_in6 _ (List.mem_of_getElem? (i := 26) rfl)
theorem hm_267 : (Cond.code yX5_callsThat cX5_callsThat 4 (some .int)) ∈ hh_wa := hh_in6 _ (List.mem_of_getElem? (i := 27) rfl)
theorem hm_268 : (Cond.code yX5_sumOfCalls cX5_sumOfCalls 4 (some .int)) ∈ hh_wa := hh_in6 _ (List.mem_of_getElem? (i := 28) rfl)
theorem hm_269 : (Cond.methodLink RX5 254 yX0_fact) ∈ hh_wa := hh_in6 _ (List.mem_of_getElem? (i := 29) rfl)
theorem hm_270 : (Cond.instanceMethod yX0_fact) ∈ hh_wa := hh_in6 _ (List.mem_of_getElem? (i := 30) rfl)
theorem hm_271 : (Cond.selects RX0 yX0_fact yX0_fact) ∈ hh_wa := hh_in6 _ (List.mem_of_getElem? (i := 31) rfl)
theorem hm_272 : (Cond.code yX5_sumOfHandsets cX5_sumOfHandsets 4 (some .int)) ∈ hh_wa := hh_in6 _ (List.mem_of_getElem? (i := 32) rfl)
theorem hm_273 : (Cond.methodLink RX5 257 yX1_fact) ∈ hh_wa := hh_in6 _ (List.mem_of_getElem? (i := 33) rfl)
theorem hm_274 : (Cond.instanceMethod yX1_fact) ∈ hh_wa := hh_in6 _ (List.mem_of_getElem? (i := 34) rfl)
theorem hm_275 : (Cond.selects RX1 yX1_fact yX1_fact) ∈ hh_wa := hh_in6 _ (List.mem_of_getElem? (i := 35) rfl)
theorem hm_276 : (Cond.code yX5_secondsOfEndedCalls cX5_secondsOfEndedCalls 3 (some .int)) ∈ hh_wa := hh_in6 _ (List.mem_of_getElem? (i := 36) rfl)
theorem hm_277 : (Cond.code yX6_init cX6_init 1 none) ∈ hh_wa := hh_in6 _ (List.mem_of_getElem? (i := 37) rfl)
theorem hm_278 : (Cond.methodLink RX6 3 objectInit) ∈ hh_wa := hh_in6 _ (List.mem_of_getElem? (i := 38) rfl)
theorem hm_279 : (Cond.fieldLink RX6 9 "Handoverhouse$Survey" "undisturbed" "[I") ∈ hh_wa := hh_in6 _ (List.mem_of_getElem? (i := 39) rfl)
theorem hm_280 : (Cond.fieldLink RX6 15 "Handoverhouse$Survey" "disturbed" "[I") ∈ hh_wa := hh_in7 _ (List.mem_of_getElem? (i := 0) rfl)
theorem hm_281 : (Cond.fieldLink RX6 18 "Handoverhouse$Survey" "noise" "[I") ∈ hh_wa := hh_in7 _ (List.mem_of_getElem? (i := 1) rfl)
theorem hm_282 : (Cond.code yX6_take cX6_take 5 none) ∈ hh_wa := hh_in7 _ (List.mem_of_getElem? (i := 2) rfl)
theorem hm_283 : (Cond.fieldLink RX6 21 "Handoverhouse$Road" "masts" "LHandoverhouse$Masts;") ∈ hh_wa := hh_in7 _ (List.mem_of_getElem? (i := 3) rfl)
theorem hm_284 : (Cond.fieldLink RX6 27 "Handoverhouse$Masts" "count" "I") ∈ hh_wa := hh_in7 _ (List.mem_of_getElem? (i := 4) rfl)
theorem hm_285 : (Cond.methodLink RX6 33 yX6_takeMast) ∈ hh_wa := hh_in7 _ (List.mem_of_getElem? (i := 5) rfl)
theorem hm_286 : (Cond.instanceMethod yX6_takeMast) ∈ hh_wa := hh_in7 _ (List.mem_of_getElem? (i := 6) rfl)
theorem hm_287 : (Cond.selects RX6 yX6_takeMast yX6_takeMast) ∈ hh_wa := hh_in7 _ (List.mem_of_getElem? (i := 7) rfl)
theorem hm_288 : (Cond.initialized RX6) ∈ hh_wa := hh_in7 _ (List.mem_of_getElem? (i := 8) rfl)
theorem hm_289 : (Cond.code yX6_takeMast cX6_takeMast 7 none) ∈ hh_wa := hh_in7 _ (List.mem_of_getElem? (i := 9) rfl)
theorem hm_290 : (Cond.fieldLink RX6 37 "Handoverhouse$Masts" "all" "[LHandoverhouse$Mast;") ∈ hh_wa := hh_in7 _ (List.mem_of_getElem? (i := 10) rfl)
theorem hm_291 : (Cond.fieldLink RX6 45 "Handoverhouse$Mast" "frequency" "I") ∈ hh_wa := hh_in7 _ (List.mem_of_getElem? (i := 11) rfl)
theorem hm_292 : (Cond.methodLink RX6 50 Lib.Math.max.name) ∈ hh_wa := hh_in7 _ (List.mem_of_getElem? (i := 12) rfl)
theorem hm_293 : (Cond.static Lib.Math.max.name) ∈ hh_wa := hh_in7 _ (List.mem_of_getElem? (i := 13) rfl)
theorem hm_294 : (Cond.initialized "java/lang/Math") ∈ hh_wa := hh_in7 _ (List.mem_of_getElem? (i := 14) rfl)
theorem hm_295 : (Cond.code Lib.Math.max.name Lib.Math.max.code 2 (some .int)) ∈ hh_wa := hh_in7 _ (List.mem_of_getElem? (i := 15) rfl)
theorem hm_296 : (Cond.methodLink RX6 41 yX5_qualityAt) ∈ hh_wa := hh_in7 _ (List.mem_of_getElem? (i := 16) rfl)
theorem hm_297 : (Cond.methodLink RX6 55 yX3_noiseAt) ∈ hh_wa := hh_in7 _ (List.mem_of_getElem? (i := 17) rfl)
theorem hm_298 : (Cond.code yX6_placeFor cX6_placeFor 6 (some .int)) ∈ hh_wa := hh_in7 _ (List.mem_of_getElem? (i := 18) rfl)
theorem hm_299 : (Cond.methodLink RX6 59 yX6_servedFrom) ∈ hh_wa := hh_in7 _ (List.mem_of_getElem? (i := 19) rfl)
theorem hm_300 : (Cond.instanceMethod yX6_servedFrom) ∈ hh_wa := hh_in7 _ (List.mem_of_getElem? (i := 20) rfl)
theorem hm_301 : (Cond.selects RX6 yX6_servedFrom yX6_servedFrom) ∈ hh_wa := hh_in7 _ (List.mem_of_getElem? (i := 21) rfl)
theorem hm_302 : (Cond.code yX6_servedFrom cX6_servedFrom 7 (some .int)) ∈ hh_wa := hh_in7 _ (List.mem_of_getElem? (i := 22) rfl)
theorem hm_303 : (Cond.methodLink RX6 62 Lib.Math.abs.name) ∈ hh_wa := hh_in7 _ (List.mem_of_getElem? (i := 23) rfl)
theorem hm_304 : (Cond.static Lib.Math.abs.name) ∈ hh_wa := hh_in7 _ (List.mem_of_getElem? (i := 24) rfl)
theorem hm_305 : (Cond.code Lib.Math.abs.name Lib.Math.abs.code 1 (some .int)) ∈ hh_wa := hh_in7 _ (List.mem_of_getElem? (i := 25) rfl)
theorem hm_306 : (Cond.code yX7_init cX7_init 1 none) ∈ hh_wa := hh_in7 _ (List.mem_of_getElem? (i := 26) rfl)
theorem hm_307 : (Cond.methodLink RX7 1 objectInit) ∈ hh_wa := hh_in7 _ (List.mem_of_getElem? (i := 27) rfl)
theorem hm_308 : (Cond.classLink RX7 7 RX4) ∈ hh_wa := hh_in7 _ (List.mem_of_getElem? (i := 28) rfl)
theorem hm_309 : (Cond.instantiable RX4 3) ∈ hh_wa := hh_in7 _ (List.mem_of_getElem? (i := 29) rfl)
theorem hm_310 : (Cond.fieldLink RX7 10 "Handoverhouse" "masts" "LHandoverhouse$Masts;") ∈ hh_wa := hh_in7 _ (List.mem_of_getElem? (i := 30) rfl)
theorem hm_311 : (Cond.classLink RX7 16 RX5) ∈ hh_wa := hh_in7 _ (List.mem_of_getElem? (i := 31) rfl)
theorem hm_312 : (Cond.instantiable RX5 10) ∈ hh_wa := hh_in7 _ (List.mem_of_getElem? (i := 32) rfl)
theorem hm_313 : (Cond.fieldLink RX7 21 "Handoverhouse" "road" "LHandoverhouse$Road;") ∈ hh_wa := hh_in7 _ (List.mem_of_getElem? (i := 33) rfl)
theorem hm_314 : (Cond.fieldLink RX7 25 "Handoverhouse" "trial" "LHandoverhouse$Road;") ∈ hh_wa := hh_in7 _ (List.mem_of_getElem? (i := 34) rfl)
theorem hm_315 : (Cond.classLink RX7 28 RX6) ∈ hh_wa := hh_in7 _ (List.mem_of_getElem? (i := 35) rfl)
theorem hm_316 : (Cond.instantiable RX6 3) ∈ hh_wa := hh_in7 _ (List.mem_of_getElem? (i := 36) rfl)
theorem hm_317 : (Cond.fieldLink RX7 31 "Handoverhouse" "survey" "LHandoverhouse$Survey;") ∈ hh_wa := hh_in7 _ (List.mem_of_getElem? (i := 37) rfl)
theorem hm_318 : (Cond.methodLink RX7 9 yX4_init) ∈ hh_wa := hh_in7 _ (List.mem_of_getElem? (i := 38) rfl)
theorem hm_319 : (Cond.instanceMethod yX4_init) ∈ hh_wa := hh_in7 _ (List.mem_of_getElem? (i := 39) rfl)
theorem hm_320 : (Cond.methodLink RX7 18 yX5_init) ∈ hh_wa := hh_in8 _ (List.mem_of_getElem? (i := 0) rfl)
theorem hm_321 : (Cond.instanceMethod yX5_init) ∈ hh_wa := hh_in8 _ (List.mem_of_getElem? (i := 1) rfl)
theorem hm_322 : (Cond.instanceMethod yX6_init) ∈ hh_wa := hh_in8 _ (List.mem_of_getElem? (i := 2) rfl)
theorem hm_323 : (Cond.code yX7_mast cX7_mast 8 (some .int)) ∈ hh_wa := hh_in8 _ (List.mem_of_getElem? (i := 3) rfl)
theorem hm_324 : (Cond.fieldLink RX7 39 "Handoverhouse$Masts" "count" "I") ∈ hh_wa := hh_in8 _ (List.mem_of_getElem? (i := 4) rfl)
theorem hm_325 : (Cond.fieldLink RX7 50 "Handoverhouse$Masts" "all" "[LHandoverhouse$Mast;") ∈ hh_wa := hh_in8 _ (List.mem_of_getElem? (i := 5) rfl)
theorem hm_326 : (Cond.fieldLink RX7 54 "Handoverhouse$Mast" "place" "I") ∈ hh_wa := hh_in8 _ (List.mem_of_getElem? (i := 6) rfl)
theorem hm_327 : (Cond.fieldLink RX7 59 "Handoverhouse$Mast" "power" "I") ∈ hh_wa := hh_in8 _ (List.mem_of_getElem? (i := 7) rfl)
theorem hm_328 : (Cond.fieldLink RX7 62 "Handoverhouse$Mast" "frequency" "I") ∈ hh_wa := hh_in8 _ (List.mem_of_getElem? (i := 8) rfl)
theorem hm_329 : (Cond.fieldLink RX7 65 "Handoverhouse$Mast" "channels" "I") ∈ hh_wa := hh_in8 _ (List.mem_of_getElem? (i := 9) rfl)
theorem hm_330 : (Cond.fieldLink RX7 68 "Handoverhouse$Mast" "area" "I") ∈ hh_wa := hh_in8 _ (List.mem_of_getElem? (i := 10) rfl)
theorem hm_331 : (Cond.fieldLink RX7 71 "Handoverhouse$Mast" "operator" "I") ∈ hh_wa := hh_in8 _ (List.mem_of_getElem? (i := 11) rfl)
theorem hm_332 : (Cond.fieldLink RX7 74 "Handoverhouse$Mast" "awake" "Z") ∈ hh_wa := hh_in8 _ (List.mem_of_getElem? (i := 12) rfl)
theorem hm_333 : (Cond.methodLink RX7 35 yX7_demandWithin) ∈ hh_wa := hh_in8 _ (List.mem_of_getElem? (i := 13) rfl)
theorem hm_334 : (Cond.static yX7_demandWithin) ∈ hh_wa := hh_in8 _ (List.mem_of_getElem? (i := 14) rfl)
theorem hm_335 : (Cond.initialized RX7) ∈ hh_wa := hh_in8 _ (List.mem_of_getElem? (i := 15) rfl)
theorem hm_336 : (Cond.code yX7_demandWithin cX7_demandWithin 3 none) ∈ hh_wa := hh_in8 _ (List.mem_of_getElem? (i := 16) rfl)
theorem hm_337 : (Cond.methodLink RX7 78 yX4_measure) ∈ hh_wa := hh_in8 _ (List.mem_of_getElem? (i := 17) rfl)
theorem hm_338 : (Cond.instanceMethod yX4_measure) ∈ hh_wa := hh_in8 _ (List.mem_of_getElem? (i := 18) rfl)
theorem hm_339 : (Cond.selects RX4 yX4_measure yX4_measure) ∈ hh_wa := hh_in8 _ (List.mem_of_getElem? (i := 19) rfl)
theorem hm_340 : (Cond.code yX7_handset cX7_handset 6 (some .int)) ∈ hh_wa := hh_in8 _ (List.mem_of_getElem? (i := 20) rfl)
theorem hm_341 : (Cond.fieldLink RX7 81 "Handoverhouse$Road" "handsetCount" "I") ∈ hh_wa := hh_in8 _ (List.mem_of_getElem? (i := 21) rfl)
theorem hm_342 : (Cond.fieldLink RX7 86 "Handoverhouse$Road" "handsets" "[LHandoverhouse$Handset;") ∈ hh_wa := hh_in8 _ (List.mem_of_getElem? (i := 22) rfl)
theorem hm_343 : (Cond.fieldLink RX7 90 "Handoverhouse$Handset" "operator" "I") ∈ hh_wa := hh_in8 _ (List.mem_of_getElem? (i := 23) rfl)
theorem hm_344 : (Cond.fieldLink RX7 93 "Handoverhouse$Handset" "place" "I") ∈ hh_wa := hh_in8 _ (List.mem_of_getElem? (i := 24) rfl)
theorem hm_345 : (Cond.fieldLink RX7 94 "Handoverhouse$Handset" "speed" "I") ∈ hh_wa := hh_in8 _ (List.mem_of_getElem? (i := 25) rfl)
theorem hm_346 : (Cond.fieldLink RX7 97 "Handoverhouse$Handset" "balance" "I") ∈ hh_wa := hh_in8 _ (List.mem_of_getElem? (i := 26) rfl)
theorem hm_347 : (Cond.fieldLink RX7 100 "Handoverhouse$Handset" "on" "Z") ∈ hh_wa := hh_in8 _ (List.mem_of_getElem? (i := 27) rfl)
theorem hm_348 : (Cond.code yX7_speed cX7_speed 4 (some .int)) ∈ hh_wa := hh_in8 _ (List.mem_of_getElem? (i := 28) rfl)
theorem hm_349 : (Cond.methodLink RX7 103 yX7_demandNumber) ∈ hh_wa := hh_in8 _ (List.mem_of_getElem? (i := 29) rfl)
theorem hm_350 : (Cond.static yX7_demandNumber) ∈ hh_wa := hh_in8 _ (List.mem_of_getElem? (i := 30) rfl)
theorem hm_351 : (Cond.code yX7_demandNumber cX7_demandNumber 2 none) ∈ hh_wa := hh_in8 _ (List.mem_of_getElem? (i := 31) rfl)
theorem hm_352 : (Cond.code yX7_top cX7_top 3 (some .int)) ∈ hh_wa := hh_in8 _ (List.mem_of_getElem? (i := 32) rfl)
theorem hm_353 : (Cond.code yX7_turn cX7_turn 4 (some .boolean)) ∈ hh_wa := hh_in8 _ (List.mem_of_getElem? (i := 33) rfl)
theorem hm_354 : (Cond.methodLink RX7 107 yX5_switchOff) ∈ hh_wa := hh_in8 _ (List.mem_of_getElem? (i := 34) rfl)
theorem hm_355 : (Cond.instanceMethod yX5_switchOff) ∈ hh_wa := hh_in8 _ (List.mem_of_getElem? (i := 35) rfl)
theorem hm_356 : (Cond.selects RX5 yX5_switchOff yX5_switchOff) ∈ hh_wa := hh_in8 _ (List.mem_of_getElem? (i := 36) rfl)
theorem hm_357 : (Cond.code yX7_wake cX7_wake 3 (some .boolean)) ∈ hh_wa := hh_in8 _ (List.mem_of_getElem? (i := 37) rfl)
theorem hm_358 : (Cond.fieldLink RX7 111 "Handoverhouse$Road" "load" "[I") ∈ hh_wa := hh_in8 _ (List.mem_of_getElem? (i := 38) rfl)
theorem hm_359 : (Cond.methodLink RX7 115 yX5_sendAway) ∈ hh_wa := hh_in8 _ (List.mem_of_getElem? (i := 39) rfl)
theorem hm_360 : (Cond.instanceMethod yX5_sendAway) ∈ hh_wa := hh_in9 _ (List.mem_of_getElem? (i := 0) rfl)
theorem hm_361 : (Cond.selects RX5 yX5_sendAway yX5_sendAway) ∈ hh_wa := hh_in9 _ (List.mem_of_getElem? (i := 1) rfl)
theorem hm_362 : (Cond.code yX7_call cX7_call 3 (some .int)) ∈ hh_wa := hh_in9 _ (List.mem_of_getElem? (i := 2) rfl)
theorem hm_363 : (Cond.methodLink RX7 119 yX7_demandOthers) ∈ hh_wa := hh_in9 _ (List.mem_of_getElem? (i := 3) rfl)
theorem hm_364 : (Cond.static yX7_demandOthers) ∈ hh_wa := hh_in9 _ (List.mem_of_getElem? (i := 4) rfl)
theorem hm_365 : (Cond.code yX7_demandOthers cX7_demandOthers 2 none) ∈ hh_wa := hh_in9 _ (List.mem_of_getElem? (i := 5) rfl)
theorem hm_366 : (Cond.methodLink RX7 122 yX7_demandRoomForCall) ∈ hh_wa := hh_in9 _ (List.mem_of_getElem? (i := 6) rfl)
theorem hm_367 : (Cond.instanceMethod yX7_demandRoomForCall) ∈ hh_wa := hh_in9 _ (List.mem_of_getElem? (i := 7) rfl)
theorem hm_368 : (Cond.selects RX7 yX7_demandRoomForCall yX7_demandRoomForCall) ∈ hh_wa := hh_in9 _ (List.mem_of_getElem? (i := 8) rfl)
theorem hm_369 : (Cond.code yX7_demandRoomForCall cX7_demandRoomForCall 1 none) ∈ hh_wa := hh_in9 _ (List.mem_of_getElem? (i := 9) rfl)
theorem hm_370 : (Cond.fieldLink RX7 133 "Handoverhouse$Road" "callCount" "I") ∈ hh_wa := hh_in9 _ (List.mem_of_getElem? (i := 10) rfl)
theorem hm_371 : (Cond.methodLink RX7 125 yX5_tryCall) ∈ hh_wa := hh_in9 _ (List.mem_of_getElem? (i := 11) rfl)
theorem hm_372 : (Cond.instanceMethod yX5_tryCall) ∈ hh_wa := hh_in9 _ (List.mem_of_getElem? (i := 12) rfl)
theorem hm_373 : (Cond.selects RX5 yX5_tryCall yX5_tryCall) ∈ hh_wa := hh_in9 _ (List.mem_of_getElem? (i := 13) rfl)
theorem hm_374 : (Cond.code yX7_emergency cX7_emergency 2 (some .int)) ∈ hh_wa := hh_in9 _ (List.mem_of_getElem? (i := 14) rfl)
theorem hm_375 : (Cond.methodLink RX7 129 yX5_tryEmergency) ∈ hh_wa := hh_in9 _ (List.mem_of_getElem? (i := 15) rfl)
theorem hm_376 : (Cond.instanceMethod yX5_tryEmergency) ∈ hh_wa := hh_in9 _ (List.mem_of_getElem? (i := 16) rfl)
theorem hm_377 : (Cond.selects RX5 yX5_tryEmergency yX5_tryEmergency) ∈ hh_wa := hh_in9 _ (List.mem_of_getElem? (i := 17) rfl)
theorem hm_378 : (Cond.code yX7_hang cX7_hang 3 (some .int)) ∈ hh_wa := hh_in9 _ (List.mem_of_getElem? (i := 18) rfl)
theorem hm_379 : (Cond.fieldLink RX7 136 "Handoverhouse$Road" "calls" "[LHandoverhouse$Call;") ∈ hh_wa := hh_in9 _ (List.mem_of_getElem? (i := 19) rfl)
theorem hm_380 : (Cond.fieldLink RX7 140 "Handoverhouse$Call" "ended" "I") ∈ hh_wa := hh_in9 _ (List.mem_of_getElem? (i := 20) rfl)
theorem hm_381 : (Cond.fieldLink RX7 151 "Handoverhouse$Call" "seconds" "I") ∈ hh_wa := hh_in9 _ (List.mem_of_getElem? (i := 21) rfl)
theorem hm_382 : (Cond.methodLink RX7 147 yX5_end) ∈ hh_wa := hh_in9 _ (List.mem_of_getElem? (i := 22) rfl)
theorem hm_383 : (Cond.code yX7_text cX7_text 3 (some .int)) ∈ hh_wa := hh_in9 _ (List.mem_of_getElem? (i := 23) rfl)
theorem hm_384 : (Cond.fieldLink RX7 154 "Handoverhouse$Road" "textCount" "I") ∈ hh_wa := hh_in9 _ (List.mem_of_getElem? (i := 24) rfl)
theorem hm_385 : (Cond.fieldLink RX7 159 "Handoverhouse$Handset" "textsWaiting" "I") ∈ hh_wa := hh_in9 _ (List.mem_of_getElem? (i := 25) rfl)
theorem hm_386 : (Cond.code yX7_forget cX7_forget 1 (some .int)) ∈ hh_wa := hh_in9 _ (List.mem_of_getElem? (i := 26) rfl)
theorem hm_387 : (Cond.methodLink RX7 162 yX5_forgetAreas) ∈ hh_wa := hh_in9 _ (List.mem_of_getElem? (i := 27) rfl)
theorem hm_388 : (Cond.instanceMethod yX5_forgetAreas) ∈ hh_wa := hh_in9 _ (List.mem_of_getElem? (i := 28) rfl)
theorem hm_389 : (Cond.selects RX5 yX5_forgetAreas yX5_forgetAreas) ∈ hh_wa := hh_in9 _ (List.mem_of_getElem? (i := 29) rfl)
theorem hm_390 : (Cond.code yX7_pass cX7_pass 4 (some .int)) ∈ hh_wa := hh_in9 _ (List.mem_of_getElem? (i := 30) rfl)
theorem hm_391 : (Cond.methodLink RX7 166 yX5_callsThat) ∈ hh_wa := hh_in9 _ (List.mem_of_getElem? (i := 31) rfl)
theorem hm_392 : (Cond.instanceMethod yX5_callsThat) ∈ hh_wa := hh_in9 _ (List.mem_of_getElem? (i := 32) rfl)
theorem hm_393 : (Cond.selects RX5 yX5_callsThat yX5_callsThat) ∈ hh_wa := hh_in9 _ (List.mem_of_getElem? (i := 33) rfl)
theorem hm_394 : (Cond.methodLink RX7 169 yX5_second) ∈ hh_wa := hh_in9 _ (List.mem_of_getElem? (i := 34) rfl)
theorem hm_395 : (Cond.instanceMethod yX5_second) ∈ hh_wa := hh_in9 _ (List.mem_of_getElem? (i := 35) rfl)
theorem hm_396 : (Cond.selects RX5 yX5_second yX5_second) ∈ hh_wa := hh_in9 _ (List.mem_of_getElem? (i := 36) rfl)
theorem hm_397 : (Cond.code yX7_quality cX7_quality 3 (some .int)) ∈ hh_wa := hh_in9 _ (List.mem_of_getElem? (i := 37) rfl)
theorem hm_398 : (Cond.methodLink RX7 172 yX5_qualityAt) ∈ hh_wa := hh_in9 _ (List.mem_of_getElem? (i := 38) rfl)
theorem hm_399 : (Cond.code yX7_best cX7_best 2 (some .int)) ∈ hh_wa := hh_in9 _ (List.mem_of_getElem? (i := 39) rfl)
theorem hm_400 : (Cond.methodLink RX7 175 yX5_bestHeardAt) ∈ hh_wa := hh_in10 _ (List.mem_of_getElem? (i := 0) rfl)
theorem hm_401 : (Cond.code yX7_ofMast cX7_ofMast 3 (some .int)) ∈ hh_wa := hh_in10 _ (List.mem_of_getElem? (i := 1) rfl)
theorem hm_402 : (Cond.fieldLink RX7 181 "Handoverhouse$Road" "carried" "[I") ∈ hh_wa := hh_in10 _ (List.mem_of_getElem? (i := 2) rfl)
theorem hm_403 : (Cond.methodLink RX7 178 yX5_campersOn) ∈ hh_wa := hh_in10 _ (List.mem_of_getElem? (i := 3) rfl)
theorem hm_404 : (Cond.instanceMethod yX5_campersOn) ∈ hh_wa := hh_in10 _ (List.mem_of_getElem? (i := 4) rfl)
theorem hm_405 : (Cond.selects RX5 yX5_campersOn yX5_campersOn) ∈ hh_wa := hh_in10 _ (List.mem_of_getElem? (i := 5) rfl)
theorem hm_406 : (Cond.methodLink RX7 184 yX3_fact) ∈ hh_wa := hh_in10 _ (List.mem_of_getElem? (i := 6) rfl)
theorem hm_407 : (Cond.instanceMethod yX3_fact) ∈ hh_wa := hh_in10 _ (List.mem_of_getElem? (i := 7) rfl)
theorem hm_408 : (Cond.selects RX3 yX3_fact yX3_fact) ∈ hh_wa := hh_in10 _ (List.mem_of_getElem? (i := 8) rfl)
theorem hm_409 : (Cond.code yX7_ofHandset cX7_ofHandset 3 (some .int)) ∈ hh_wa := hh_in10 _ (List.mem_of_getElem? (i := 9) rfl)
theorem hm_410 : (Cond.methodLink RX7 187 yX1_fact) ∈ hh_wa := hh_in10 _ (List.mem_of_getElem? (i := 10) rfl)
theorem hm_411 : (Cond.code yX7_ofCall cX7_ofCall 3 (some .int)) ∈ hh_wa := hh_in10 _ (List.mem_of_getElem? (i := 11) rfl)
theorem hm_412 : (Cond.methodLink RX7 188 yX0_fact) ∈ hh_wa := hh_in10 _ (List.mem_of_getElem? (i := 12) rfl)
theorem hm_413 : (Cond.code yX7_many cX7_many 2 (some .int)) ∈ hh_wa := hh_in10 _ (List.mem_of_getElem? (i := 13) rfl)
theorem hm_414 : (Cond.fieldLink RX7 189 "Handoverhouse$Road" "now" "I") ∈ hh_wa := hh_in10 _ (List.mem_of_getElem? (i := 14) rfl)
theorem hm_415 : (Cond.fieldLink RX7 195 "Handoverhouse$Road" "pages" "I") ∈ hh_wa := hh_in10 _ (List.mem_of_getElem? (i := 15) rfl)
theorem hm_416 : (Cond.methodLink RX7 192 yX5_sumOfCalls) ∈ hh_wa := hh_in10 _ (List.mem_of_getElem? (i := 16) rfl)
theorem hm_417 : (Cond.instanceMethod yX5_sumOfCalls) ∈ hh_wa := hh_in10 _ (List.mem_of_getElem? (i := 17) rfl)
theorem hm_418 : (Cond.selects RX5 yX5_sumOfCalls yX5_sumOfCalls) ∈ hh_wa := hh_in10 _ (List.mem_of_getElem? (i := 18) rfl)
theorem hm_419 : (Cond.methodLink RX7 198 yX5_sumOfHandsets) ∈ hh_wa := hh_in10 _ (List.mem_of_getElem? (i := 19) rfl)
theorem hm_420 : (Cond.instanceMethod yX5_sumOfHandsets) ∈ hh_wa := hh_in10 _ (List.mem_of_getElem? (i := 20) rfl)
theorem hm_421 : (Cond.selects RX5 yX5_sumOfHandsets yX5_sumOfHandsets) ∈ hh_wa := hh_in10 _ (List.mem_of_getElem? (i := 21) rfl)
theorem hm_422 : (Cond.methodLink RX7 201 yX5_handsetsToBeFound) ∈ hh_wa := hh_in10 _ (List.mem_of_getElem? (i := 22) rfl)
theorem hm_423 : (Cond.instanceMethod yX5_handsetsToBeFound) ∈ hh_wa := hh_in10 _ (List.mem_of_getElem? (i := 23) rfl)
theorem hm_424 : (Cond.selects RX5 yX5_handsetsToBeFound yX5_handsetsToBeFound) ∈ hh_wa := hh_in10 _ (List.mem_of_getElem? (i := 24) rfl)
theorem hm_425 : (Cond.methodLink RX7 204 yX5_placesHeardWell) ∈ hh_wa := hh_in10 _ (List.mem_of_getElem? (i := 25) rfl)
theorem hm_426 : (Cond.instanceMethod yX5_placesHeardWell) ∈ hh_wa := hh_in10 _ (List.mem_of_getElem? (i := 26) rfl)
theorem hm_427 : (Cond.selects RX5 yX5_placesHeardWell yX5_placesHeardWell) ∈ hh_wa := hh_in10 _ (List.mem_of_getElem? (i := 27) rfl)
theorem hm_428 : (Cond.code yX7_meanSeconds cX7_meanSeconds 2 (some .double)) ∈ hh_wa := hh_in10 _ (List.mem_of_getElem? (i := 28) rfl)
theorem hm_429 : (Cond.methodLink RX7 207 yX5_secondsOfEndedCalls) ∈ hh_wa := hh_in10 _ (List.mem_of_getElem? (i := 29) rfl)
theorem hm_430 : (Cond.instanceMethod yX5_secondsOfEndedCalls) ∈ hh_wa := hh_in10 _ (List.mem_of_getElem? (i := 30) rfl)
theorem hm_431 : (Cond.selects RX5 yX5_secondsOfEndedCalls yX5_secondsOfEndedCalls) ∈ hh_wa := hh_in10 _ (List.mem_of_getElem? (i := 31) rfl)
theorem hm_432 : (Cond.code yX7_endsIn cX7_endsIn 4 (some .int)) ∈ hh_wa := hh_in10 _ (List.mem_of_getElem? (i := 32) rfl)
theorem hm_433 : (Cond.methodLink RX7 210 yX5_copyFrom) ∈ hh_wa := hh_in10 _ (List.mem_of_getElem? (i := 33) rfl)
theorem hm_434 : (Cond.instanceMethod yX5_copyFrom) ∈ hh_wa := hh_in10 _ (List.mem_of_getElem? (i := 34) rfl)
theorem hm_435 : (Cond.selects RX5 yX5_copyFrom yX5_copyFrom) ∈ hh_wa := hh_in10 _ (List.mem_of_getElem? (i := 35) rfl)
theorem hm_436 : (Cond.code yX7_wouldBeOn cX7_wouldBeOn 4 (some .int)) ∈ hh_wa := hh_in10 _ (List.mem_of_getElem? (i := 36) rfl)
theorem hm_437 : (Cond.fieldLink RX7 214 "Handoverhouse$Handset" "mast" "I") ∈ hh_wa := hh_in10 _ (List.mem_of_getElem? (i := 37) rfl)
theorem hm_438 : (Cond.code yX7_bestPlace cX7_bestPlace 3 (some .int)) ∈ hh_wa := hh_in10 _ (List.mem_of_getElem? (i := 38) rfl)
theorem hm_439 : (Cond.methodLink RX7 217 yX6_take) ∈ hh_wa := hh_in10 _ (List.mem_of_getElem? (i := 39) rfl)
theorem hm_440 : (Cond.instanceMethod yX6_take) ∈ hh_wa := hh_in11 _ (List.mem_of_getElem? (i := 0) rfl)
theorem hm_441 : (Cond.selects RX6 yX6_take yX6_take) ∈ hh_wa := hh_in11 _ (List.mem_of_getElem? (i := 1) rfl)
theorem hm_442 : (Cond.methodLink RX7 221 yX6_placeFor) ∈ hh_wa := hh_in11 _ (List.mem_of_getElem? (i := 2) rfl)
theorem hm_443 : (Cond.instanceMethod yX6_placeFor) ∈ hh_wa := hh_in11 _ (List.mem_of_getElem? (i := 3) rfl)
theorem hm_444 : (Cond.selects RX6 yX6_placeFor yX6_placeFor) ∈ hh_wa := hh_in11 _ (List.mem_of_getElem? (i := 4) rfl)
theorem hm_445 : (Cond.code yX7_digest cX7_digest 4 (some .long)) ∈ hh_wa := hh_in11 _ (List.mem_of_getElem? (i := 5) rfl)
theorem hm_446 : (Cond.constantLong RX7 224 (58188)) ∈ hh_wa := hh_in11 _ (List.mem_of_getElem? (i := 6) rfl)
theorem hm_447 : (Cond.constantLong RX7 226 (31)) ∈ hh_wa := hh_in11 _ (List.mem_of_getElem? (i := 7) rfl)
theorem hm_448 : (Cond.methodLink RX7 228 yX7_many) ∈ hh_wa := hh_in11 _ (List.mem_of_getElem? (i := 8) rfl)
theorem hm_449 : (Cond.instanceMethod yX7_many) ∈ hh_wa := hh_in11 _ (List.mem_of_getElem? (i := 9) rfl)
theorem hm_450 : (Cond.selects RX7 yX7_many yX7_many) ∈ hh_wa := hh_in11 _ (List.mem_of_getElem? (i := 10) rfl)
theorem hm_451 : (Cond.methodLink RX7 231 yX7_addMasts) ∈ hh_wa := hh_in11 _ (List.mem_of_getElem? (i := 11) rfl)
theorem hm_452 : (Cond.instanceMethod yX7_addMasts) ∈ hh_wa := hh_in11 _ (List.mem_of_getElem? (i := 12) rfl)
theorem hm_453 : (Cond.selects RX7 yX7_addMasts yX7_addMasts) ∈ hh_wa := hh_in11 _ (List.mem_of_getElem? (i := 13) rfl)
theorem hm_454 : (Cond.code yX7_addMasts cX7_addMasts 7 (some .long)) ∈ hh_wa := hh_in11 _ (List.mem_of_getElem? (i := 14) rfl)
theorem hm_455 : (Cond.methodLink RX7 247 yX7_ofMast) ∈ hh_wa := hh_in11 _ (List.mem_of_getElem? (i := 15) rfl)
theorem hm_456 : (Cond.instanceMethod yX7_ofMast) ∈ hh_wa := hh_in11 _ (List.mem_of_getElem? (i := 16) rfl)
theorem hm_457 : (Cond.selects RX7 yX7_ofMast yX7_ofMast) ∈ hh_wa := hh_in11 _ (List.mem_of_getElem? (i := 17) rfl)
theorem hm_458 : (Cond.methodLink RX7 250 yX7_quality) ∈ hh_wa := hh_in11 _ (List.mem_of_getElem? (i := 18) rfl)
theorem hm_459 : (Cond.instanceMethod yX7_quality) ∈ hh_wa := hh_in11 _ (List.mem_of_getElem? (i := 19) rfl)
theorem hm_460 : (Cond.selects RX7 yX7_quality yX7_quality) ∈ hh_wa := hh_in11 _ (List.mem_of_getElem? (i := 20) rfl)
theorem hm_461 : (Cond.methodLink RX7 235 yX7_addHandsets) ∈ hh_wa := hh_in11 _ (List.mem_of_getElem? (i := 21) rfl)
theorem hm_462 : (Cond.instanceMethod yX7_addHandsets) ∈ hh_wa := hh_in11 _ (List.mem_of_getElem? (i := 22) rfl)
theorem hm_463 : (Cond.selects RX7 yX7_addHandsets yX7_addHandsets) ∈ hh_wa := hh_in11 _ (List.mem_of_getElem? (i := 23) rfl)
theorem hm_464 : (Cond.code yX7_addHandsets cX7_addHandsets 7 (some .long)) ∈ hh_wa := hh_in11 _ (List.mem_of_getElem? (i := 24) rfl)
theorem hm_465 : (Cond.methodLink RX7 253 yX7_ofHandset) ∈ hh_wa := hh_in11 _ (List.mem_of_getElem? (i := 25) rfl)
theorem hm_466 : (Cond.instanceMethod yX7_ofHandset) ∈ hh_wa := hh_in11 _ (List.mem_of_getElem? (i := 26) rfl)
theorem hm_467 : (Cond.selects RX7 yX7_ofHandset yX7_ofHandset) ∈ hh_wa := hh_in11 _ (List.mem_of_getElem? (i := 27) rfl)
theorem hm_468 : (Cond.methodLink RX7 256 yX7_wouldBeOn) ∈ hh_wa := hh_in11 _ (List.mem_of_getElem? (i := 28) rfl)
theorem hm_469 : (Cond.instanceMethod yX7_wouldBeOn) ∈ hh_wa := hh_in11 _ (List.mem_of_getElem? (i := 29) rfl)
theorem hm_470 : (Cond.selects RX7 yX7_wouldBeOn yX7_wouldBeOn) ∈ hh_wa := hh_in11 _ (List.mem_of_getElem? (i := 30) rfl)
theorem hm_471 : (Cond.methodLink RX7 238 yX7_addCalls) ∈ hh_wa := hh_in11 _ (List.mem_of_getElem? (i := 31) rfl)
theorem hm_472 : (Cond.instanceMethod yX7_addCalls) ∈ hh_wa := hh_in11 _ (List.mem_of_getElem? (i := 32) rfl)
theorem hm_473 : (Cond.selects RX7 yX7_addCalls yX7_addCalls) ∈ hh_wa := hh_in11 _ (List.mem_of_getElem? (i := 33) rfl)
theorem hm_474 : (Cond.code yX7_addCalls cX7_addCalls 7 (some .long)) ∈ hh_wa := hh_in11 _ (List.mem_of_getElem? (i := 34) rfl)
theorem hm_475 : (Cond.methodLink RX7 259 yX7_ofCall) ∈ hh_wa := hh_in11 _ (List.mem_of_getElem? (i := 35) rfl)
theorem hm_476 : (Cond.instanceMethod yX7_ofCall) ∈ hh_wa := hh_in11 _ (List.mem_of_getElem? (i := 36) rfl)
theorem hm_477 : (Cond.selects RX7 yX7_ofCall yX7_ofCall) ∈ hh_wa := hh_in11 _ (List.mem_of_getElem? (i := 37) rfl)
theorem hm_478 : (Cond.methodLink RX7 262 yX7_endsIn) ∈ hh_wa := hh_in11 _ (List.mem_of_getElem? (i := 38) rfl)
theorem hm_479 : (Cond.instanceMethod yX7_endsIn) ∈ hh_wa := hh_in11 _ (List.mem_of_getElem? (i := 39) rfl)
theorem hm_480 : (Cond.selects RX7 yX7_endsIn yX7_endsIn) ∈ hh_wa := hh_in12 _ (List.mem_of_getElem? (i := 0) rfl)
theorem hm_481 : (Cond.methodLink RX7 241 yX7_best) ∈ hh_wa := hh_in12 _ (List.mem_of_getElem? (i := 1) rfl)
theorem hm_482 : (Cond.instanceMethod yX7_best) ∈ hh_wa := hh_in12 _ (List.mem_of_getElem? (i := 2) rfl)
theorem hm_483 : (Cond.selects RX7 yX7_best yX7_best) ∈ hh_wa := hh_in12 _ (List.mem_of_getElem? (i := 3) rfl)
theorem hm_484 : (Cond.methodLink RX7 244 yX7_bestPlace) ∈ hh_wa := hh_in12 _ (List.mem_of_getElem? (i := 4) rfl)
theorem hm_485 : (Cond.instanceMethod yX7_bestPlace) ∈ hh_wa := hh_in12 _ (List.mem_of_getElem? (i := 5) rfl)
theorem hm_486 : (Cond.selects RX7 yX7_bestPlace yX7_bestPlace) ∈ hh_wa := hh_in12 _ (List.mem_of_getElem? (i := 6) rfl)
theorem dX0_init_0 : decode cX0_init 0 = .ok (.aload_n 0, 1) := by decide +kernel
theorem dX0_init_1 : decode cX0_init 1 = .ok (.invokespecial 3, 3) := by decide +kernel
theorem dX0_init_4 : decode cX0_init 4 = .ok (.aload_n 0, 1) := by decide +kernel
theorem dX0_init_5 : decode cX0_init 5 = .ok (.new 9, 3) := by decide +kernel
theorem dX0_init_8 : decode cX0_init 8 = .ok (.dup, 1) := by decide +kernel
theorem dX0_init_9 : decode cX0_init 9 = .ok (.invokespecial 11, 3) := by decide +kernel
theorem dX0_init_12 : decode cX0_init 12 = .ok (.putfield 12, 3) := by decide +kernel
theorem dX0_init_15 : decode cX0_init 15 = .ok (.aload_n 0, 1) := by decide +kernel
theorem dX0_init_16 : decode cX0_init 16 = .ok (.new 9, 3) := by decide +kernel
theorem dX0_init_19 : decode cX0_init 19 = .ok (.dup, 1) := by decide +kernel
theorem dX0_init_20 : decode cX0_init 20 = .ok (.invokespecial 11, 3) := by decide +kernel
theorem dX0_init_23 : decode cX0_init 23 = .ok (.putfield 18, 3) := by decide +kernel
theorem dX0_init_26 : decode cX0_init 26 = .ok (.aload_n 0, 1) := by decide +kernel
theorem dX0_init_27 : decode cX0_init 27 = .ok (.iconst 0, 1) := by decide +kernel
theorem dX0_init_28 : decode cX0_init 28 = .ok (.putfield 21, 3) := by decide +kernel
theorem dX0_init_31 : decode cX0_init 31 = .ok (.return_, 1) := by decide +kernel
theorem dX0_hasLegOn_0 : decode cX0_hasLegOn 0 = .ok (.aload_n 0, 1) := by decide +kernel
theorem dX0_hasLegOn_1 : decode cX0_hasLegOn 1 = .ok (.getfield 12, 3) := by decide +kernel
theorem dX0_hasLegOn_4 : decode cX0_hasLegOn 4 = .ok (.getfield 25, 3) := by decide +kernel
theorem dX0_hasLegOn_7 : decode cX0_hasLegOn 7 = .ok (.iload_n 1, 1) := by decide +kernel
theorem dX0_hasLegOn_8 : decode cX0_hasLegOn 8 = .ok (.if_icmp .eq 14, 3) := by decide +kernel
theorem dX0_hasLegOn_11 : decode cX0_hasLegOn 11 = .ok (.aload_n 0, 1) := by decide +kernel
theorem dX0_hasLegOn_12 : decode cX0_hasLegOn 12 = .ok (.getfield 18, 3) := by decide +kernel
theorem dX0_hasLegOn_15 : decode cX0_hasLegOn 15 = .ok (.getfield 25, 3) := by decide +kernel
theorem dX0_hasLegOn_18 : decode cX0_hasLegOn 18 = .ok (.iload_n 1, 1) := by decide +kernel
theorem dX0_hasLegOn_19 : decode cX0_hasLegOn 19 = .ok (.if_icmp .ne 7, 3) := by decide +kernel
theorem dX0_hasLegOn_22 : decode cX0_hasLegOn 22 = .ok (.iconst 1, 1) := by decide +kernel
theorem dX0_hasLegOn_23 : decode cX0_hasLegOn 23 = .ok (.goto 4, 3) := by decide +kernel
theorem dX0_hasLegOn_26 : decode cX0_hasLegOn 26 = .ok (.iconst 0, 1) := by decide +kernel
theorem dX0_hasLegOn_27 : decode cX0_hasLegOn 27 = .ok (.ireturn, 1) := by decide +kernel
theorem dX0_copyFrom_0 : decode cX0_copyFrom 0 = .ok (.aload_n 0, 1) := by decide +kernel
theorem dX0_copyFrom_1 : decode cX0_copyFrom 1 = .ok (.getfield 12, 3) := by decide +kernel
theorem dX0_copyFrom_4 : decode cX0_copyFrom 4 = .ok (.aload_n 1, 1) := by decide +kernel
theorem dX0_copyFrom_5 : decode cX0_copyFrom 5 = .ok (.getfield 12, 3) := by decide +kernel
theorem dX0_copyFrom_8 : decode cX0_copyFrom 8 = .ok (.invokevirtual 28, 3) := by decide +kernel
theorem dX0_copyFrom_11 : decode cX0_copyFrom 11 = .ok (.aload_n 0, 1) := by decide +kernel
theorem dX0_copyFrom_12 : decode cX0_copyFrom 12 = .ok (.getfield 18, 3) := by decide +kernel
theorem dX0_copyFrom_15 : decode cX0_copyFrom 15 = .ok (.aload_n 1, 1) := by decide +kernel
theorem dX0_copyFrom_16 : decode cX0_copyFrom 16 = .ok (.getfield 18, 3) := by decide +kernel
theorem dX0_copyFrom_19 : decode cX0_copyFrom 19 = .ok (.invokevirtual 28, 3) := by decide +kernel
theorem dX0_copyFrom_22 : decode cX0_copyFrom 22 = .ok (.aload_n 0, 1) := by decide +kernel
theorem dX0_copyFrom_23 : decode cX0_copyFrom 23 = .ok (.aload_n 1, 1) := by decide +kernel
theorem dX0_copyFrom_24 : decode cX0_copyFrom 24 = .ok (.getfield 32, 3) := by decide +kernel
theorem dX0_copyFrom_27 : decode cX0_copyFrom 27 = .ok (.putfield 32, 3) := by decide +kernel
theorem dX0_copyFrom_30 : decode cX0_copyFrom 30 = .ok (.aload_n 0, 1) := by decide +kernel
theorem dX0_copyFrom_31 : decode cX0_copyFrom 31 = .ok (.aload_n 1, 1) := by decide +kernel
theorem dX0_copyFrom_32 : decode cX0_copyFrom 32 = .ok (.getfield 35, 3) := by decide +kernel
theorem dX0_copyFrom_35 : decode cX0_copyFrom 35 = .ok (.putfield 35, 3) := by decide +kernel
theorem dX0_copyFrom_38 : decode cX0_copyFrom 38 = .ok (.aload_n 0, 1) := by decide +kernel
theorem dX0_copyFrom_39 : decode cX0_copyFrom 39 = .ok (.aload_n 1, 1) := by decide +kernel
theorem dX0_copyFrom_40 : decode cX0_copyFrom 40 = .ok (.getfield 38, 3) := by decide +kernel
theorem dX0_copyFrom_43 : decode cX0_copyFrom 43 = .ok (.putfield 38, 3) := by decide +kernel
theorem dX0_copyFrom_46 : decode cX0_copyFrom 46 = .ok (.aload_n 0, 1) := by decide +kernel
theorem dX0_copyFrom_47 : decode cX0_copyFrom 47 = .ok (.aload_n 1, 1) := by decide +kernel
theorem dX0_copyFrom_48 : decode cX0_copyFrom 48 = .ok (.getfield 41, 3) := by decide +kernel
theorem dX0_copyFrom_51 : decode cX0_copyFrom 51 = .ok (.putfield 41, 3) := by decide +kernel
theorem dX0_copyFrom_54 : decode cX0_copyFrom 54 = .ok (.aload_n 0, 1) := by decide +kernel
theorem dX0_copyFrom_55 : decode cX0_copyFrom 55 = .ok (.aload_n 1, 1) := by decide +kernel
theorem dX0_copyFrom_56 : decode cX0_copyFrom 56 = .ok (.getfield 21, 3) := by decide +kernel
theorem dX0_copyFrom_59 : decode cX0_copyFrom 59 = .ok (.putfield 21, 3) := by decide +kernel
theorem dX0_copyFrom_62 : decode cX0_copyFrom 62 = .ok (.return_, 1) := by decide +kernel
theorem dX0_fact_0 : decode cX0_fact 0 = .ok (.iload_n 1, 1) := by decide +kernel
theorem dX0_fact_1 : decode cX0_fact 1 = .ok (.tableswitch 96 0 7 #[47, 55, 63, 68, 73, 78, 83, 88], 47) := by decide +kernel
theorem dX0_fact_48 : decode cX0_fact 48 = .ok (.aload_n 0, 1) := by decide +kernel
theorem dX0_fact_49 : decode cX0_fact 49 = .ok (.getfield 12, 3) := by decide +kernel
theorem dX0_fact_52 : decode cX0_fact 52 = .ok (.getfield 44, 3) := by decide +kernel
theorem dX0_fact_55 : decode cX0_fact 55 = .ok (.ireturn, 1) := by decide +kernel
theorem dX0_fact_56 : decode cX0_fact 56 = .ok (.aload_n 0, 1) := by decide +kernel
theorem dX0_fact_57 : decode cX0_fact 57 = .ok (.getfield 18, 3) := by decide +kernel
theorem dX0_fact_60 : decode cX0_fact 60 = .ok (.getfield 44, 3) := by decide +kernel
theorem dX0_fact_63 : decode cX0_fact 63 = .ok (.ireturn, 1) := by decide +kernel
theorem dX0_fact_64 : decode cX0_fact 64 = .ok (.aload_n 0, 1) := by decide +kernel
theorem dX0_fact_65 : decode cX0_fact 65 = .ok (.getfield 32, 3) := by decide +kernel
theorem dX0_fact_68 : decode cX0_fact 68 = .ok (.ireturn, 1) := by decide +kernel
theorem dX0_fact_69 : decode cX0_fact 69 = .ok (.aload_n 0, 1) := by decide +kernel
theorem dX0_fact_70 : decode cX0_fact 70 = .ok (.getfield 35, 3) := by decide +kernel
theorem dX0_fact_73 : decode cX0_fact 73 = .ok (.ireturn, 1) := by decide +kernel
theorem dX0_fact_74 : decode cX0_fact 74 = .ok (.aload_n 0, 1) := by decide +kernel
theorem dX0_fact_75 : decode cX0_fact 75 = .ok (.getfield 38, 3) := by decide +kernel
theorem dX0_fact_78 : decode cX0_fact 78 = .ok (.ireturn, 1) := by decide +kernel
theorem dX0_fact_79 : decode cX0_fact 79 = .ok (.aload_n 0, 1) := by decide +kernel
theorem dX0_fact_80 : decode cX0_fact 80 = .ok (.getfield 41, 3) := by decide +kernel
theorem dX0_fact_83 : decode cX0_fact 83 = .ok (.ireturn, 1) := by decide +kernel
theorem dX0_fact_84 : decode cX0_fact 84 = .ok (.aload_n 0, 1) := by decide +kernel
theorem dX0_fact_85 : decode cX0_fact 85 = .ok (.getfield 21, 3) := by decide +kernel
theorem dX0_fact_88 : decode cX0_fact 88 = .ok (.ireturn, 1) := by decide +kernel
theorem dX0_fact_89 : decode cX0_fact 89 = .ok (.aload_n 0, 1) := by decide +kernel
theorem dX0_fact_90 : decode cX0_fact 90 = .ok (.getfield 12, 3) := by decide +kernel
theorem dX0_fact_93 : decode cX0_fact 93 = .ok (.getfield 25, 3) := by decide +kernel
theorem dX0_fact_96 : decode cX0_fact 96 = .ok (.ireturn, 1) := by decide +kernel
theorem dX0_fact_97 : decode cX0_fact 97 = .ok (.aload_n 0, 1) := by decide +kernel
theorem dX0_fact_98 : decode cX0_fact 98 = .ok (.getfield 18, 3) := by decide +kernel
theorem dX0_fact_101 : decode cX0_fact 101 = .ok (.getfield 25, 3) := by decide +kernel
theorem dX0_fact_104 : decode cX0_fact 104 = .ok (.ireturn, 1) := by decide +kernel
theorem dX1_init_0 : decode cX1_init 0 = .ok (.aload_n 0, 1) := by decide +kernel
theorem dX1_init_1 : decode cX1_init 1 = .ok (.invokespecial 3, 3) := by decide +kernel
theorem dX1_init_4 : decode cX1_init 4 = .ok (.aload_n 0, 1) := by decide +kernel
theorem dX1_init_5 : decode cX1_init 5 = .ok (.iconst (-1), 1) := by decide +kernel
theorem dX1_init_6 : decode cX1_init 6 = .ok (.putfield 9, 3) := by decide +kernel
theorem dX1_init_9 : decode cX1_init 9 = .ok (.aload_n 0, 1) := by decide +kernel
theorem dX1_init_10 : decode cX1_init 10 = .ok (.iconst (-1), 1) := by decide +kernel
theorem dX1_init_11 : decode cX1_init 11 = .ok (.putfield 15, 3) := by decide +kernel
theorem dX1_init_14 : decode cX1_init 14 = .ok (.aload_n 0, 1) := by decide +kernel
theorem dX1_init_15 : decode cX1_init 15 = .ok (.iconst (-1), 1) := by decide +kernel
theorem dX1_init_16 : decode cX1_init 16 = .ok (.putfield 18, 3) := by decide +kernel
theorem dX1_init_19 : decode cX1_init 19 = .ok (.aload_n 0, 1) := by decide +kernel
theorem dX1_init_20 : decode cX1_init 20 = .ok (.iconst (-1), 1) := by decide +kernel
theorem dX1_init_21 : decode cX1_init 21 = .ok (.putfield 21, 3) := by decide +kernel
theorem dX1_init_24 : decode cX1_init 24 = .ok (.return_, 1) := by decide +kernel
theorem dX1_isIdle_0 : decode cX1_isIdle 0 = .ok (.aload_n 0, 1) := by decide +kernel
theorem dX1_isIdle_1 : decode cX1_isIdle 1 = .ok (.getfield 24, 3) := by decide +kernel
theorem dX1_isIdle_4 : decode cX1_isIdle 4 = .ok (.ifCond .eq 15, 3) := by decide +kernel
theorem dX1_isIdle_7 : decode cX1_isIdle 7 = .ok (.aload_n 0, 1) := by decide +kernel
theorem dX1_isIdle_8 : decode cX1_isIdle 8 = .ok (.getfield 15, 3) := by decide +kernel
theorem dX1_isIdle_11 : decode cX1_isIdle 11 = .ok (.iconst (-1), 1) := by decide +kernel
theorem dX1_isIdle_12 : decode cX1_isIdle 12 = .ok (.if_icmp .ne 7, 3) := by decide +kernel
theorem dX1_isIdle_15 : decode cX1_isIdle 15 = .ok (.iconst 1, 1) := by decide +kernel
theorem dX1_isIdle_16 : decode cX1_isIdle 16 = .ok (.goto 4, 3) := by decide +kernel
theorem dX1_isIdle_19 : decode cX1_isIdle 19 = .ok (.iconst 0, 1) := by decide +kernel
theorem dX1_isIdle_20 : decode cX1_isIdle 20 = .ok (.ireturn, 1) := by decide +kernel
theorem dX1_move_0 : decode cX1_move 0 = .ok (.aload_n 0, 1) := by decide +kernel
theorem dX1_move_1 : decode cX1_move 1 = .ok (.dup, 1) := by decide +kernel
theorem dX1_move_2 : decode cX1_move 2 = .ok (.getfield 28, 3) := by decide +kernel
theorem dX1_move_5 : decode cX1_move 5 = .ok (.aload_n 0, 1) := by decide +kernel
theorem dX1_move_6 : decode cX1_move 6 = .ok (.getfield 31, 3) := by decide +kernel
theorem dX1_move_9 : decode cX1_move 9 = .ok (.iadd, 1) := by decide +kernel
theorem dX1_move_10 : decode cX1_move 10 = .ok (.putfield 28, 3) := by decide +kernel
theorem dX1_move_13 : decode cX1_move 13 = .ok (.aload_n 0, 1) := by decide +kernel
theorem dX1_move_14 : decode cX1_move 14 = .ok (.getfield 28, 3) := by decide +kernel
theorem dX1_move_17 : decode cX1_move 17 = .ok (.ifCond .ge 24, 3) := by decide +kernel
theorem dX1_move_20 : decode cX1_move 20 = .ok (.aload_n 0, 1) := by decide +kernel
theorem dX1_move_21 : decode cX1_move 21 = .ok (.aload_n 0, 1) := by decide +kernel
theorem dX1_move_22 : decode cX1_move 22 = .ok (.getfield 28, 3) := by decide +kernel
theorem dX1_move_25 : decode cX1_move 25 = .ok (.ineg, 1) := by decide +kernel
theorem dX1_move_26 : decode cX1_move 26 = .ok (.putfield 28, 3) := by decide +kernel
theorem dX1_move_29 : decode cX1_move 29 = .ok (.aload_n 0, 1) := by decide +kernel
theorem dX1_move_30 : decode cX1_move 30 = .ok (.aload_n 0, 1) := by decide +kernel
theorem dX1_move_31 : decode cX1_move 31 = .ok (.getfield 31, 3) := by decide +kernel
theorem dX1_move_34 : decode cX1_move 34 = .ok (.ineg, 1) := by decide +kernel
theorem dX1_move_35 : decode cX1_move 35 = .ok (.putfield 31, 3) := by decide +kernel
theorem dX1_move_38 : decode cX1_move 38 = .ok (.goto 33, 3) := by decide +kernel
theorem dX1_move_41 : decode cX1_move 41 = .ok (.aload_n 0, 1) := by decide +kernel
theorem dX1_move_42 : decode cX1_move 42 = .ok (.getfield 28, 3) := by decide +kernel
theorem dX1_move_45 : decode cX1_move 45 = .ok (.bipush 99, 2) := by decide +kernel
theorem dX1_move_47 : decode cX1_move 47 = .ok (.if_icmp .le 24, 3) := by decide +kernel
theorem dX1_move_50 : decode cX1_move 50 = .ok (.aload_n 0, 1) := by decide +kernel
theorem dX1_move_51 : decode cX1_move 51 = .ok (.sipush 198, 3) := by decide +kernel
theorem dX1_move_54 : decode cX1_move 54 = .ok (.aload_n 0, 1) := by decide +kernel
theorem dX1_move_55 : decode cX1_move 55 = .ok (.getfield 28, 3) := by decide +kernel
theorem dX1_move_58 : decode cX1_move 58 = .ok (.isub, 1) := by decide +kernel
theorem dX1_move_59 : decode cX1_move 59 = .ok (.putfield 28, 3) := by decide +kernel
theorem dX1_move_62 : decode cX1_move 62 = .ok (.aload_n 0, 1) := by decide +kernel
theorem dX1_move_63 : decode cX1_move 63 = .ok (.aload_n 0, 1) := by decide +kernel
theorem dX1_move_64 : decode cX1_move 64 = .ok (.getfield 31, 3) := by decide +kernel
theorem dX1_move_67 : decode cX1_move 67 = .ok (.ineg, 1) := by decide +kernel
theorem dX1_move_68 : decode cX1_move 68 = .ok (.putfield 31, 3) := by decide +kernel
theorem dX1_move_71 : decode cX1_move 71 = .ok (.return_, 1) := by decide +kernel
theorem dX1_tell_0 : decode cX1_tell 0 = .ok (.aload_n 0, 1) := by decide +kernel
theorem dX1_tell_1 : decode cX1_tell 1 = .ok (.iload_n 1, 1) := by decide +kernel
theorem dX1_tell_2 : decode cX1_tell 2 = .ok (.putfield 18, 3) := by decide +kernel
theorem dX1_tell_5 : decode cX1_tell 5 = .ok (.aload_n 0, 1) := by decide +kernel
theorem dX1_tell_6 : decode cX1_tell 6 = .ok (.iload_n 1, 1) := by decide +kernel
theorem dX1_tell_7 : decode cX1_tell 7 = .ok (.putfield 21, 3) := by decide +kernel
theorem dX1_tell_10 : decode cX1_tell 10 = .ok (.aload_n 0, 1) := by decide +kernel
theorem dX1_tell_11 : decode cX1_tell 11 = .ok (.iload_n 2, 1) := by decide +kernel
theorem dX1_tell_12 : decode cX1_tell 12 = .ok (.putfield 34, 3) := by decide +kernel
theorem dX1_tell_15 : decode cX1_tell 15 = .ok (.aload_n 0, 1) := by decide +kernel
theorem dX1_tell_16 : decode cX1_tell 16 = .ok (.dup, 1) := by decide +kernel
theorem dX1_tell_17 : decode cX1_tell 17 = .ok (.getfield 37, 3) := by decide +kernel
theorem dX1_tell_20 : decode cX1_tell 20 = .ok (.iconst 1, 1) := by decide +kernel
theorem dX1_tell_21 : decode cX1_tell 21 = .ok (.iadd, 1) := by decide +kernel
theorem dX1_tell_22 : decode cX1_tell 22 = .ok (.putfield 37, 3) := by decide +kernel
theorem dX1_tell_25 : decode cX1_tell 25 = .ok (.return_, 1) := by decide +kernel
theorem dX1_copyFrom_0 : decode cX1_copyFrom 0 = .ok (.aload_n 0, 1) := by decide +kernel
theorem dX1_copyFrom_1 : decode cX1_copyFrom 1 = .ok (.aload_n 1, 1) := by decide +kernel
theorem dX1_copyFrom_2 : decode cX1_copyFrom 2 = .ok (.getfield 40, 3) := by decide +kernel
theorem dX1_copyFrom_5 : decode cX1_copyFrom 5 = .ok (.putfield 40, 3) := by decide +kernel
theorem dX1_copyFrom_8 : decode cX1_copyFrom 8 = .ok (.aload_n 0, 1) := by decide +kernel
theorem dX1_copyFrom_9 : decode cX1_copyFrom 9 = .ok (.aload_n 1, 1) := by decide +kernel
theorem dX1_copyFrom_10 : decode cX1_copyFrom 10 = .ok (.getfield 28, 3) := by decide +kernel
theorem dX1_copyFrom_13 : decode cX1_copyFrom 13 = .ok (.putfield 28, 3) := by decide +kernel
theorem dX1_copyFrom_16 : decode cX1_copyFrom 16 = .ok (.aload_n 0, 1) := by decide +kernel
theorem dX1_copyFrom_17 : decode cX1_copyFrom 17 = .ok (.aload_n 1, 1) := by decide +kernel
theorem dX1_copyFrom_18 : decode cX1_copyFrom 18 = .ok (.getfield 31, 3) := by decide +kernel
theorem dX1_copyFrom_21 : decode cX1_copyFrom 21 = .ok (.putfield 31, 3) := by decide +kernel
theorem dX1_copyFrom_24 : decode cX1_copyFrom 24 = .ok (.aload_n 0, 1) := by decide +kernel
theorem dX1_copyFrom_25 : decode cX1_copyFrom 25 = .ok (.aload_n 1, 1) := by decide +kernel
theorem dX1_copyFrom_26 : decode cX1_copyFrom 26 = .ok (.getfield 43, 3) := by decide +kernel
theorem dX1_copyFrom_29 : decode cX1_copyFrom 29 = .ok (.putfield 43, 3) := by decide +kernel
theorem dX1_copyFrom_32 : decode cX1_copyFrom 32 = .ok (.aload_n 0, 1) := by decide +kernel
theorem dX1_copyFrom_33 : decode cX1_copyFrom 33 = .ok (.aload_n 1, 1) := by decide +kernel
theorem dX1_copyFrom_34 : decode cX1_copyFrom 34 = .ok (.getfield 24, 3) := by decide +kernel
theorem dX1_copyFrom_37 : decode cX1_copyFrom 37 = .ok (.putfield 24, 3) := by decide +kernel
theorem dX1_copyFrom_40 : decode cX1_copyFrom 40 = .ok (.aload_n 0, 1) := by decide +kernel
theorem dX1_copyFrom_41 : decode cX1_copyFrom 41 = .ok (.aload_n 1, 1) := by decide +kernel
theorem dX1_copyFrom_42 : decode cX1_copyFrom 42 = .ok (.getfield 9, 3) := by decide +kernel
theorem dX1_copyFrom_45 : decode cX1_copyFrom 45 = .ok (.putfield 9, 3) := by decide +kernel
theorem dX1_copyFrom_48 : decode cX1_copyFrom 48 = .ok (.aload_n 0, 1) := by decide +kernel
theorem dX1_copyFrom_49 : decode cX1_copyFrom 49 = .ok (.aload_n 1, 1) := by decide +kernel
theorem dX1_copyFrom_50 : decode cX1_copyFrom 50 = .ok (.getfield 15, 3) := by decide +kernel
theorem dX1_copyFrom_53 : decode cX1_copyFrom 53 = .ok (.putfield 15, 3) := by decide +kernel
theorem dX1_copyFrom_56 : decode cX1_copyFrom 56 = .ok (.aload_n 0, 1) := by decide +kernel
theorem dX1_copyFrom_57 : decode cX1_copyFrom 57 = .ok (.aload_n 1, 1) := by decide +kernel
theorem dX1_copyFrom_58 : decode cX1_copyFrom 58 = .ok (.getfield 18, 3) := by decide +kernel
theorem dX1_copyFrom_61 : decode cX1_copyFrom 61 = .ok (.putfield 18, 3) := by decide +kernel
theorem dX1_copyFrom_64 : decode cX1_copyFrom 64 = .ok (.aload_n 0, 1) := by decide +kernel
theorem dX1_copyFrom_65 : decode cX1_copyFrom 65 = .ok (.aload_n 1, 1) := by decide +kernel
theorem dX1_copyFrom_66 : decode cX1_copyFrom 66 = .ok (.getfield 21, 3) := by decide +kernel
theorem dX1_copyFrom_69 : decode cX1_copyFrom 69 = .ok (.putfield 21, 3) := by decide +kernel
theorem dX1_copyFrom_72 : decode cX1_copyFrom 72 = .ok (.aload_n 0, 1) := by decide +kernel
theorem dX1_copyFrom_73 : decode cX1_copyFrom 73 = .ok (.aload_n 1, 1) := by decide +kernel
theorem dX1_copyFrom_74 : decode cX1_copyFrom 74 = .ok (.getfield 34, 3) := by decide +kernel
theorem dX1_copyFrom_77 : decode cX1_copyFrom 77 = .ok (.putfield 34, 3) := by decide +kernel
theorem dX1_copyFrom_80 : decode cX1_copyFrom 80 = .ok (.aload_n 0, 1) := by decide +kernel
theorem dX1_copyFrom_81 : decode cX1_copyFrom 81 = .ok (.aload_n 1, 1) := by decide +kernel
theorem dX1_copyFrom_82 : decode cX1_copyFrom 82 = .ok (.getfield 37, 3) := by decide +kernel
theorem dX1_copyFrom_85 : decode cX1_copyFrom 85 = .ok (.putfield 37, 3) := by decide +kernel
theorem dX1_copyFrom_88 : decode cX1_copyFrom 88 = .ok (.aload_n 0, 1) := by decide +kernel
theorem dX1_copyFrom_89 : decode cX1_copyFrom 89 = .ok (.aload_n 1, 1) := by decide +kernel
theorem dX1_copyFrom_90 : decode cX1_copyFrom 90 = .ok (.getfield 46, 3) := by decide +kernel
theorem dX1_copyFrom_93 : decode cX1_copyFrom 93 = .ok (.putfield 46, 3) := by decide +kernel
theorem dX1_copyFrom_96 : decode cX1_copyFrom 96 = .ok (.aload_n 0, 1) := by decide +kernel
theorem dX1_copyFrom_97 : decode cX1_copyFrom 97 = .ok (.aload_n 1, 1) := by decide +kernel
theorem dX1_copyFrom_98 : decode cX1_copyFrom 98 = .ok (.getfield 49, 3) := by decide +kernel
theorem dX1_copyFrom_101 : decode cX1_copyFrom 101 = .ok (.putfield 49, 3) := by decide +kernel
theorem dX1_copyFrom_104 : decode cX1_copyFrom 104 = .ok (.return_, 1) := by decide +kernel
theorem dX1_fact_0 : decode cX1_fact 0 = .ok (.iload_n 1, 1) := by decide +kernel
theorem dX1_fact_1 : decode cX1_fact 1 = .ok (.tableswitch 113 0 9 #[55, 60, 65, 78, 83, 88, 93, 98, 103, 108], 55) := by decide +kernel
theorem dX1_fact_56 : decode cX1_fact 56 = .ok (.aload_n 0, 1) := by decide +kernel
theorem dX1_fact_57 : decode cX1_fact 57 = .ok (.getfield 28, 3) := by decide +kernel
theorem dX1_fact_60 : decode cX1_fact 60 = .ok (.ireturn, 1) := by decide +kernel
theorem dX1_fact_61 : decode cX1_fact 61 = .ok (.aload_n 0, 1) := by decide +kernel
theorem dX1_fact_62 : decode cX1_fact 62 = .ok (.getfield 31, 3) := by decide +kernel
theorem dX1_fact_65 : decode cX1_fact 65 = .ok (.ireturn, 1) := by decide +kernel
theorem dX1_fact_66 : decode cX1_fact 66 = .ok (.aload_n 0, 1) := by decide +kernel
theorem dX1_fact_67 : decode cX1_fact 67 = .ok (.getfield 24, 3) := by decide +kernel
theorem dX1_fact_70 : decode cX1_fact 70 = .ok (.ifCond .eq 7, 3) := by decide +kernel
theorem dX1_fact_73 : decode cX1_fact 73 = .ok (.iconst 1, 1) := by decide +kernel
theorem dX1_fact_74 : decode cX1_fact 74 = .ok (.goto 4, 3) := by decide +kernel
theorem dX1_fact_77 : decode cX1_fact 77 = .ok (.iconst 0, 1) := by decide +kernel
theorem dX1_fact_78 : decode cX1_fact 78 = .ok (.ireturn, 1) := by decide +kernel
theorem dX1_fact_79 : decode cX1_fact 79 = .ok (.aload_n 0, 1) := by decide +kernel
theorem dX1_fact_80 : decode cX1_fact 80 = .ok (.getfield 9, 3) := by decide +kernel
theorem dX1_fact_83 : decode cX1_fact 83 = .ok (.ireturn, 1) := by decide +kernel
theorem dX1_fact_84 : decode cX1_fact 84 = .ok (.aload_n 0, 1) := by decide +kernel
theorem dX1_fact_85 : decode cX1_fact 85 = .ok (.getfield 43, 3) := by decide +kernel
theorem dX1_fact_88 : decode cX1_fact 88 = .ok (.ireturn, 1) := by decide +kernel
theorem dX1_fact_89 : decode cX1_fact 89 = .ok (.aload_n 0, 1) := by decide +kernel
theorem dX1_fact_90 : decode cX1_fact 90 = .ok (.getfield 18, 3) := by decide +kernel
theorem dX1_fact_93 : decode cX1_fact 93 = .ok (.ireturn, 1) := by decide +kernel
theorem dX1_fact_94 : decode cX1_fact 94 = .ok (.aload_n 0, 1) := by decide +kernel
theorem dX1_fact_95 : decode cX1_fact 95 = .ok (.getfield 21, 3) := by decide +kernel
theorem dX1_fact_98 : decode cX1_fact 98 = .ok (.ireturn, 1) := by decide +kernel
theorem dX1_fact_99 : decode cX1_fact 99 = .ok (.aload_n 0, 1) := by decide +kernel
theorem dX1_fact_100 : decode cX1_fact 100 = .ok (.getfield 15, 3) := by decide +kernel
theorem dX1_fact_103 : decode cX1_fact 103 = .ok (.ireturn, 1) := by decide +kernel
theorem dX1_fact_104 : decode cX1_fact 104 = .ok (.aload_n 0, 1) := by decide +kernel
theorem dX1_fact_105 : decode cX1_fact 105 = .ok (.getfield 37, 3) := by decide +kernel
theorem dX1_fact_108 : decode cX1_fact 108 = .ok (.ireturn, 1) := by decide +kernel
theorem dX1_fact_109 : decode cX1_fact 109 = .ok (.aload_n 0, 1) := by decide +kernel
theorem dX1_fact_110 : decode cX1_fact 110 = .ok (.getfield 46, 3) := by decide +kernel
theorem dX1_fact_113 : decode cX1_fact 113 = .ok (.ireturn, 1) := by decide +kernel
theorem dX1_fact_114 : decode cX1_fact 114 = .ok (.aload_n 0, 1) := by decide +kernel
theorem dX1_fact_115 : decode cX1_fact 115 = .ok (.getfield 49, 3) := by decide +kernel
theorem dX1_fact_118 : decode cX1_fact 118 = .ok (.ireturn, 1) := by decide +kernel
theorem dX2_init_0 : decode cX2_init 0 = .ok (.aload_n 0, 1) := by decide +kernel
theorem dX2_init_1 : decode cX2_init 1 = .ok (.invokespecial 3, 3) := by decide +kernel
theorem dX2_init_4 : decode cX2_init 4 = .ok (.aload_n 0, 1) := by decide +kernel
theorem dX2_init_5 : decode cX2_init 5 = .ok (.iconst (-1), 1) := by decide +kernel
theorem dX2_init_6 : decode cX2_init 6 = .ok (.putfield 9, 3) := by decide +kernel
theorem dX2_init_9 : decode cX2_init 9 = .ok (.aload_n 0, 1) := by decide +kernel
theorem dX2_init_10 : decode cX2_init 10 = .ok (.iconst (-1), 1) := by decide +kernel
theorem dX2_init_11 : decode cX2_init 11 = .ok (.putfield 15, 3) := by decide +kernel
theorem dX2_init_14 : decode cX2_init 14 = .ok (.aload_n 0, 1) := by decide +kernel
theorem dX2_init_15 : decode cX2_init 15 = .ok (.iconst (-1), 1) := by decide +kernel
theorem dX2_init_16 : decode cX2_init 16 = .ok (.putfield 18, 3) := by decide +kernel
theorem dX2_init_19 : decode cX2_init 19 = .ok (.return_, 1) := by decide +kernel
theorem dX2_isUsed_0 : decode cX2_isUsed 0 = .ok (.aload_n 0, 1) := by decide +kernel
theorem dX2_isUsed_1 : decode cX2_isUsed 1 = .ok (.getfield 9, 3) := by decide +kernel
theorem dX2_isUsed_4 : decode cX2_isUsed 4 = .ok (.iconst (-1), 1) := by decide +kernel
theorem dX2_isUsed_5 : decode cX2_isUsed 5 = .ok (.if_icmp .eq 15, 3) := by decide +kernel
theorem dX2_isUsed_8 : decode cX2_isUsed 8 = .ok (.aload_n 0, 1) := by decide +kernel
theorem dX2_isUsed_9 : decode cX2_isUsed 9 = .ok (.getfield 15, 3) := by decide +kernel
theorem dX2_isUsed_12 : decode cX2_isUsed 12 = .ok (.iconst (-1), 1) := by decide +kernel
theorem dX2_isUsed_13 : decode cX2_isUsed 13 = .ok (.if_icmp .eq 7, 3) := by decide +kernel
theorem dX2_isUsed_16 : decode cX2_isUsed 16 = .ok (.iconst 1, 1) := by decide +kernel
theorem dX2_isUsed_17 : decode cX2_isUsed 17 = .ok (.goto 4, 3) := by decide +kernel
theorem dX2_isUsed_20 : decode cX2_isUsed 20 = .ok (.iconst 0, 1) := by decide +kernel
theorem dX2_isUsed_21 : decode cX2_isUsed 21 = .ok (.ireturn, 1) := by decide +kernel
theorem dX2_copyFrom_0 : decode cX2_copyFrom 0 = .ok (.aload_n 0, 1) := by decide +kernel
theorem dX2_copyFrom_1 : decode cX2_copyFrom 1 = .ok (.aload_n 1, 1) := by decide +kernel
theorem dX2_copyFrom_2 : decode cX2_copyFrom 2 = .ok (.getfield 9, 3) := by decide +kernel
theorem dX2_copyFrom_5 : decode cX2_copyFrom 5 = .ok (.putfield 9, 3) := by decide +kernel
theorem dX2_copyFrom_8 : decode cX2_copyFrom 8 = .ok (.aload_n 0, 1) := by decide +kernel
theorem dX2_copyFrom_9 : decode cX2_copyFrom 9 = .ok (.aload_n 1, 1) := by decide +kernel
theorem dX2_copyFrom_10 : decode cX2_copyFrom 10 = .ok (.getfield 15, 3) := by decide +kernel
theorem dX2_copyFrom_13 : decode cX2_copyFrom 13 = .ok (.putfield 15, 3) := by decide +kernel
theorem dX2_copyFrom_16 : decode cX2_copyFrom 16 = .ok (.aload_n 0, 1) := by decide +kernel
theorem dX2_copyFrom_17 : decode cX2_copyFrom 17 = .ok (.aload_n 1, 1) := by decide +kernel
theorem dX2_copyFrom_18 : decode cX2_copyFrom 18 = .ok (.getfield 21, 3) := by decide +kernel
theorem dX2_copyFrom_21 : decode cX2_copyFrom 21 = .ok (.putfield 21, 3) := by decide +kernel
theorem dX2_copyFrom_24 : decode cX2_copyFrom 24 = .ok (.aload_n 0, 1) := by decide +kernel
theorem dX2_copyFrom_25 : decode cX2_copyFrom 25 = .ok (.aload_n 1, 1) := by decide +kernel
theorem dX2_copyFrom_26 : decode cX2_copyFrom 26 = .ok (.getfield 24, 3) := by decide +kernel
theorem dX2_copyFrom_29 : decode cX2_copyFrom 29 = .ok (.putfield 24, 3) := by decide +kernel
theorem dX2_copyFrom_32 : decode cX2_copyFrom 32 = .ok (.aload_n 0, 1) := by decide +kernel
theorem dX2_copyFrom_33 : decode cX2_copyFrom 33 = .ok (.aload_n 1, 1) := by decide +kernel
theorem dX2_copyFrom_34 : decode cX2_copyFrom 34 = .ok (.getfield 18, 3) := by decide +kernel
theorem dX2_copyFrom_37 : decode cX2_copyFrom 37 = .ok (.putfield 18, 3) := by decide +kernel
theorem dX2_copyFrom_40 : decode cX2_copyFrom 40 = .ok (.aload_n 0, 1) := by decide +kernel
theorem dX2_copyFrom_41 : decode cX2_copyFrom 41 = .ok (.aload_n 1, 1) := by decide +kernel
theorem dX2_copyFrom_42 : decode cX2_copyFrom 42 = .ok (.getfield 27, 3) := by decide +kernel
theorem dX2_copyFrom_45 : decode cX2_copyFrom 45 = .ok (.putfield 27, 3) := by decide +kernel
theorem dX2_copyFrom_48 : decode cX2_copyFrom 48 = .ok (.return_, 1) := by decide +kernel
theorem dX3_init_0 : decode cX3_init 0 = .ok (.aload_n 0, 1) := by decide +kernel
theorem dX3_init_1 : decode cX3_init 1 = .ok (.invokespecial 1, 3) := by decide +kernel
theorem dX3_init_4 : decode cX3_init 4 = .ok (.return_, 1) := by decide +kernel
theorem dX3_distanceTo_0 : decode cX3_distanceTo 0 = .ok (.aload_n 0, 1) := by decide +kernel
theorem dX3_distanceTo_1 : decode cX3_distanceTo 1 = .ok (.getfield 7, 3) := by decide +kernel
theorem dX3_distanceTo_4 : decode cX3_distanceTo 4 = .ok (.iload_n 1, 1) := by decide +kernel
theorem dX3_distanceTo_5 : decode cX3_distanceTo 5 = .ok (.if_icmp .ge 12, 3) := by decide +kernel
theorem dX3_distanceTo_8 : decode cX3_distanceTo 8 = .ok (.iload_n 1, 1) := by decide +kernel
theorem dX3_distanceTo_9 : decode cX3_distanceTo 9 = .ok (.aload_n 0, 1) := by decide +kernel
theorem dX3_distanceTo_10 : decode cX3_distanceTo 10 = .ok (.getfield 7, 3) := by decide +kernel
theorem dX3_distanceTo_13 : decode cX3_distanceTo 13 = .ok (.isub, 1) := by decide +kernel
theorem dX3_distanceTo_14 : decode cX3_distanceTo 14 = .ok (.goto 9, 3) := by decide +kernel
theorem dX3_distanceTo_17 : decode cX3_distanceTo 17 = .ok (.aload_n 0, 1) := by decide +kernel
theorem dX3_distanceTo_18 : decode cX3_distanceTo 18 = .ok (.getfield 7, 3) := by decide +kernel
theorem dX3_distanceTo_21 : decode cX3_distanceTo 21 = .ok (.iload_n 1, 1) := by decide +kernel
theorem dX3_distanceTo_22 : decode cX3_distanceTo 22 = .ok (.isub, 1) := by decide +kernel
theorem dX3_distanceTo_23 : decode cX3_distanceTo 23 = .ok (.ireturn, 1) := by decide +kernel
theorem dX3_noiseAt_0 : decode cX3_noiseAt 0 = .ok (.aload_n 0, 1) := by decide +kernel
theorem dX3_noiseAt_1 : decode cX3_noiseAt 1 = .ok (.getfield 13, 3) := by decide +kernel
theorem dX3_noiseAt_4 : decode cX3_noiseAt 4 = .ok (.aload_n 0, 1) := by decide +kernel
theorem dX3_noiseAt_5 : decode cX3_noiseAt 5 = .ok (.iload_n 1, 1) := by decide +kernel
theorem dX3_noiseAt_6 : decode cX3_noiseAt 6 = .ok (.invokevirtual 16, 3) := by decide +kernel
theorem dX3_noiseAt_9 : decode cX3_noiseAt 9 = .ok (.isub, 1) := by decide +kernel
theorem dX3_noiseAt_10 : decode cX3_noiseAt 10 = .ok (.istore_n 2, 1) := by decide +kernel
theorem dX3_noiseAt_11 : decode cX3_noiseAt 11 = .ok (.aload_n 0, 1) := by decide +kernel
theorem dX3_noiseAt_12 : decode cX3_noiseAt 12 = .ok (.getfield 20, 3) := by decide +kernel
theorem dX3_noiseAt_15 : decode cX3_noiseAt 15 = .ok (.ifCond .eq 13, 3) := by decide +kernel
theorem dX3_noiseAt_18 : decode cX3_noiseAt 18 = .ok (.iload_n 2, 1) := by decide +kernel
theorem dX3_noiseAt_19 : decode cX3_noiseAt 19 = .ok (.ifCond .le 9, 3) := by decide +kernel
theorem dX3_noiseAt_22 : decode cX3_noiseAt 22 = .ok (.iload_n 2, 1) := by decide +kernel
theorem dX3_noiseAt_23 : decode cX3_noiseAt 23 = .ok (.iconst 3, 1) := by decide +kernel
theorem dX3_noiseAt_24 : decode cX3_noiseAt 24 = .ok (.idiv, 1) := by decide +kernel
theorem dX3_noiseAt_25 : decode cX3_noiseAt 25 = .ok (.goto 4, 3) := by decide +kernel
theorem dX3_noiseAt_28 : decode cX3_noiseAt 28 = .ok (.iconst 0, 1) := by decide +kernel
theorem dX3_noiseAt_29 : decode cX3_noiseAt 29 = .ok (.ireturn, 1) := by decide +kernel
theorem dX3_fact_0 : decode cX3_fact 0 = .ok (.iload_n 1, 1) := by decide +kernel
theorem dX3_fact_1 : decode cX3_fact 1 = .ok (.tableswitch 69 0 5 #[39, 44, 49, 54, 59, 64], 39) := by decide +kernel
theorem dX3_fact_40 : decode cX3_fact 40 = .ok (.aload_n 0, 1) := by decide +kernel
theorem dX3_fact_41 : decode cX3_fact 41 = .ok (.getfield 7, 3) := by decide +kernel
theorem dX3_fact_44 : decode cX3_fact 44 = .ok (.ireturn, 1) := by decide +kernel
theorem dX3_fact_45 : decode cX3_fact 45 = .ok (.aload_n 0, 1) := by decide +kernel
theorem dX3_fact_46 : decode cX3_fact 46 = .ok (.getfield 13, 3) := by decide +kernel
theorem dX3_fact_49 : decode cX3_fact 49 = .ok (.ireturn, 1) := by decide +kernel
theorem dX3_fact_50 : decode cX3_fact 50 = .ok (.aload_n 0, 1) := by decide +kernel
theorem dX3_fact_51 : decode cX3_fact 51 = .ok (.getfield 24, 3) := by decide +kernel
theorem dX3_fact_54 : decode cX3_fact 54 = .ok (.ireturn, 1) := by decide +kernel
theorem dX3_fact_55 : decode cX3_fact 55 = .ok (.aload_n 0, 1) := by decide +kernel
theorem dX3_fact_56 : decode cX3_fact 56 = .ok (.getfield 27, 3) := by decide +kernel
theorem dX3_fact_59 : decode cX3_fact 59 = .ok (.ireturn, 1) := by decide +kernel
theorem dX3_fact_60 : decode cX3_fact 60 = .ok (.aload_n 0, 1) := by decide +kernel
theorem dX3_fact_61 : decode cX3_fact 61 = .ok (.getfield 30, 3) := by decide +kernel
theorem dX3_fact_64 : decode cX3_fact 64 = .ok (.ireturn, 1) := by decide +kernel
theorem dX3_fact_65 : decode cX3_fact 65 = .ok (.aload_n 0, 1) := by decide +kernel
theorem dX3_fact_66 : decode cX3_fact 66 = .ok (.getfield 33, 3) := by decide +kernel
theorem dX3_fact_69 : decode cX3_fact 69 = .ok (.ireturn, 1) := by decide +kernel
theorem dX3_fact_70 : decode cX3_fact 70 = .ok (.aload_n 0, 1) := by decide +kernel
theorem dX3_fact_71 : decode cX3_fact 71 = .ok (.getfield 20, 3) := by decide +kernel
theorem dX3_fact_74 : decode cX3_fact 74 = .ok (.ifCond .eq 7, 3) := by decide +kernel
theorem dX3_fact_77 : decode cX3_fact 77 = .ok (.iconst 1, 1) := by decide +kernel
theorem dX3_fact_78 : decode cX3_fact 78 = .ok (.goto 4, 3) := by decide +kernel
theorem dX3_fact_81 : decode cX3_fact 81 = .ok (.iconst 0, 1) := by decide +kernel
theorem dX3_fact_82 : decode cX3_fact 82 = .ok (.ireturn, 1) := by decide +kernel
theorem dX4_init_0 : decode cX4_init 0 = .ok (.aload_n 0, 1) := by decide +kernel
theorem dX4_init_1 : decode cX4_init 1 = .ok (.invokespecial 3, 3) := by decide +kernel
theorem dX4_init_4 : decode cX4_init 4 = .ok (.aload_n 0, 1) := by decide +kernel
theorem dX4_init_5 : decode cX4_init 5 = .ok (.bipush 6, 2) := by decide +kernel
theorem dX4_init_7 : decode cX4_init 7 = .ok (.anewarray 9, 3) := by decide +kernel
theorem dX4_init_10 : decode cX4_init 10 = .ok (.putfield 11, 3) := by decide +kernel
theorem dX4_init_13 : decode cX4_init 13 = .ok (.iconst 0, 1) := by decide +kernel
theorem dX4_init_14 : decode cX4_init 14 = .ok (.istore_n 1, 1) := by decide +kernel
theorem dX4_init_15 : decode cX4_init 15 = .ok (.iload_n 1, 1) := by decide +kernel
theorem dX4_init_16 : decode cX4_init 16 = .ok (.bipush 6, 2) := by decide +kernel
theorem dX4_init_18 : decode cX4_init 18 = .ok (.if_icmp .ge 22, 3) := by decide +kernel
theorem dX4_init_21 : decode cX4_init 21 = .ok (.aload_n 0, 1) := by decide +kernel
theorem dX4_init_22 : decode cX4_init 22 = .ok (.getfield 11, 3) := by decide +kernel
theorem dX4_init_25 : decode cX4_init 25 = .ok (.iload_n 1, 1) := by decide +kernel
theorem dX4_init_26 : decode cX4_init 26 = .ok (.new 9, 3) := by decide +kernel
theorem dX4_init_29 : decode cX4_init 29 = .ok (.dup, 1) := by decide +kernel
theorem dX4_init_30 : decode cX4_init 30 = .ok (.invokespecial 17, 3) := by decide +kernel
theorem dX4_init_33 : decode cX4_init 33 = .ok (.aastore, 1) := by decide +kernel
theorem dX4_init_34 : decode cX4_init 34 = .ok (.iinc 1 1, 3) := by decide +kernel
theorem dX4_init_37 : decode cX4_init 37 = .ok (.goto (-22), 3) := by decide +kernel
theorem dX4_init_40 : decode cX4_init 40 = .ok (.aload_n 0, 1) := by decide +kernel
theorem dX4_init_41 : decode cX4_init 41 = .ok (.bipush 6, 2) := by decide +kernel
theorem dX4_init_43 : decode cX4_init 43 = .ok (.bipush 100, 2) := by decide +kernel
theorem dX4_init_45 : decode cX4_init 45 = .ok (.multianewarray 18 2, 4) := by decide +kernel
theorem dX4_init_49 : decode cX4_init 49 = .ok (.putfield 20, 3) := by decide +kernel
theorem dX4_init_52 : decode cX4_init 52 = .ok (.return_, 1) := by decide +kernel
theorem dX4_measure_0 : decode cX4_measure 0 = .ok (.iconst 0, 1) := by decide +kernel
theorem dX4_measure_1 : decode cX4_measure 1 = .ok (.istore_n 1, 1) := by decide +kernel
theorem dX4_measure_2 : decode cX4_measure 2 = .ok (.iload_n 1, 1) := by decide +kernel
theorem dX4_measure_3 : decode cX4_measure 3 = .ok (.aload_n 0, 1) := by decide +kernel
theorem dX4_measure_4 : decode cX4_measure 4 = .ok (.getfield 23, 3) := by decide +kernel
theorem dX4_measure_7 : decode cX4_measure 7 = .ok (.if_icmp .ge 37, 3) := by decide +kernel
theorem dX4_measure_10 : decode cX4_measure 10 = .ok (.iconst 0, 1) := by decide +kernel
theorem dX4_measure_11 : decode cX4_measure 11 = .ok (.istore_n 2, 1) := by decide +kernel
theorem dX4_measure_12 : decode cX4_measure 12 = .ok (.iload_n 2, 1) := by decide +kernel
theorem dX4_measure_13 : decode cX4_measure 13 = .ok (.bipush 100, 2) := by decide +kernel
theorem dX4_measure_15 : decode cX4_measure 15 = .ok (.if_icmp .ge 23, 3) := by decide +kernel
theorem dX4_measure_18 : decode cX4_measure 18 = .ok (.aload_n 0, 1) := by decide +kernel
theorem dX4_measure_19 : decode cX4_measure 19 = .ok (.getfield 20, 3) := by decide +kernel
theorem dX4_measure_22 : decode cX4_measure 22 = .ok (.iload_n 1, 1) := by decide +kernel
theorem dX4_measure_23 : decode cX4_measure 23 = .ok (.aaload, 1) := by decide +kernel
theorem dX4_measure_24 : decode cX4_measure 24 = .ok (.iload_n 2, 1) := by decide +kernel
theorem dX4_measure_25 : decode cX4_measure 25 = .ok (.aload_n 0, 1) := by decide +kernel
theorem dX4_measure_26 : decode cX4_measure 26 = .ok (.iload_n 1, 1) := by decide +kernel
theorem dX4_measure_27 : decode cX4_measure 27 = .ok (.iload_n 2, 1) := by decide +kernel
theorem dX4_measure_28 : decode cX4_measure 28 = .ok (.invokevirtual 27, 3) := by decide +kernel
theorem dX4_measure_31 : decode cX4_measure 31 = .ok (.iastore, 1) := by decide +kernel
theorem dX4_measure_32 : decode cX4_measure 32 = .ok (.iinc 2 1, 3) := by decide +kernel
theorem dX4_measure_35 : decode cX4_measure 35 = .ok (.goto (-23), 3) := by decide +kernel
theorem dX4_measure_38 : decode cX4_measure 38 = .ok (.iinc 1 1, 3) := by decide +kernel
theorem dX4_measure_41 : decode cX4_measure 41 = .ok (.goto (-39), 3) := by decide +kernel
theorem dX4_measure_44 : decode cX4_measure 44 = .ok (.return_, 1) := by decide +kernel
theorem dX4_measureOne_0 : decode cX4_measureOne 0 = .ok (.aload_n 0, 1) := by decide +kernel
theorem dX4_measureOne_1 : decode cX4_measureOne 1 = .ok (.getfield 11, 3) := by decide +kernel
theorem dX4_measureOne_4 : decode cX4_measureOne 4 = .ok (.iload_n 1, 1) := by decide +kernel
theorem dX4_measureOne_5 : decode cX4_measureOne 5 = .ok (.aaload, 1) := by decide +kernel
theorem dX4_measureOne_6 : decode cX4_measureOne 6 = .ok (.astore_n 3, 1) := by decide +kernel
theorem dX4_measureOne_7 : decode cX4_measureOne 7 = .ok (.aload_n 3, 1) := by decide +kernel
theorem dX4_measureOne_8 : decode cX4_measureOne 8 = .ok (.getfield 31, 3) := by decide +kernel
theorem dX4_measureOne_11 : decode cX4_measureOne 11 = .ok (.ifCond .ne 6, 3) := by decide +kernel
theorem dX4_measureOne_14 : decode cX4_measureOne 14 = .ok (.bipush (-99), 2) := by decide +kernel
theorem dX4_measureOne_16 : decode cX4_measureOne 16 = .ok (.ireturn, 1) := by decide +kernel
theorem dX4_measureOne_17 : decode cX4_measureOne 17 = .ok (.aload_n 3, 1) := by decide +kernel
theorem dX4_measureOne_18 : decode cX4_measureOne 18 = .ok (.getfield 35, 3) := by decide +kernel
theorem dX4_measureOne_21 : decode cX4_measureOne 21 = .ok (.aload_n 3, 1) := by decide +kernel
theorem dX4_measureOne_22 : decode cX4_measureOne 22 = .ok (.iload_n 2, 1) := by decide +kernel
theorem dX4_measureOne_23 : decode cX4_measureOne 23 = .ok (.invokevirtual 38, 3) := by decide +kernel
theorem dX4_measureOne_26 : decode cX4_measureOne 26 = .ok (.isub, 1) := by decide +kernel
theorem dX4_measureOne_27 : decode cX4_measureOne 27 = .ok (.istore 4, 2) := by decide +kernel
theorem dX4_measureOne_29 : decode cX4_measureOne 29 = .ok (.iconst 0, 1) := by decide +kernel
theorem dX4_measureOne_30 : decode cX4_measureOne 30 = .ok (.istore 5, 2) := by decide +kernel
theorem dX4_measureOne_32 : decode cX4_measureOne 32 = .ok (.iload 5, 2) := by decide +kernel
theorem dX4_measureOne_34 : decode cX4_measureOne 34 = .ok (.aload_n 0, 1) := by decide +kernel
theorem dX4_measureOne_35 : decode cX4_measureOne 35 = .ok (.getfield 23, 3) := by decide +kernel
theorem dX4_measureOne_38 : decode cX4_measureOne 38 = .ok (.if_icmp .ge 48, 3) := by decide +kernel
theorem dX4_measureOne_41 : decode cX4_measureOne 41 = .ok (.iload 5, 2) := by decide +kernel
theorem dX4_measureOne_43 : decode cX4_measureOne 43 = .ok (.iload_n 1, 1) := by decide +kernel
theorem dX4_measureOne_44 : decode cX4_measureOne 44 = .ok (.if_icmp .eq 36, 3) := by decide +kernel
theorem dX4_measureOne_47 : decode cX4_measureOne 47 = .ok (.aload_n 0, 1) := by decide +kernel
theorem dX4_measureOne_48 : decode cX4_measureOne 48 = .ok (.getfield 11, 3) := by decide +kernel
theorem dX4_measureOne_51 : decode cX4_measureOne 51 = .ok (.iload 5, 2) := by decide +kernel
theorem dX4_measureOne_53 : decode cX4_measureOne 53 = .ok (.aaload, 1) := by decide +kernel
theorem dX4_measureOne_54 : decode cX4_measureOne 54 = .ok (.getfield 42, 3) := by decide +kernel
theorem dX4_measureOne_57 : decode cX4_measureOne 57 = .ok (.aload_n 3, 1) := by decide +kernel
theorem dX4_measureOne_58 : decode cX4_measureOne 58 = .ok (.getfield 42, 3) := by decide +kernel
theorem dX4_measureOne_61 : decode cX4_measureOne 61 = .ok (.if_icmp .ne 19, 3) := by decide +kernel
theorem dX4_measureOne_64 : decode cX4_measureOne 64 = .ok (.iload 4, 2) := by decide +kernel
theorem dX4_measureOne_66 : decode cX4_measureOne 66 = .ok (.aload_n 0, 1) := by decide +kernel
theorem dX4_measureOne_67 : decode cX4_measureOne 67 = .ok (.getfield 11, 3) := by decide +kernel
theorem dX4_measureOne_70 : decode cX4_measureOne 70 = .ok (.iload 5, 2) := by decide +kernel
theorem dX4_measureOne_72 : decode cX4_measureOne 72 = .ok (.aaload, 1) := by decide +kernel
theorem dX4_measureOne_73 : decode cX4_measureOne 73 = .ok (.iload_n 2, 1) := by decide +kernel
theorem dX4_measureOne_74 : decode cX4_measureOne 74 = .ok (.invokevirtual 45, 3) := by decide +kernel
theorem dX4_measureOne_77 : decode cX4_measureOne 77 = .ok (.isub, 1) := by decide +kernel
theorem dX4_measureOne_78 : decode cX4_measureOne 78 = .ok (.istore 4, 2) := by decide +kernel
theorem dX4_measureOne_80 : decode cX4_measureOne 80 = .ok (.iinc 5 1, 3) := by decide +kernel
theorem dX4_measureOne_83 : decode cX4_measureOne 83 = .ok (.goto (-51), 3) := by decide +kernel
theorem dX4_measureOne_86 : decode cX4_measureOne 86 = .ok (.iload 4, 2) := by decide +kernel
theorem dX4_measureOne_88 : decode cX4_measureOne 88 = .ok (.ireturn, 1) := by decide +kernel
theorem dX4_awakeInArea_0 : decode cX4_awakeInArea 0 = .ok (.iconst 0, 1) := by decide +kernel
theorem dX4_awakeInArea_1 : decode cX4_awakeInArea 1 = .ok (.istore_n 2, 1) := by decide +kernel
theorem dX4_awakeInArea_2 : decode cX4_awakeInArea 2 = .ok (.iconst 0, 1) := by decide +kernel
theorem dX4_awakeInArea_3 : decode cX4_awakeInArea 3 = .ok (.istore_n 3, 1) := by decide +kernel
theorem dX4_awakeInArea_4 : decode cX4_awakeInArea 4 = .ok (.iload_n 3, 1) := by decide +kernel
theorem dX4_awakeInArea_5 : decode cX4_awakeInArea 5 = .ok (.aload_n 0, 1) := by decide +kernel
theorem dX4_awakeInArea_6 : decode cX4_awakeInArea 6 = .ok (.getfield 23, 3) := by decide +kernel
theorem dX4_awakeInArea_9 : decode cX4_awakeInArea 9 = .ok (.if_icmp .ge 37, 3) := by decide +kernel
theorem dX4_awakeInArea_12 : decode cX4_awakeInArea 12 = .ok (.aload_n 0, 1) := by decide +kernel
theorem dX4_awakeInArea_13 : decode cX4_awakeInArea 13 = .ok (.getfield 11, 3) := by decide +kernel
theorem dX4_awakeInArea_16 : decode cX4_awakeInArea 16 = .ok (.iload_n 3, 1) := by decide +kernel
theorem dX4_awakeInArea_17 : decode cX4_awakeInArea 17 = .ok (.aaload, 1) := by decide +kernel
theorem dX4_awakeInArea_18 : decode cX4_awakeInArea 18 = .ok (.getfield 31, 3) := by decide +kernel
theorem dX4_awakeInArea_21 : decode cX4_awakeInArea 21 = .ok (.ifCond .eq 19, 3) := by decide +kernel
theorem dX4_awakeInArea_24 : decode cX4_awakeInArea 24 = .ok (.aload_n 0, 1) := by decide +kernel
theorem dX4_awakeInArea_25 : decode cX4_awakeInArea 25 = .ok (.getfield 11, 3) := by decide +kernel
theorem dX4_awakeInArea_28 : decode cX4_awakeInArea 28 = .ok (.iload_n 3, 1) := by decide +kernel
theorem dX4_awakeInArea_29 : decode cX4_awakeInArea 29 = .ok (.aaload, 1) := by decide +kernel
theorem dX4_awakeInArea_30 : decode cX4_awakeInArea 30 = .ok (.getfield 48, 3) := by decide +kernel
theorem dX4_awakeInArea_33 : decode cX4_awakeInArea 33 = .ok (.iload_n 1, 1) := by decide +kernel
theorem dX4_awakeInArea_34 : decode cX4_awakeInArea 34 = .ok (.if_icmp .ne 6, 3) := by decide +kernel
theorem dX4_awakeInArea_37 : decode cX4_awakeInArea 37 = .ok (.iinc 2 1, 3) := by decide +kernel
theorem dX4_awakeInArea_40 : decode cX4_awakeInArea 40 = .ok (.iinc 3 1, 3) := by decide +kernel
theorem dX4_awakeInArea_43 : decode cX4_awakeInArea 43 = .ok (.goto (-39), 3) := by decide +kernel
theorem dX4_awakeInArea_46 : decode cX4_awakeInArea 46 = .ok (.iload_n 2, 1) := by decide +kernel
theorem dX4_awakeInArea_47 : decode cX4_awakeInArea 47 = .ok (.ireturn, 1) := by decide +kernel
theorem dX4_awake_0 : decode cX4_awake 0 = .ok (.iconst 0, 1) := by decide +kernel
theorem dX4_awake_1 : decode cX4_awake 1 = .ok (.istore_n 1, 1) := by decide +kernel
theorem dX4_awake_2 : decode cX4_awake 2 = .ok (.iconst 0, 1) := by decide +kernel
theorem dX4_awake_3 : decode cX4_awake 3 = .ok (.istore_n 2, 1) := by decide +kernel
theorem dX4_awake_4 : decode cX4_awake 4 = .ok (.iload_n 2, 1) := by decide +kernel
theorem dX4_awake_5 : decode cX4_awake 5 = .ok (.aload_n 0, 1) := by decide +kernel
theorem dX4_awake_6 : decode cX4_awake 6 = .ok (.getfield 23, 3) := by decide +kernel
theorem dX4_awake_9 : decode cX4_awake 9 = .ok (.if_icmp .ge 24, 3) := by decide +kernel
theorem dX4_awake_12 : decode cX4_awake 12 = .ok (.aload_n 0, 1) := by decide +kernel
theorem dX4_awake_13 : decode cX4_awake 13 = .ok (.getfield 11, 3) := by decide +kernel
theorem dX4_awake_16 : decode cX4_awake 16 = .ok (.iload_n 2, 1) := by decide +kernel
theorem dX4_awake_17 : decode cX4_awake 17 = .ok (.aaload, 1) := by decide +kernel
theorem dX4_awake_18 : decode cX4_awake 18 = .ok (.getfield 31, 3) := by decide +kernel
theorem dX4_awake_21 : decode cX4_awake 21 = .ok (.ifCond .eq 6, 3) := by decide +kernel
theorem dX4_awake_24 : decode cX4_awake 24 = .ok (.iinc 1 1, 3) := by decide +kernel
theorem dX4_awake_27 : decode cX4_awake 27 = .ok (.iinc 2 1, 3) := by decide +kernel
theorem dX4_awake_30 : decode cX4_awake 30 = .ok (.goto (-26), 3) := by decide +kernel
theorem dX4_awake_33 : decode cX4_awake 33 = .ok (.iload_n 1, 1) := by decide +kernel
theorem dX4_awake_34 : decode cX4_awake 34 = .ok (.ireturn, 1) := by decide +kernel
theorem dX5_init_0 : decode cX5_init 0 = .ok (.aload_n 0, 1) := by decide +kernel
theorem dX5_init_1 : decode cX5_init 1 = .ok (.invokespecial 3, 3) := by decide +kernel
theorem dX5_init_4 : decode cX5_init 4 = .ok (.aload_n 0, 1) := by decide +kernel
theorem dX5_init_5 : decode cX5_init 5 = .ok (.aload_n 1, 1) := by decide +kernel
theorem dX5_init_6 : decode cX5_init 6 = .ok (.putfield 9, 3) := by decide +kernel
theorem dX5_init_9 : decode cX5_init 9 = .ok (.aload_n 0, 1) := by decide +kernel
theorem dX5_init_10 : decode cX5_init 10 = .ok (.bipush 6, 2) := by decide +kernel
theorem dX5_init_12 : decode cX5_init 12 = .ok (.newarray .int, 2) := by decide +kernel
theorem dX5_init_14 : decode cX5_init 14 = .ok (.putfield 15, 3) := by decide +kernel
theorem dX5_init_17 : decode cX5_init 17 = .ok (.aload_n 0, 1) := by decide +kernel
theorem dX5_init_18 : decode cX5_init 18 = .ok (.bipush 6, 2) := by decide +kernel
theorem dX5_init_20 : decode cX5_init 20 = .ok (.newarray .int, 2) := by decide +kernel
theorem dX5_init_22 : decode cX5_init 22 = .ok (.putfield 19, 3) := by decide +kernel
theorem dX5_init_25 : decode cX5_init 25 = .ok (.aload_n 0, 1) := by decide +kernel
theorem dX5_init_26 : decode cX5_init 26 = .ok (.bipush 8, 2) := by decide +kernel
theorem dX5_init_28 : decode cX5_init 28 = .ok (.anewarray 22, 3) := by decide +kernel
theorem dX5_init_31 : decode cX5_init 31 = .ok (.putfield 24, 3) := by decide +kernel
theorem dX5_init_34 : decode cX5_init 34 = .ok (.iconst 0, 1) := by decide +kernel
theorem dX5_init_35 : decode cX5_init 35 = .ok (.istore_n 2, 1) := by decide +kernel
theorem dX5_init_36 : decode cX5_init 36 = .ok (.iload_n 2, 1) := by decide +kernel
theorem dX5_init_37 : decode cX5_init 37 = .ok (.bipush 8, 2) := by decide +kernel
theorem dX5_init_39 : decode cX5_init 39 = .ok (.if_icmp .ge 22, 3) := by decide +kernel
theorem dX5_init_42 : decode cX5_init 42 = .ok (.aload_n 0, 1) := by decide +kernel
theorem dX5_init_43 : decode cX5_init 43 = .ok (.getfield 24, 3) := by decide +kernel
theorem dX5_init_46 : decode cX5_init 46 = .ok (.iload_n 2, 1) := by decide +kernel
theorem dX5_init_47 : decode cX5_init 47 = .ok (.new 22, 3) := by decide +kernel
theorem dX5_init_50 : decode cX5_init 50 = .ok (.dup, 1) := by decide +kernel
theorem dX5_init_51 : decode cX5_init 51 = .ok (.invokespecial 28, 3) := by decide +kernel
theorem dX5_init_54 : decode cX5_init 54 = .ok (.aastore, 1) := by decide +kernel
theorem dX5_init_55 : decode cX5_init 55 = .ok (.iinc 2 1, 3) := by decide +kernel
theorem dX5_init_58 : decode cX5_init 58 = .ok (.goto (-22), 3) := by decide +kernel
theorem dX5_init_61 : decode cX5_init 61 = .ok (.aload_n 0, 1) := by decide +kernel
theorem dX5_init_62 : decode cX5_init 62 = .ok (.bipush 24, 2) := by decide +kernel
theorem dX5_init_64 : decode cX5_init 64 = .ok (.anewarray 29, 3) := by decide +kernel
theorem dX5_init_67 : decode cX5_init 67 = .ok (.putfield 31, 3) := by decide +kernel
theorem dX5_init_70 : decode cX5_init 70 = .ok (.iconst 0, 1) := by decide +kernel
theorem dX5_init_71 : decode cX5_init 71 = .ok (.istore_n 2, 1) := by decide +kernel
theorem dX5_init_72 : decode cX5_init 72 = .ok (.iload_n 2, 1) := by decide +kernel
theorem dX5_init_73 : decode cX5_init 73 = .ok (.bipush 24, 2) := by decide +kernel
theorem dX5_init_75 : decode cX5_init 75 = .ok (.if_icmp .ge 22, 3) := by decide +kernel
theorem dX5_init_78 : decode cX5_init 78 = .ok (.aload_n 0, 1) := by decide +kernel
theorem dX5_init_79 : decode cX5_init 79 = .ok (.getfield 31, 3) := by decide +kernel
theorem dX5_init_82 : decode cX5_init 82 = .ok (.iload_n 2, 1) := by decide +kernel
theorem dX5_init_83 : decode cX5_init 83 = .ok (.new 29, 3) := by decide +kernel
theorem dX5_init_86 : decode cX5_init 86 = .ok (.dup, 1) := by decide +kernel
theorem dX5_init_87 : decode cX5_init 87 = .ok (.invokespecial 35, 3) := by decide +kernel
theorem dX5_init_90 : decode cX5_init 90 = .ok (.aastore, 1) := by decide +kernel
theorem dX5_init_91 : decode cX5_init 91 = .ok (.iinc 2 1, 3) := by decide +kernel
theorem dX5_init_94 : decode cX5_init 94 = .ok (.goto (-22), 3) := by decide +kernel
theorem dX5_init_97 : decode cX5_init 97 = .ok (.return_, 1) := by decide +kernel
theorem dX5_copyFrom_0 : decode cX5_copyFrom 0 = .ok (.iconst 0, 1) := by decide +kernel
theorem dX5_copyFrom_1 : decode cX5_copyFrom 1 = .ok (.istore_n 2, 1) := by decide +kernel
theorem dX5_copyFrom_2 : decode cX5_copyFrom 2 = .ok (.iload_n 2, 1) := by decide +kernel
theorem dX5_copyFrom_3 : decode cX5_copyFrom 3 = .ok (.bipush 6, 2) := by decide +kernel
theorem dX5_copyFrom_5 : decode cX5_copyFrom 5 = .ok (.if_icmp .ge 33, 3) := by decide +kernel
theorem dX5_copyFrom_8 : decode cX5_copyFrom 8 = .ok (.aload_n 0, 1) := by decide +kernel
theorem dX5_copyFrom_9 : decode cX5_copyFrom 9 = .ok (.getfield 15, 3) := by decide +kernel
theorem dX5_copyFrom_12 : decode cX5_copyFrom 12 = .ok (.iload_n 2, 1) := by decide +kernel
theorem dX5_copyFrom_13 : decode cX5_copyFrom 13 = .ok (.aload_n 1, 1) := by decide +kernel
theorem dX5_copyFrom_14 : decode cX5_copyFrom 14 = .ok (.getfield 15, 3) := by decide +kernel
theorem dX5_copyFrom_17 : decode cX5_copyFrom 17 = .ok (.iload_n 2, 1) := by decide +kernel
theorem dX5_copyFrom_18 : decode cX5_copyFrom 18 = .ok (.iaload, 1) := by decide +kernel
theorem dX5_copyFrom_19 : decode cX5_copyFrom 19 = .ok (.iastore, 1) := by decide +kernel
theorem dX5_copyFrom_20 : decode cX5_copyFrom 20 = .ok (.aload_n 0, 1) := by decide +kernel
theorem dX5_copyFrom_21 : decode cX5_copyFrom 21 = .ok (.getfield 19, 3) := by decide +kernel
theorem dX5_copyFrom_24 : decode cX5_copyFrom 24 = .ok (.iload_n 2, 1) := by decide +kernel
theorem dX5_copyFrom_25 : decode cX5_copyFrom 25 = .ok (.aload_n 1, 1) := by decide +kernel
theorem dX5_copyFrom_26 : decode cX5_copyFrom 26 = .ok (.getfield 19, 3) := by decide +kernel
theorem dX5_copyFrom_29 : decode cX5_copyFrom 29 = .ok (.iload_n 2, 1) := by decide +kernel
theorem dX5_copyFrom_30 : decode cX5_copyFrom 30 = .ok (.iaload, 1) := by decide +kernel
theorem dX5_copyFrom_31 : decode cX5_copyFrom 31 = .ok (.iastore, 1) := by decide +kernel
theorem dX5_copyFrom_32 : decode cX5_copyFrom 32 = .ok (.iinc 2 1, 3) := by decide +kernel
theorem dX5_copyFrom_35 : decode cX5_copyFrom 35 = .ok (.goto (-33), 3) := by decide +kernel
theorem dX5_copyFrom_38 : decode cX5_copyFrom 38 = .ok (.aload_n 0, 1) := by decide +kernel
theorem dX5_copyFrom_39 : decode cX5_copyFrom 39 = .ok (.aload_n 1, 1) := by decide +kernel
theorem dX5_copyFrom_40 : decode cX5_copyFrom 40 = .ok (.getfield 36, 3) := by decide +kernel
theorem dX5_copyFrom_43 : decode cX5_copyFrom 43 = .ok (.putfield 36, 3) := by decide +kernel
theorem dX5_copyFrom_46 : decode cX5_copyFrom 46 = .ok (.iconst 0, 1) := by decide +kernel
theorem dX5_copyFrom_47 : decode cX5_copyFrom 47 = .ok (.istore_n 2, 1) := by decide +kernel
theorem dX5_copyFrom_48 : decode cX5_copyFrom 48 = .ok (.iload_n 2, 1) := by decide +kernel
theorem dX5_copyFrom_49 : decode cX5_copyFrom 49 = .ok (.aload_n 0, 1) := by decide +kernel
theorem dX5_copyFrom_50 : decode cX5_copyFrom 50 = .ok (.getfield 36, 3) := by decide +kernel
theorem dX5_copyFrom_53 : decode cX5_copyFrom 53 = .ok (.if_icmp .ge 24, 3) := by decide +kernel
theorem dX5_copyFrom_56 : decode cX5_copyFrom 56 = .ok (.aload_n 0, 1) := by decide +kernel
theorem dX5_copyFrom_57 : decode cX5_copyFrom 57 = .ok (.getfield 24, 3) := by decide +kernel
theorem dX5_copyFrom_60 : decode cX5_copyFrom 60 = .ok (.iload_n 2, 1) := by decide +kernel
theorem dX5_copyFrom_61 : decode cX5_copyFrom 61 = .ok (.aaload, 1) := by decide +kernel
theorem dX5_copyFrom_62 : decode cX5_copyFrom 62 = .ok (.aload_n 1, 1) := by decide +kernel
theorem dX5_copyFrom_63 : decode cX5_copyFrom 63 = .ok (.getfield 24, 3) := by decide +kernel
theorem dX5_copyFrom_66 : decode cX5_copyFrom 66 = .ok (.iload_n 2, 1) := by decide +kernel
theorem dX5_copyFrom_67 : decode cX5_copyFrom 67 = .ok (.aaload, 1) := by decide +kernel
theorem dX5_copyFrom_68 : decode cX5_copyFrom 68 = .ok (.invokevirtual 40, 3) := by decide +kernel
theorem dX5_copyFrom_71 : decode cX5_copyFrom 71 = .ok (.iinc 2 1, 3) := by decide +kernel
theorem dX5_copyFrom_74 : decode cX5_copyFrom 74 = .ok (.goto (-26), 3) := by decide +kernel
theorem dX5_copyFrom_77 : decode cX5_copyFrom 77 = .ok (.aload_n 0, 1) := by decide +kernel
theorem dX5_copyFrom_78 : decode cX5_copyFrom 78 = .ok (.aload_n 1, 1) := by decide +kernel
theorem dX5_copyFrom_79 : decode cX5_copyFrom 79 = .ok (.getfield 44, 3) := by decide +kernel
theorem dX5_copyFrom_82 : decode cX5_copyFrom 82 = .ok (.putfield 44, 3) := by decide +kernel
theorem dX5_copyFrom_85 : decode cX5_copyFrom 85 = .ok (.iconst 0, 1) := by decide +kernel
theorem dX5_copyFrom_86 : decode cX5_copyFrom 86 = .ok (.istore_n 2, 1) := by decide +kernel
theorem dX5_copyFrom_87 : decode cX5_copyFrom 87 = .ok (.iload_n 2, 1) := by decide +kernel
theorem dX5_copyFrom_88 : decode cX5_copyFrom 88 = .ok (.aload_n 0, 1) := by decide +kernel
theorem dX5_copyFrom_89 : decode cX5_copyFrom 89 = .ok (.getfield 44, 3) := by decide +kernel
theorem dX5_copyFrom_92 : decode cX5_copyFrom 92 = .ok (.if_icmp .ge 24, 3) := by decide +kernel
theorem dX5_copyFrom_95 : decode cX5_copyFrom 95 = .ok (.aload_n 0, 1) := by decide +kernel
theorem dX5_copyFrom_96 : decode cX5_copyFrom 96 = .ok (.getfield 31, 3) := by decide +kernel
theorem dX5_copyFrom_99 : decode cX5_copyFrom 99 = .ok (.iload_n 2, 1) := by decide +kernel
theorem dX5_copyFrom_100 : decode cX5_copyFrom 100 = .ok (.aaload, 1) := by decide +kernel
theorem dX5_copyFrom_101 : decode cX5_copyFrom 101 = .ok (.aload_n 1, 1) := by decide +kernel
theorem dX5_copyFrom_102 : decode cX5_copyFrom 102 = .ok (.getfield 31, 3) := by decide +kernel
theorem dX5_copyFrom_105 : decode cX5_copyFrom 105 = .ok (.iload_n 2, 1) := by decide +kernel
theorem dX5_copyFrom_106 : decode cX5_copyFrom 106 = .ok (.aaload, 1) := by decide +kernel
theorem dX5_copyFrom_107 : decode cX5_copyFrom 107 = .ok (.invokevirtual 47, 3) := by decide +kernel
theorem dX5_copyFrom_110 : decode cX5_copyFrom 110 = .ok (.iinc 2 1, 3) := by decide +kernel
theorem dX5_copyFrom_113 : decode cX5_copyFrom 113 = .ok (.goto (-26), 3) := by decide +kernel
theorem dX5_copyFrom_116 : decode cX5_copyFrom 116 = .ok (.aload_n 0, 1) := by decide +kernel
theorem dX5_copyFrom_117 : decode cX5_copyFrom 117 = .ok (.aload_n 1, 1) := by decide +kernel
theorem dX5_copyFrom_118 : decode cX5_copyFrom 118 = .ok (.getfield 50, 3) := by decide +kernel
theorem dX5_copyFrom_121 : decode cX5_copyFrom 121 = .ok (.putfield 50, 3) := by decide +kernel
theorem dX5_copyFrom_124 : decode cX5_copyFrom 124 = .ok (.aload_n 0, 1) := by decide +kernel
theorem dX5_copyFrom_125 : decode cX5_copyFrom 125 = .ok (.aload_n 1, 1) := by decide +kernel
theorem dX5_copyFrom_126 : decode cX5_copyFrom 126 = .ok (.getfield 53, 3) := by decide +kernel
theorem dX5_copyFrom_129 : decode cX5_copyFrom 129 = .ok (.putfield 53, 3) := by decide +kernel
theorem dX5_copyFrom_132 : decode cX5_copyFrom 132 = .ok (.aload_n 0, 1) := by decide +kernel
theorem dX5_copyFrom_133 : decode cX5_copyFrom 133 = .ok (.aload_n 1, 1) := by decide +kernel
theorem dX5_copyFrom_134 : decode cX5_copyFrom 134 = .ok (.getfield 56, 3) := by decide +kernel
theorem dX5_copyFrom_137 : decode cX5_copyFrom 137 = .ok (.putfield 56, 3) := by decide +kernel
theorem dX5_copyFrom_140 : decode cX5_copyFrom 140 = .ok (.return_, 1) := by decide +kernel
theorem dX5_qualityAt_0 : decode cX5_qualityAt 0 = .ok (.aload_n 0, 1) := by decide +kernel
theorem dX5_qualityAt_1 : decode cX5_qualityAt 1 = .ok (.getfield 9, 3) := by decide +kernel
theorem dX5_qualityAt_4 : decode cX5_qualityAt 4 = .ok (.getfield 59, 3) := by decide +kernel
theorem dX5_qualityAt_7 : decode cX5_qualityAt 7 = .ok (.iload_n 1, 1) := by decide +kernel
theorem dX5_qualityAt_8 : decode cX5_qualityAt 8 = .ok (.aaload, 1) := by decide +kernel
theorem dX5_qualityAt_9 : decode cX5_qualityAt 9 = .ok (.iload_n 2, 1) := by decide +kernel
theorem dX5_qualityAt_10 : decode cX5_qualityAt 10 = .ok (.iaload, 1) := by decide +kernel
theorem dX5_qualityAt_11 : decode cX5_qualityAt 11 = .ok (.iconst 2, 1) := by decide +kernel
theorem dX5_qualityAt_12 : decode cX5_qualityAt 12 = .ok (.aload_n 0, 1) := by decide +kernel
theorem dX5_qualityAt_13 : decode cX5_qualityAt 13 = .ok (.getfield 15, 3) := by decide +kernel
theorem dX5_qualityAt_16 : decode cX5_qualityAt 16 = .ok (.iload_n 1, 1) := by decide +kernel
theorem dX5_qualityAt_17 : decode cX5_qualityAt 17 = .ok (.iaload, 1) := by decide +kernel
theorem dX5_qualityAt_18 : decode cX5_qualityAt 18 = .ok (.imul, 1) := by decide +kernel
theorem dX5_qualityAt_19 : decode cX5_qualityAt 19 = .ok (.isub, 1) := by decide +kernel
theorem dX5_qualityAt_20 : decode cX5_qualityAt 20 = .ok (.ireturn, 1) := by decide +kernel
theorem dX5_isHeard_0 : decode cX5_isHeard 0 = .ok (.aload_n 0, 1) := by decide +kernel
theorem dX5_isHeard_1 : decode cX5_isHeard 1 = .ok (.iload_n 1, 1) := by decide +kernel
theorem dX5_isHeard_2 : decode cX5_isHeard 2 = .ok (.iload_n 2, 1) := by decide +kernel
theorem dX5_isHeard_3 : decode cX5_isHeard 3 = .ok (.invokevirtual 65, 3) := by decide +kernel
theorem dX5_isHeard_6 : decode cX5_isHeard 6 = .ok (.iconst 1, 1) := by decide +kernel
theorem dX5_isHeard_7 : decode cX5_isHeard 7 = .ok (.if_icmp .lt 7, 3) := by decide +kernel
theorem dX5_isHeard_10 : decode cX5_isHeard 10 = .ok (.iconst 1, 1) := by decide +kernel
theorem dX5_isHeard_11 : decode cX5_isHeard 11 = .ok (.goto 4, 3) := by decide +kernel
theorem dX5_isHeard_14 : decode cX5_isHeard 14 = .ok (.iconst 0, 1) := by decide +kernel
theorem dX5_isHeard_15 : decode cX5_isHeard 15 = .ok (.ireturn, 1) := by decide +kernel
theorem dX5_bestHeardAt_0 : decode cX5_bestHeardAt 0 = .ok (.iconst (-1), 1) := by decide +kernel
theorem dX5_bestHeardAt_1 : decode cX5_bestHeardAt 1 = .ok (.istore_n 2, 1) := by decide +kernel
theorem dX5_bestHeardAt_2 : decode cX5_bestHeardAt 2 = .ok (.iconst 0, 1) := by decide +kernel
theorem dX5_bestHeardAt_3 : decode cX5_bestHeardAt 3 = .ok (.istore_n 3, 1) := by decide +kernel
theorem dX5_bestHeardAt_4 : decode cX5_bestHeardAt 4 = .ok (.iconst 0, 1) := by decide +kernel
theorem dX5_bestHeardAt_5 : decode cX5_bestHeardAt 5 = .ok (.istore 4, 2) := by decide +kernel
theorem dX5_bestHeardAt_7 : decode cX5_bestHeardAt 7 = .ok (.iload 4, 2) := by decide +kernel
theorem dX5_bestHeardAt_9 : decode cX5_bestHeardAt 9 = .ok (.aload_n 0, 1) := by decide +kernel
theorem dX5_bestHeardAt_10 : decode cX5_bestHeardAt 10 = .ok (.getfield 9, 3) := by decide +kernel
theorem dX5_bestHeardAt_13 : decode cX5_bestHeardAt 13 = .ok (.getfield 69, 3) := by decide +kernel
theorem dX5_bestHeardAt_16 : decode cX5_bestHeardAt 16 = .ok (.if_icmp .ge 30, 3) := by decide +kernel
theorem dX5_bestHeardAt_19 : decode cX5_bestHeardAt 19 = .ok (.aload_n 0, 1) := by decide +kernel
theorem dX5_bestHeardAt_20 : decode cX5_bestHeardAt 20 = .ok (.iload 4, 2) := by decide +kernel
theorem dX5_bestHeardAt_22 : decode cX5_bestHeardAt 22 = .ok (.iload_n 1, 1) := by decide +kernel
theorem dX5_bestHeardAt_23 : decode cX5_bestHeardAt 23 = .ok (.invokevirtual 65, 3) := by decide +kernel
theorem dX5_bestHeardAt_26 : decode cX5_bestHeardAt 26 = .ok (.istore 5, 2) := by decide +kernel
theorem dX5_bestHeardAt_28 : decode cX5_bestHeardAt 28 = .ok (.iload 5, 2) := by decide +kernel
theorem dX5_bestHeardAt_30 : decode cX5_bestHeardAt 30 = .ok (.iload_n 3, 1) := by decide +kernel
theorem dX5_bestHeardAt_31 : decode cX5_bestHeardAt 31 = .ok (.if_icmp .le 9, 3) := by decide +kernel
theorem dX5_bestHeardAt_34 : decode cX5_bestHeardAt 34 = .ok (.iload 4, 2) := by decide +kernel
theorem dX5_bestHeardAt_36 : decode cX5_bestHeardAt 36 = .ok (.istore_n 2, 1) := by decide +kernel
theorem dX5_bestHeardAt_37 : decode cX5_bestHeardAt 37 = .ok (.iload 5, 2) := by decide +kernel
theorem dX5_bestHeardAt_39 : decode cX5_bestHeardAt 39 = .ok (.istore_n 3, 1) := by decide +kernel
theorem dX5_bestHeardAt_40 : decode cX5_bestHeardAt 40 = .ok (.iinc 4 1, 3) := by decide +kernel
theorem dX5_bestHeardAt_43 : decode cX5_bestHeardAt 43 = .ok (.goto (-36), 3) := by decide +kernel
theorem dX5_bestHeardAt_46 : decode cX5_bestHeardAt 46 = .ok (.iload_n 2, 1) := by decide +kernel
theorem dX5_bestHeardAt_47 : decode cX5_bestHeardAt 47 = .ok (.ireturn, 1) := by decide +kernel
theorem dX5_placesHeardWell_0 : decode cX5_placesHeardWell 0 = .ok (.iconst 0, 1) := by decide +kernel
theorem dX5_placesHeardWell_1 : decode cX5_placesHeardWell 1 = .ok (.istore_n 1, 1) := by decide +kernel
theorem dX5_placesHeardWell_2 : decode cX5_placesHeardWell 2 = .ok (.iconst 0, 1) := by decide +kernel
theorem dX5_placesHeardWell_3 : decode cX5_placesHeardWell 3 = .ok (.istore_n 2, 1) := by decide +kernel
theorem dX5_placesHeardWell_4 : decode cX5_placesHeardWell 4 = .ok (.iload_n 2, 1) := by decide +kernel
theorem dX5_placesHeardWell_5 : decode cX5_placesHeardWell 5 = .ok (.bipush 100, 2) := by decide +kernel
theorem dX5_placesHeardWell_7 : decode cX5_placesHeardWell 7 = .ok (.if_icmp .ge 33, 3) := by decide +kernel
theorem dX5_placesHeardWell_10 : decode cX5_placesHeardWell 10 = .ok (.aload_n 0, 1) := by decide +kernel
theorem dX5_placesHeardWell_11 : decode cX5_placesHeardWell 11 = .ok (.iload_n 2, 1) := by decide +kernel
theorem dX5_placesHeardWell_12 : decode cX5_placesHeardWell 12 = .ok (.invokevirtual 72, 3) := by decide +kernel
theorem dX5_placesHeardWell_15 : decode cX5_placesHeardWell 15 = .ok (.istore_n 3, 1) := by decide +kernel
theorem dX5_placesHeardWell_16 : decode cX5_placesHeardWell 16 = .ok (.iload_n 3, 1) := by decide +kernel
theorem dX5_placesHeardWell_17 : decode cX5_placesHeardWell 17 = .ok (.iconst (-1), 1) := by decide +kernel
theorem dX5_placesHeardWell_18 : decode cX5_placesHeardWell 18 = .ok (.if_icmp .eq 16, 3) := by decide +kernel
theorem dX5_placesHeardWell_21 : decode cX5_placesHeardWell 21 = .ok (.aload_n 0, 1) := by decide +kernel
theorem dX5_placesHeardWell_22 : decode cX5_placesHeardWell 22 = .ok (.iload_n 3, 1) := by decide +kernel
theorem dX5_placesHeardWell_23 : decode cX5_placesHeardWell 23 = .ok (.iload_n 2, 1) := by decide +kernel
theorem dX5_placesHeardWell_24 : decode cX5_placesHeardWell 24 = .ok (.invokevirtual 65, 3) := by decide +kernel
theorem dX5_placesHeardWell_27 : decode cX5_placesHeardWell 27 = .ok (.iconst 5, 1) := by decide +kernel
theorem dX5_placesHeardWell_28 : decode cX5_placesHeardWell 28 = .ok (.if_icmp .lt 6, 3) := by decide +kernel
theorem dX5_placesHeardWell_31 : decode cX5_placesHeardWell 31 = .ok (.iinc 1 1, 3) := by decide +kernel
theorem dX5_placesHeardWell_34 : decode cX5_placesHeardWell 34 = .ok (.iinc 2 1, 3) := by decide +kernel
theorem dX5_placesHeardWell_37 : decode cX5_placesHeardWell 37 = .ok (.goto (-33), 3) := by decide +kernel
theorem dX5_placesHeardWell_40 : decode cX5_placesHeardWell 40 = .ok (.iload_n 1, 1) := by decide +kernel
theorem dX5_placesHeardWell_41 : decode cX5_placesHeardWell 41 = .ok (.ireturn, 1) := by decide +kernel
theorem dX5_hasFreeChannels_0 : decode cX5_hasFreeChannels 0 = .ok (.aload_n 0, 1) := by decide +kernel
theorem dX5_hasFreeChannels_1 : decode cX5_hasFreeChannels 1 = .ok (.getfield 15, 3) := by decide +kernel
theorem dX5_hasFreeChannels_4 : decode cX5_hasFreeChannels 4 = .ok (.iload_n 1, 1) := by decide +kernel
theorem dX5_hasFreeChannels_5 : decode cX5_hasFreeChannels 5 = .ok (.iaload, 1) := by decide +kernel
theorem dX5_hasFreeChannels_6 : decode cX5_hasFreeChannels 6 = .ok (.iload_n 2, 1) := by decide +kernel
theorem dX5_hasFreeChannels_7 : decode cX5_hasFreeChannels 7 = .ok (.iadd, 1) := by decide +kernel
theorem dX5_hasFreeChannels_8 : decode cX5_hasFreeChannels 8 = .ok (.aload_n 0, 1) := by decide +kernel
theorem dX5_hasFreeChannels_9 : decode cX5_hasFreeChannels 9 = .ok (.getfield 9, 3) := by decide +kernel
theorem dX5_hasFreeChannels_12 : decode cX5_hasFreeChannels 12 = .ok (.getfield 76, 3) := by decide +kernel
theorem dX5_hasFreeChannels_15 : decode cX5_hasFreeChannels 15 = .ok (.iload_n 1, 1) := by decide +kernel
theorem dX5_hasFreeChannels_16 : decode cX5_hasFreeChannels 16 = .ok (.aaload, 1) := by decide +kernel
theorem dX5_hasFreeChannels_17 : decode cX5_hasFreeChannels 17 = .ok (.getfield 80, 3) := by decide +kernel
theorem dX5_hasFreeChannels_20 : decode cX5_hasFreeChannels 20 = .ok (.if_icmp .gt 7, 3) := by decide +kernel
theorem dX5_hasFreeChannels_23 : decode cX5_hasFreeChannels 23 = .ok (.iconst 1, 1) := by decide +kernel
theorem dX5_hasFreeChannels_24 : decode cX5_hasFreeChannels 24 = .ok (.goto 4, 3) := by decide +kernel
theorem dX5_hasFreeChannels_27 : decode cX5_hasFreeChannels 27 = .ok (.iconst 0, 1) := by decide +kernel
theorem dX5_hasFreeChannels_28 : decode cX5_hasFreeChannels 28 = .ok (.ireturn, 1) := by decide +kernel
theorem dX5_page_0 : decode cX5_page 0 = .ok (.aload_n 1, 1) := by decide +kernel
theorem dX5_page_1 : decode cX5_page 1 = .ok (.getfield 85, 3) := by decide +kernel
theorem dX5_page_4 : decode cX5_page 4 = .ok (.istore_n 2, 1) := by decide +kernel
theorem dX5_page_5 : decode cX5_page 5 = .ok (.iload_n 2, 1) := by decide +kernel
theorem dX5_page_6 : decode cX5_page 6 = .ok (.iconst (-1), 1) := by decide +kernel
theorem dX5_page_7 : decode cX5_page 7 = .ok (.if_icmp .ne 33, 3) := by decide +kernel
theorem dX5_page_10 : decode cX5_page 10 = .ok (.aload_n 0, 1) := by decide +kernel
theorem dX5_page_11 : decode cX5_page 11 = .ok (.dup, 1) := by decide +kernel
theorem dX5_page_12 : decode cX5_page 12 = .ok (.getfield 56, 3) := by decide +kernel
theorem dX5_page_15 : decode cX5_page 15 = .ok (.aload_n 0, 1) := by decide +kernel
theorem dX5_page_16 : decode cX5_page 16 = .ok (.getfield 9, 3) := by decide +kernel
theorem dX5_page_19 : decode cX5_page 19 = .ok (.invokevirtual 88, 3) := by decide +kernel
theorem dX5_page_22 : decode cX5_page 22 = .ok (.iadd, 1) := by decide +kernel
theorem dX5_page_23 : decode cX5_page 23 = .ok (.putfield 56, 3) := by decide +kernel
theorem dX5_page_26 : decode cX5_page 26 = .ok (.aload_n 1, 1) := by decide +kernel
theorem dX5_page_27 : decode cX5_page 27 = .ok (.getfield 92, 3) := by decide +kernel
theorem dX5_page_30 : decode cX5_page 30 = .ok (.iconst (-1), 1) := by decide +kernel
theorem dX5_page_31 : decode cX5_page 31 = .ok (.if_icmp .eq 7, 3) := by decide +kernel
theorem dX5_page_34 : decode cX5_page 34 = .ok (.iconst 1, 1) := by decide +kernel
theorem dX5_page_35 : decode cX5_page 35 = .ok (.goto 4, 3) := by decide +kernel
theorem dX5_page_38 : decode cX5_page 38 = .ok (.iconst 0, 1) := by decide +kernel
theorem dX5_page_39 : decode cX5_page 39 = .ok (.ireturn, 1) := by decide +kernel
theorem dX5_page_40 : decode cX5_page 40 = .ok (.aload_n 0, 1) := by decide +kernel
theorem dX5_page_41 : decode cX5_page 41 = .ok (.dup, 1) := by decide +kernel
theorem dX5_page_42 : decode cX5_page 42 = .ok (.getfield 56, 3) := by decide +kernel
theorem dX5_page_45 : decode cX5_page 45 = .ok (.aload_n 0, 1) := by decide +kernel
theorem dX5_page_46 : decode cX5_page 46 = .ok (.getfield 9, 3) := by decide +kernel
theorem dX5_page_49 : decode cX5_page 49 = .ok (.iload_n 2, 1) := by decide +kernel
theorem dX5_page_50 : decode cX5_page 50 = .ok (.invokevirtual 95, 3) := by decide +kernel
theorem dX5_page_53 : decode cX5_page 53 = .ok (.iadd, 1) := by decide +kernel
theorem dX5_page_54 : decode cX5_page 54 = .ok (.putfield 56, 3) := by decide +kernel
theorem dX5_page_57 : decode cX5_page 57 = .ok (.aload_n 0, 1) := by decide +kernel
theorem dX5_page_58 : decode cX5_page 58 = .ok (.aload_n 1, 1) := by decide +kernel
theorem dX5_page_59 : decode cX5_page 59 = .ok (.iload_n 2, 1) := by decide +kernel
theorem dX5_page_60 : decode cX5_page 60 = .ok (.invokevirtual 98, 3) := by decide +kernel
theorem dX5_page_63 : decode cX5_page 63 = .ok (.ifCond .eq 5, 3) := by decide +kernel
theorem dX5_page_66 : decode cX5_page 66 = .ok (.iconst 1, 1) := by decide +kernel
theorem dX5_page_67 : decode cX5_page 67 = .ok (.ireturn, 1) := by decide +kernel
theorem dX5_page_68 : decode cX5_page 68 = .ok (.aload_n 0, 1) := by decide +kernel
theorem dX5_page_69 : decode cX5_page 69 = .ok (.dup, 1) := by decide +kernel
theorem dX5_page_70 : decode cX5_page 70 = .ok (.getfield 56, 3) := by decide +kernel
theorem dX5_page_73 : decode cX5_page 73 = .ok (.aload_n 0, 1) := by decide +kernel
theorem dX5_page_74 : decode cX5_page 74 = .ok (.getfield 9, 3) := by decide +kernel
theorem dX5_page_77 : decode cX5_page 77 = .ok (.iload_n 2, 1) := by decide +kernel
theorem dX5_page_78 : decode cX5_page 78 = .ok (.iconst 1, 1) := by decide +kernel
theorem dX5_page_79 : decode cX5_page 79 = .ok (.isub, 1) := by decide +kernel
theorem dX5_page_80 : decode cX5_page 80 = .ok (.invokevirtual 95, 3) := by decide +kernel
theorem dX5_page_83 : decode cX5_page 83 = .ok (.aload_n 0, 1) := by decide +kernel
theorem dX5_page_84 : decode cX5_page 84 = .ok (.getfield 9, 3) := by decide +kernel
theorem dX5_page_87 : decode cX5_page 87 = .ok (.iload_n 2, 1) := by decide +kernel
theorem dX5_page_88 : decode cX5_page 88 = .ok (.iconst 1, 1) := by decide +kernel
theorem dX5_page_89 : decode cX5_page 89 = .ok (.iadd, 1) := by decide +kernel
theorem dX5_page_90 : decode cX5_page 90 = .ok (.invokevirtual 95, 3) := by decide +kernel
theorem dX5_page_93 : decode cX5_page 93 = .ok (.iadd, 1) := by decide +kernel
theorem dX5_page_94 : decode cX5_page 94 = .ok (.iadd, 1) := by decide +kernel
theorem dX5_page_95 : decode cX5_page 95 = .ok (.putfield 56, 3) := by decide +kernel
theorem dX5_page_98 : decode cX5_page 98 = .ok (.aload_n 0, 1) := by decide +kernel
theorem dX5_page_99 : decode cX5_page 99 = .ok (.aload_n 1, 1) := by decide +kernel
theorem dX5_page_100 : decode cX5_page 100 = .ok (.iload_n 2, 1) := by decide +kernel
theorem dX5_page_101 : decode cX5_page 101 = .ok (.iconst 1, 1) := by decide +kernel
theorem dX5_page_102 : decode cX5_page 102 = .ok (.isub, 1) := by decide +kernel
theorem dX5_page_103 : decode cX5_page 103 = .ok (.invokevirtual 98, 3) := by decide +kernel
theorem dX5_page_106 : decode cX5_page 106 = .ok (.ifCond .ne 14, 3) := by decide +kernel
theorem dX5_page_109 : decode cX5_page 109 = .ok (.aload_n 0, 1) := by decide +kernel
theorem dX5_page_110 : decode cX5_page 110 = .ok (.aload_n 1, 1) := by decide +kernel
theorem dX5_page_111 : decode cX5_page 111 = .ok (.iload_n 2, 1) := by decide +kernel
theorem dX5_page_112 : decode cX5_page 112 = .ok (.iconst 1, 1) := by decide +kernel
theorem dX5_page_113 : decode cX5_page 113 = .ok (.iadd, 1) := by decide +kernel
theorem dX5_page_114 : decode cX5_page 114 = .ok (.invokevirtual 98, 3) := by decide +kernel
theorem dX5_page_117 : decode cX5_page 117 = .ok (.ifCond .eq 7, 3) := by decide +kernel
theorem dX5_page_120 : decode cX5_page 120 = .ok (.iconst 1, 1) := by decide +kernel
theorem dX5_page_121 : decode cX5_page 121 = .ok (.goto 4, 3) := by decide +kernel
theorem dX5_page_124 : decode cX5_page 124 = .ok (.iconst 0, 1) := by decide +kernel
theorem dX5_page_125 : decode cX5_page 125 = .ok (.ireturn, 1) := by decide +kernel
theorem dX5_isInArea_0 : decode cX5_isInArea 0 = .ok (.aload_n 1, 1) := by decide +kernel
theorem dX5_isInArea_1 : decode cX5_isInArea 1 = .ok (.getfield 92, 3) := by decide +kernel
theorem dX5_isInArea_4 : decode cX5_isInArea 4 = .ok (.iconst (-1), 1) := by decide +kernel
theorem dX5_isInArea_5 : decode cX5_isInArea 5 = .ok (.if_icmp .eq 26, 3) := by decide +kernel
theorem dX5_isInArea_8 : decode cX5_isInArea 8 = .ok (.aload_n 0, 1) := by decide +kernel
theorem dX5_isInArea_9 : decode cX5_isInArea 9 = .ok (.getfield 9, 3) := by decide +kernel
theorem dX5_isInArea_12 : decode cX5_isInArea 12 = .ok (.getfield 76, 3) := by decide +kernel
theorem dX5_isInArea_15 : decode cX5_isInArea 15 = .ok (.aload_n 1, 1) := by decide +kernel
theorem dX5_isInArea_16 : decode cX5_isInArea 16 = .ok (.getfield 92, 3) := by decide +kernel
theorem dX5_isInArea_19 : decode cX5_isInArea 19 = .ok (.aaload, 1) := by decide +kernel
theorem dX5_isInArea_20 : decode cX5_isInArea 20 = .ok (.getfield 102, 3) := by decide +kernel
theorem dX5_isInArea_23 : decode cX5_isInArea 23 = .ok (.iload_n 2, 1) := by decide +kernel
theorem dX5_isInArea_24 : decode cX5_isInArea 24 = .ok (.if_icmp .ne 7, 3) := by decide +kernel
theorem dX5_isInArea_27 : decode cX5_isInArea 27 = .ok (.iconst 1, 1) := by decide +kernel
theorem dX5_isInArea_28 : decode cX5_isInArea 28 = .ok (.goto 4, 3) := by decide +kernel
theorem dX5_isInArea_31 : decode cX5_isInArea 31 = .ok (.iconst 0, 1) := by decide +kernel
theorem dX5_isInArea_32 : decode cX5_isInArea 32 = .ok (.ireturn, 1) := by decide +kernel
theorem dX5_wouldBeFound_0 : decode cX5_wouldBeFound 0 = .ok (.aload_n 1, 1) := by decide +kernel
theorem dX5_wouldBeFound_1 : decode cX5_wouldBeFound 1 = .ok (.getfield 85, 3) := by decide +kernel
theorem dX5_wouldBeFound_4 : decode cX5_wouldBeFound 4 = .ok (.istore_n 2, 1) := by decide +kernel
theorem dX5_wouldBeFound_5 : decode cX5_wouldBeFound 5 = .ok (.iload_n 2, 1) := by decide +kernel
theorem dX5_wouldBeFound_6 : decode cX5_wouldBeFound 6 = .ok (.iconst (-1), 1) := by decide +kernel
theorem dX5_wouldBeFound_7 : decode cX5_wouldBeFound 7 = .ok (.if_icmp .ne 17, 3) := by decide +kernel
theorem dX5_wouldBeFound_10 : decode cX5_wouldBeFound 10 = .ok (.aload_n 1, 1) := by decide +kernel
theorem dX5_wouldBeFound_11 : decode cX5_wouldBeFound 11 = .ok (.getfield 92, 3) := by decide +kernel
theorem dX5_wouldBeFound_14 : decode cX5_wouldBeFound 14 = .ok (.iconst (-1), 1) := by decide +kernel
theorem dX5_wouldBeFound_15 : decode cX5_wouldBeFound 15 = .ok (.if_icmp .eq 7, 3) := by decide +kernel
theorem dX5_wouldBeFound_18 : decode cX5_wouldBeFound 18 = .ok (.iconst 1, 1) := by decide +kernel
theorem dX5_wouldBeFound_19 : decode cX5_wouldBeFound 19 = .ok (.goto 4, 3) := by decide +kernel
theorem dX5_wouldBeFound_22 : decode cX5_wouldBeFound 22 = .ok (.iconst 0, 1) := by decide +kernel
theorem dX5_wouldBeFound_23 : decode cX5_wouldBeFound 23 = .ok (.ireturn, 1) := by decide +kernel
theorem dX5_wouldBeFound_24 : decode cX5_wouldBeFound 24 = .ok (.aload_n 0, 1) := by decide +kernel
theorem dX5_wouldBeFound_25 : decode cX5_wouldBeFound 25 = .ok (.aload_n 1, 1) := by decide +kernel
theorem dX5_wouldBeFound_26 : decode cX5_wouldBeFound 26 = .ok (.iload_n 2, 1) := by decide +kernel
theorem dX5_wouldBeFound_27 : decode cX5_wouldBeFound 27 = .ok (.iconst 1, 1) := by decide +kernel
theorem dX5_wouldBeFound_28 : decode cX5_wouldBeFound 28 = .ok (.isub, 1) := by decide +kernel
theorem dX5_wouldBeFound_29 : decode cX5_wouldBeFound 29 = .ok (.invokevirtual 98, 3) := by decide +kernel
theorem dX5_wouldBeFound_32 : decode cX5_wouldBeFound 32 = .ok (.ifCond .ne 23, 3) := by decide +kernel
theorem dX5_wouldBeFound_35 : decode cX5_wouldBeFound 35 = .ok (.aload_n 0, 1) := by decide +kernel
theorem dX5_wouldBeFound_36 : decode cX5_wouldBeFound 36 = .ok (.aload_n 1, 1) := by decide +kernel
theorem dX5_wouldBeFound_37 : decode cX5_wouldBeFound 37 = .ok (.iload_n 2, 1) := by decide +kernel
theorem dX5_wouldBeFound_38 : decode cX5_wouldBeFound 38 = .ok (.invokevirtual 98, 3) := by decide +kernel
theorem dX5_wouldBeFound_41 : decode cX5_wouldBeFound 41 = .ok (.ifCond .ne 14, 3) := by decide +kernel
theorem dX5_wouldBeFound_44 : decode cX5_wouldBeFound 44 = .ok (.aload_n 0, 1) := by decide +kernel
theorem dX5_wouldBeFound_45 : decode cX5_wouldBeFound 45 = .ok (.aload_n 1, 1) := by decide +kernel
theorem dX5_wouldBeFound_46 : decode cX5_wouldBeFound 46 = .ok (.iload_n 2, 1) := by decide +kernel
theorem dX5_wouldBeFound_47 : decode cX5_wouldBeFound 47 = .ok (.iconst 1, 1) := by decide +kernel
theorem dX5_wouldBeFound_48 : decode cX5_wouldBeFound 48 = .ok (.iadd, 1) := by decide +kernel
theorem dX5_wouldBeFound_49 : decode cX5_wouldBeFound 49 = .ok (.invokevirtual 98, 3) := by decide +kernel
theorem dX5_wouldBeFound_52 : decode cX5_wouldBeFound 52 = .ok (.ifCond .eq 7, 3) := by decide +kernel
theorem dX5_wouldBeFound_55 : decode cX5_wouldBeFound 55 = .ok (.iconst 1, 1) := by decide +kernel
theorem dX5_wouldBeFound_56 : decode cX5_wouldBeFound 56 = .ok (.goto 4, 3) := by decide +kernel
theorem dX5_wouldBeFound_59 : decode cX5_wouldBeFound 59 = .ok (.iconst 0, 1) := by decide +kernel
theorem dX5_wouldBeFound_60 : decode cX5_wouldBeFound 60 = .ok (.ireturn, 1) := by decide +kernel
theorem dX5_handsetsToBeFound_0 : decode cX5_handsetsToBeFound 0 = .ok (.iconst 0, 1) := by decide +kernel
theorem dX5_handsetsToBeFound_1 : decode cX5_handsetsToBeFound 1 = .ok (.istore_n 1, 1) := by decide +kernel
theorem dX5_handsetsToBeFound_2 : decode cX5_handsetsToBeFound 2 = .ok (.iconst 0, 1) := by decide +kernel
theorem dX5_handsetsToBeFound_3 : decode cX5_handsetsToBeFound 3 = .ok (.istore_n 2, 1) := by decide +kernel
theorem dX5_handsetsToBeFound_4 : decode cX5_handsetsToBeFound 4 = .ok (.iload_n 2, 1) := by decide +kernel
theorem dX5_handsetsToBeFound_5 : decode cX5_handsetsToBeFound 5 = .ok (.aload_n 0, 1) := by decide +kernel
theorem dX5_handsetsToBeFound_6 : decode cX5_handsetsToBeFound 6 = .ok (.getfield 36, 3) := by decide +kernel
theorem dX5_handsetsToBeFound_9 : decode cX5_handsetsToBeFound 9 = .ok (.if_icmp .ge 25, 3) := by decide +kernel
theorem dX5_handsetsToBeFound_12 : decode cX5_handsetsToBeFound 12 = .ok (.aload_n 0, 1) := by decide +kernel
theorem dX5_handsetsToBeFound_13 : decode cX5_handsetsToBeFound 13 = .ok (.aload_n 0, 1) := by decide +kernel
theorem dX5_handsetsToBeFound_14 : decode cX5_handsetsToBeFound 14 = .ok (.getfield 24, 3) := by decide +kernel
theorem dX5_handsetsToBeFound_17 : decode cX5_handsetsToBeFound 17 = .ok (.iload_n 2, 1) := by decide +kernel
theorem dX5_handsetsToBeFound_18 : decode cX5_handsetsToBeFound 18 = .ok (.aaload, 1) := by decide +kernel
theorem dX5_handsetsToBeFound_19 : decode cX5_handsetsToBeFound 19 = .ok (.invokevirtual 105, 3) := by decide +kernel
theorem dX5_handsetsToBeFound_22 : decode cX5_handsetsToBeFound 22 = .ok (.ifCond .eq 6, 3) := by decide +kernel
theorem dX5_handsetsToBeFound_25 : decode cX5_handsetsToBeFound 25 = .ok (.iinc 1 1, 3) := by decide +kernel
theorem dX5_handsetsToBeFound_28 : decode cX5_handsetsToBeFound 28 = .ok (.iinc 2 1, 3) := by decide +kernel
theorem dX5_handsetsToBeFound_31 : decode cX5_handsetsToBeFound 31 = .ok (.goto (-27), 3) := by decide +kernel
theorem dX5_handsetsToBeFound_34 : decode cX5_handsetsToBeFound 34 = .ok (.iload_n 1, 1) := by decide +kernel
theorem dX5_handsetsToBeFound_35 : decode cX5_handsetsToBeFound 35 = .ok (.ireturn, 1) := by decide +kernel
theorem dX5_forgetAreas_0 : decode cX5_forgetAreas 0 = .ok (.iconst 0, 1) := by decide +kernel
theorem dX5_forgetAreas_1 : decode cX5_forgetAreas 1 = .ok (.istore_n 1, 1) := by decide +kernel
theorem dX5_forgetAreas_2 : decode cX5_forgetAreas 2 = .ok (.iconst 0, 1) := by decide +kernel
theorem dX5_forgetAreas_3 : decode cX5_forgetAreas 3 = .ok (.istore_n 2, 1) := by decide +kernel
theorem dX5_forgetAreas_4 : decode cX5_forgetAreas 4 = .ok (.iload_n 2, 1) := by decide +kernel
theorem dX5_forgetAreas_5 : decode cX5_forgetAreas 5 = .ok (.aload_n 0, 1) := by decide +kernel
theorem dX5_forgetAreas_6 : decode cX5_forgetAreas 6 = .ok (.getfield 36, 3) := by decide +kernel
theorem dX5_forgetAreas_9 : decode cX5_forgetAreas 9 = .ok (.if_icmp .ge 35, 3) := by decide +kernel
theorem dX5_forgetAreas_12 : decode cX5_forgetAreas 12 = .ok (.aload_n 0, 1) := by decide +kernel
theorem dX5_forgetAreas_13 : decode cX5_forgetAreas 13 = .ok (.getfield 24, 3) := by decide +kernel
theorem dX5_forgetAreas_16 : decode cX5_forgetAreas 16 = .ok (.iload_n 2, 1) := by decide +kernel
theorem dX5_forgetAreas_17 : decode cX5_forgetAreas 17 = .ok (.aaload, 1) := by decide +kernel
theorem dX5_forgetAreas_18 : decode cX5_forgetAreas 18 = .ok (.getfield 85, 3) := by decide +kernel
theorem dX5_forgetAreas_21 : decode cX5_forgetAreas 21 = .ok (.iconst (-1), 1) := by decide +kernel
theorem dX5_forgetAreas_22 : decode cX5_forgetAreas 22 = .ok (.if_icmp .eq 16, 3) := by decide +kernel
theorem dX5_forgetAreas_25 : decode cX5_forgetAreas 25 = .ok (.iinc 1 1, 3) := by decide +kernel
theorem dX5_forgetAreas_28 : decode cX5_forgetAreas 28 = .ok (.aload_n 0, 1) := by decide +kernel
theorem dX5_forgetAreas_29 : decode cX5_forgetAreas 29 = .ok (.getfield 24, 3) := by decide +kernel
theorem dX5_forgetAreas_32 : decode cX5_forgetAreas 32 = .ok (.iload_n 2, 1) := by decide +kernel
theorem dX5_forgetAreas_33 : decode cX5_forgetAreas 33 = .ok (.aaload, 1) := by decide +kernel
theorem dX5_forgetAreas_34 : decode cX5_forgetAreas 34 = .ok (.iconst (-1), 1) := by decide +kernel
theorem dX5_forgetAreas_35 : decode cX5_forgetAreas 35 = .ok (.putfield 85, 3) := by decide +kernel
theorem dX5_forgetAreas_38 : decode cX5_forgetAreas 38 = .ok (.iinc 2 1, 3) := by decide +kernel
theorem dX5_forgetAreas_41 : decode cX5_forgetAreas 41 = .ok (.goto (-37), 3) := by decide +kernel
theorem dX5_forgetAreas_44 : decode cX5_forgetAreas 44 = .ok (.iload_n 1, 1) := by decide +kernel
theorem dX5_forgetAreas_45 : decode cX5_forgetAreas 45 = .ok (.ireturn, 1) := by decide +kernel
theorem dX5_second_0 : decode cX5_second 0 = .ok (.aload_n 0, 1) := by decide +kernel
theorem dX5_second_1 : decode cX5_second 1 = .ok (.dup, 1) := by decide +kernel
theorem dX5_second_2 : decode cX5_second 2 = .ok (.getfield 53, 3) := by decide +kernel
theorem dX5_second_5 : decode cX5_second 5 = .ok (.iconst 1, 1) := by decide +kernel
theorem dX5_second_6 : decode cX5_second 6 = .ok (.iadd, 1) := by decide +kernel
theorem dX5_second_7 : decode cX5_second 7 = .ok (.putfield 53, 3) := by decide +kernel
theorem dX5_second_10 : decode cX5_second 10 = .ok (.iconst 0, 1) := by decide +kernel
theorem dX5_second_11 : decode cX5_second 11 = .ok (.istore_n 1, 1) := by decide +kernel
theorem dX5_second_12 : decode cX5_second 12 = .ok (.iload_n 1, 1) := by decide +kernel
theorem dX5_second_13 : decode cX5_second 13 = .ok (.aload_n 0, 1) := by decide +kernel
theorem dX5_second_14 : decode cX5_second 14 = .ok (.getfield 36, 3) := by decide +kernel
theorem dX5_second_17 : decode cX5_second 17 = .ok (.if_icmp .ge 18, 3) := by decide +kernel
theorem dX5_second_20 : decode cX5_second 20 = .ok (.aload_n 0, 1) := by decide +kernel
theorem dX5_second_21 : decode cX5_second 21 = .ok (.getfield 24, 3) := by decide +kernel
theorem dX5_second_24 : decode cX5_second 24 = .ok (.iload_n 1, 1) := by decide +kernel
theorem dX5_second_25 : decode cX5_second 25 = .ok (.aaload, 1) := by decide +kernel
theorem dX5_second_26 : decode cX5_second 26 = .ok (.invokevirtual 109, 3) := by decide +kernel
theorem dX5_second_29 : decode cX5_second 29 = .ok (.iinc 1 1, 3) := by decide +kernel
theorem dX5_second_32 : decode cX5_second 32 = .ok (.goto (-20), 3) := by decide +kernel
theorem dX5_second_35 : decode cX5_second 35 = .ok (.iconst 0, 1) := by decide +kernel
theorem dX5_second_36 : decode cX5_second 36 = .ok (.istore_n 1, 1) := by decide +kernel
theorem dX5_second_37 : decode cX5_second 37 = .ok (.iload_n 1, 1) := by decide +kernel
theorem dX5_second_38 : decode cX5_second 38 = .ok (.aload_n 0, 1) := by decide +kernel
theorem dX5_second_39 : decode cX5_second 39 = .ok (.getfield 36, 3) := by decide +kernel
theorem dX5_second_42 : decode cX5_second 42 = .ok (.if_icmp .ge 41, 3) := by decide +kernel
theorem dX5_second_45 : decode cX5_second 45 = .ok (.aload_n 0, 1) := by decide +kernel
theorem dX5_second_46 : decode cX5_second 46 = .ok (.getfield 24, 3) := by decide +kernel
theorem dX5_second_49 : decode cX5_second 49 = .ok (.iload_n 1, 1) := by decide +kernel
theorem dX5_second_50 : decode cX5_second 50 = .ok (.aaload, 1) := by decide +kernel
theorem dX5_second_51 : decode cX5_second 51 = .ok (.invokevirtual 112, 3) := by decide +kernel
theorem dX5_second_54 : decode cX5_second 54 = .ok (.ifCond .eq 23, 3) := by decide +kernel
theorem dX5_second_57 : decode cX5_second 57 = .ok (.aload_n 0, 1) := by decide +kernel
theorem dX5_second_58 : decode cX5_second 58 = .ok (.aload_n 0, 1) := by decide +kernel
theorem dX5_second_59 : decode cX5_second 59 = .ok (.getfield 24, 3) := by decide +kernel
theorem dX5_second_62 : decode cX5_second 62 = .ok (.iload_n 1, 1) := by decide +kernel
theorem dX5_second_63 : decode cX5_second 63 = .ok (.aaload, 1) := by decide +kernel
theorem dX5_second_64 : decode cX5_second 64 = .ok (.invokevirtual 116, 3) := by decide +kernel
theorem dX5_second_67 : decode cX5_second 67 = .ok (.aload_n 0, 1) := by decide +kernel
theorem dX5_second_68 : decode cX5_second 68 = .ok (.aload_n 0, 1) := by decide +kernel
theorem dX5_second_69 : decode cX5_second 69 = .ok (.getfield 24, 3) := by decide +kernel
theorem dX5_second_72 : decode cX5_second 72 = .ok (.iload_n 1, 1) := by decide +kernel
theorem dX5_second_73 : decode cX5_second 73 = .ok (.aaload, 1) := by decide +kernel
theorem dX5_second_74 : decode cX5_second 74 = .ok (.invokevirtual 119, 3) := by decide +kernel
theorem dX5_second_77 : decode cX5_second 77 = .ok (.iinc 1 1, 3) := by decide +kernel
theorem dX5_second_80 : decode cX5_second 80 = .ok (.goto (-43), 3) := by decide +kernel
theorem dX5_second_83 : decode cX5_second 83 = .ok (.iconst 0, 1) := by decide +kernel
theorem dX5_second_84 : decode cX5_second 84 = .ok (.istore_n 1, 1) := by decide +kernel
theorem dX5_second_85 : decode cX5_second 85 = .ok (.iload_n 1, 1) := by decide +kernel
theorem dX5_second_86 : decode cX5_second 86 = .ok (.aload_n 0, 1) := by decide +kernel
theorem dX5_second_87 : decode cX5_second 87 = .ok (.getfield 44, 3) := by decide +kernel
theorem dX5_second_90 : decode cX5_second 90 = .ok (.if_icmp .ge 47, 3) := by decide +kernel
theorem dX5_second_93 : decode cX5_second 93 = .ok (.aload_n 0, 1) := by decide +kernel
theorem dX5_second_94 : decode cX5_second 94 = .ok (.aload_n 0, 1) := by decide +kernel
theorem dX5_second_95 : decode cX5_second 95 = .ok (.getfield 31, 3) := by decide +kernel
theorem dX5_second_98 : decode cX5_second 98 = .ok (.iload_n 1, 1) := by decide +kernel
theorem dX5_second_99 : decode cX5_second 99 = .ok (.aaload, 1) := by decide +kernel
theorem dX5_second_100 : decode cX5_second 100 = .ok (.aload_n 0, 1) := by decide +kernel
theorem dX5_second_101 : decode cX5_second 101 = .ok (.getfield 31, 3) := by decide +kernel
theorem dX5_second_104 : decode cX5_second 104 = .ok (.iload_n 1, 1) := by decide +kernel
theorem dX5_second_105 : decode cX5_second 105 = .ok (.aaload, 1) := by decide +kernel
theorem dX5_second_106 : decode cX5_second 106 = .ok (.getfield 122, 3) := by decide +kernel
theorem dX5_second_109 : decode cX5_second 109 = .ok (.invokevirtual 126, 3) := by decide +kernel
theorem dX5_second_112 : decode cX5_second 112 = .ok (.aload_n 0, 1) := by decide +kernel
theorem dX5_second_113 : decode cX5_second 113 = .ok (.aload_n 0, 1) := by decide +kernel
theorem dX5_second_114 : decode cX5_second 114 = .ok (.getfield 31, 3) := by decide +kernel
theorem dX5_second_117 : decode cX5_second 117 = .ok (.iload_n 1, 1) := by decide +kernel
theorem dX5_second_118 : decode cX5_second 118 = .ok (.aaload, 1) := by decide +kernel
theorem dX5_second_119 : decode cX5_second 119 = .ok (.aload_n 0, 1) := by decide +kernel
theorem dX5_second_120 : decode cX5_second 120 = .ok (.getfield 31, 3) := by decide +kernel
theorem dX5_second_123 : decode cX5_second 123 = .ok (.iload_n 1, 1) := by decide +kernel
theorem dX5_second_124 : decode cX5_second 124 = .ok (.aaload, 1) := by decide +kernel
theorem dX5_second_125 : decode cX5_second 125 = .ok (.getfield 130, 3) := by decide +kernel
theorem dX5_second_128 : decode cX5_second 128 = .ok (.invokevirtual 126, 3) := by decide +kernel
theorem dX5_second_131 : decode cX5_second 131 = .ok (.iinc 1 1, 3) := by decide +kernel
theorem dX5_second_134 : decode cX5_second 134 = .ok (.goto (-49), 3) := by decide +kernel
theorem dX5_second_137 : decode cX5_second 137 = .ok (.iconst 0, 1) := by decide +kernel
theorem dX5_second_138 : decode cX5_second 138 = .ok (.istore_n 1, 1) := by decide +kernel
theorem dX5_second_139 : decode cX5_second 139 = .ok (.iload_n 1, 1) := by decide +kernel
theorem dX5_second_140 : decode cX5_second 140 = .ok (.aload_n 0, 1) := by decide +kernel
theorem dX5_second_141 : decode cX5_second 141 = .ok (.getfield 44, 3) := by decide +kernel
theorem dX5_second_144 : decode cX5_second 144 = .ok (.if_icmp .ge 19, 3) := by decide +kernel
theorem dX5_second_147 : decode cX5_second 147 = .ok (.aload_n 0, 1) := by decide +kernel
theorem dX5_second_148 : decode cX5_second 148 = .ok (.aload_n 0, 1) := by decide +kernel
theorem dX5_second_149 : decode cX5_second 149 = .ok (.getfield 31, 3) := by decide +kernel
theorem dX5_second_152 : decode cX5_second 152 = .ok (.iload_n 1, 1) := by decide +kernel
theorem dX5_second_153 : decode cX5_second 153 = .ok (.aaload, 1) := by decide +kernel
theorem dX5_second_154 : decode cX5_second 154 = .ok (.invokevirtual 133, 3) := by decide +kernel
theorem dX5_second_157 : decode cX5_second 157 = .ok (.iinc 1 1, 3) := by decide +kernel
theorem dX5_second_160 : decode cX5_second 160 = .ok (.goto (-21), 3) := by decide +kernel
theorem dX5_second_163 : decode cX5_second 163 = .ok (.iconst 0, 1) := by decide +kernel
theorem dX5_second_164 : decode cX5_second 164 = .ok (.istore_n 1, 1) := by decide +kernel
theorem dX5_second_165 : decode cX5_second 165 = .ok (.iload_n 1, 1) := by decide +kernel
theorem dX5_second_166 : decode cX5_second 166 = .ok (.aload_n 0, 1) := by decide +kernel
theorem dX5_second_167 : decode cX5_second 167 = .ok (.getfield 36, 3) := by decide +kernel
theorem dX5_second_170 : decode cX5_second 170 = .ok (.if_icmp .ge 19, 3) := by decide +kernel
theorem dX5_second_173 : decode cX5_second 173 = .ok (.aload_n 0, 1) := by decide +kernel
theorem dX5_second_174 : decode cX5_second 174 = .ok (.aload_n 0, 1) := by decide +kernel
theorem dX5_second_175 : decode cX5_second 175 = .ok (.getfield 24, 3) := by decide +kernel
theorem dX5_second_178 : decode cX5_second 178 = .ok (.iload_n 1, 1) := by decide +kernel
theorem dX5_second_179 : decode cX5_second 179 = .ok (.aaload, 1) := by decide +kernel
theorem dX5_second_180 : decode cX5_second 180 = .ok (.invokevirtual 136, 3) := by decide +kernel
theorem dX5_second_183 : decode cX5_second 183 = .ok (.iinc 1 1, 3) := by decide +kernel
theorem dX5_second_186 : decode cX5_second 186 = .ok (.goto (-21), 3) := by decide +kernel
theorem dX5_second_189 : decode cX5_second 189 = .ok (.return_, 1) := by decide +kernel
theorem dX5_chooseMast_0 : decode cX5_chooseMast 0 = .ok (.aload_n 0, 1) := by decide +kernel
theorem dX5_chooseMast_1 : decode cX5_chooseMast 1 = .ok (.aload_n 1, 1) := by decide +kernel
theorem dX5_chooseMast_2 : decode cX5_chooseMast 2 = .ok (.getfield 139, 3) := by decide +kernel
theorem dX5_chooseMast_5 : decode cX5_chooseMast 5 = .ok (.invokevirtual 72, 3) := by decide +kernel
theorem dX5_chooseMast_8 : decode cX5_chooseMast 8 = .ok (.istore_n 2, 1) := by decide +kernel
theorem dX5_chooseMast_9 : decode cX5_chooseMast 9 = .ok (.iload_n 2, 1) := by decide +kernel
theorem dX5_chooseMast_10 : decode cX5_chooseMast 10 = .ok (.iconst (-1), 1) := by decide +kernel
theorem dX5_chooseMast_11 : decode cX5_chooseMast 11 = .ok (.if_icmp .eq 11, 3) := by decide +kernel
theorem dX5_chooseMast_14 : decode cX5_chooseMast 14 = .ok (.aload_n 1, 1) := by decide +kernel
theorem dX5_chooseMast_15 : decode cX5_chooseMast 15 = .ok (.getfield 92, 3) := by decide +kernel
theorem dX5_chooseMast_18 : decode cX5_chooseMast 18 = .ok (.iconst (-1), 1) := by decide +kernel
theorem dX5_chooseMast_19 : decode cX5_chooseMast 19 = .ok (.if_icmp .ne 9, 3) := by decide +kernel
theorem dX5_chooseMast_22 : decode cX5_chooseMast 22 = .ok (.aload_n 1, 1) := by decide +kernel
theorem dX5_chooseMast_23 : decode cX5_chooseMast 23 = .ok (.iload_n 2, 1) := by decide +kernel
theorem dX5_chooseMast_24 : decode cX5_chooseMast 24 = .ok (.putfield 92, 3) := by decide +kernel
theorem dX5_chooseMast_27 : decode cX5_chooseMast 27 = .ok (.return_, 1) := by decide +kernel
theorem dX5_chooseMast_28 : decode cX5_chooseMast 28 = .ok (.aload_n 0, 1) := by decide +kernel
theorem dX5_chooseMast_29 : decode cX5_chooseMast 29 = .ok (.aload_n 1, 1) := by decide +kernel
theorem dX5_chooseMast_30 : decode cX5_chooseMast 30 = .ok (.getfield 92, 3) := by decide +kernel
theorem dX5_chooseMast_33 : decode cX5_chooseMast 33 = .ok (.aload_n 1, 1) := by decide +kernel
theorem dX5_chooseMast_34 : decode cX5_chooseMast 34 = .ok (.getfield 139, 3) := by decide +kernel
theorem dX5_chooseMast_37 : decode cX5_chooseMast 37 = .ok (.invokevirtual 65, 3) := by decide +kernel
theorem dX5_chooseMast_40 : decode cX5_chooseMast 40 = .ok (.istore_n 3, 1) := by decide +kernel
theorem dX5_chooseMast_41 : decode cX5_chooseMast 41 = .ok (.iload_n 3, 1) := by decide +kernel
theorem dX5_chooseMast_42 : decode cX5_chooseMast 42 = .ok (.iconst 1, 1) := by decide +kernel
theorem dX5_chooseMast_43 : decode cX5_chooseMast 43 = .ok (.if_icmp .lt 22, 3) := by decide +kernel
theorem dX5_chooseMast_46 : decode cX5_chooseMast 46 = .ok (.aload_n 0, 1) := by decide +kernel
theorem dX5_chooseMast_47 : decode cX5_chooseMast 47 = .ok (.iload_n 2, 1) := by decide +kernel
theorem dX5_chooseMast_48 : decode cX5_chooseMast 48 = .ok (.aload_n 1, 1) := by decide +kernel
theorem dX5_chooseMast_49 : decode cX5_chooseMast 49 = .ok (.getfield 139, 3) := by decide +kernel
theorem dX5_chooseMast_52 : decode cX5_chooseMast 52 = .ok (.invokevirtual 65, 3) := by decide +kernel
theorem dX5_chooseMast_55 : decode cX5_chooseMast 55 = .ok (.iload_n 3, 1) := by decide +kernel
theorem dX5_chooseMast_56 : decode cX5_chooseMast 56 = .ok (.isub, 1) := by decide +kernel
theorem dX5_chooseMast_57 : decode cX5_chooseMast 57 = .ok (.iconst 3, 1) := by decide +kernel
theorem dX5_chooseMast_58 : decode cX5_chooseMast 58 = .ok (.if_icmp .ge 7, 3) := by decide +kernel
theorem dX5_chooseMast_61 : decode cX5_chooseMast 61 = .ok (.iconst 1, 1) := by decide +kernel
theorem dX5_chooseMast_62 : decode cX5_chooseMast 62 = .ok (.goto 4, 3) := by decide +kernel
theorem dX5_chooseMast_65 : decode cX5_chooseMast 65 = .ok (.iconst 0, 1) := by decide +kernel
theorem dX5_chooseMast_66 : decode cX5_chooseMast 66 = .ok (.istore 4, 2) := by decide +kernel
theorem dX5_chooseMast_68 : decode cX5_chooseMast 68 = .ok (.iload 4, 2) := by decide +kernel
theorem dX5_chooseMast_70 : decode cX5_chooseMast 70 = .ok (.ifCond .ne 8, 3) := by decide +kernel
theorem dX5_chooseMast_73 : decode cX5_chooseMast 73 = .ok (.aload_n 1, 1) := by decide +kernel
theorem dX5_chooseMast_74 : decode cX5_chooseMast 74 = .ok (.iload_n 2, 1) := by decide +kernel
theorem dX5_chooseMast_75 : decode cX5_chooseMast 75 = .ok (.putfield 92, 3) := by decide +kernel
theorem dX5_chooseMast_78 : decode cX5_chooseMast 78 = .ok (.return_, 1) := by decide +kernel
theorem dX5_tellArea_0 : decode cX5_tellArea 0 = .ok (.aload_n 1, 1) := by decide +kernel
theorem dX5_tellArea_1 : decode cX5_tellArea 1 = .ok (.getfield 92, 3) := by decide +kernel
theorem dX5_tellArea_4 : decode cX5_tellArea 4 = .ok (.iconst (-1), 1) := by decide +kernel
theorem dX5_tellArea_5 : decode cX5_tellArea 5 = .ok (.if_icmp .ne 4, 3) := by decide +kernel
theorem dX5_tellArea_8 : decode cX5_tellArea 8 = .ok (.return_, 1) := by decide +kernel
theorem dX5_tellArea_9 : decode cX5_tellArea 9 = .ok (.aload_n 0, 1) := by decide +kernel
theorem dX5_tellArea_10 : decode cX5_tellArea 10 = .ok (.getfield 9, 3) := by decide +kernel
theorem dX5_tellArea_13 : decode cX5_tellArea 13 = .ok (.getfield 76, 3) := by decide +kernel
theorem dX5_tellArea_16 : decode cX5_tellArea 16 = .ok (.aload_n 1, 1) := by decide +kernel
theorem dX5_tellArea_17 : decode cX5_tellArea 17 = .ok (.getfield 92, 3) := by decide +kernel
theorem dX5_tellArea_20 : decode cX5_tellArea 20 = .ok (.aaload, 1) := by decide +kernel
theorem dX5_tellArea_21 : decode cX5_tellArea 21 = .ok (.getfield 102, 3) := by decide +kernel
theorem dX5_tellArea_24 : decode cX5_tellArea 24 = .ok (.istore_n 2, 1) := by decide +kernel
theorem dX5_tellArea_25 : decode cX5_tellArea 25 = .ok (.iload_n 2, 1) := by decide +kernel
theorem dX5_tellArea_26 : decode cX5_tellArea 26 = .ok (.aload_n 1, 1) := by decide +kernel
theorem dX5_tellArea_27 : decode cX5_tellArea 27 = .ok (.getfield 142, 3) := by decide +kernel
theorem dX5_tellArea_30 : decode cX5_tellArea 30 = .ok (.if_icmp .ne 17, 3) := by decide +kernel
theorem dX5_tellArea_33 : decode cX5_tellArea 33 = .ok (.aload_n 0, 1) := by decide +kernel
theorem dX5_tellArea_34 : decode cX5_tellArea 34 = .ok (.getfield 53, 3) := by decide +kernel
theorem dX5_tellArea_37 : decode cX5_tellArea 37 = .ok (.aload_n 1, 1) := by decide +kernel
theorem dX5_tellArea_38 : decode cX5_tellArea 38 = .ok (.getfield 145, 3) := by decide +kernel
theorem dX5_tellArea_41 : decode cX5_tellArea 41 = .ok (.isub, 1) := by decide +kernel
theorem dX5_tellArea_42 : decode cX5_tellArea 42 = .ok (.bipush 20, 2) := by decide +kernel
theorem dX5_tellArea_44 : decode cX5_tellArea 44 = .ok (.if_icmp .lt 12, 3) := by decide +kernel
theorem dX5_tellArea_47 : decode cX5_tellArea 47 = .ok (.aload_n 1, 1) := by decide +kernel
theorem dX5_tellArea_48 : decode cX5_tellArea 48 = .ok (.iload_n 2, 1) := by decide +kernel
theorem dX5_tellArea_49 : decode cX5_tellArea 49 = .ok (.aload_n 0, 1) := by decide +kernel
theorem dX5_tellArea_50 : decode cX5_tellArea 50 = .ok (.getfield 53, 3) := by decide +kernel
theorem dX5_tellArea_53 : decode cX5_tellArea 53 = .ok (.invokevirtual 148, 3) := by decide +kernel
theorem dX5_tellArea_56 : decode cX5_tellArea 56 = .ok (.return_, 1) := by decide +kernel
theorem dX5_lookAtLeg_0 : decode cX5_lookAtLeg 0 = .ok (.aload_n 1, 1) := by decide +kernel
theorem dX5_lookAtLeg_1 : decode cX5_lookAtLeg 1 = .ok (.getfield 152, 3) := by decide +kernel
theorem dX5_lookAtLeg_4 : decode cX5_lookAtLeg 4 = .ok (.ifCond .ne 10, 3) := by decide +kernel
theorem dX5_lookAtLeg_7 : decode cX5_lookAtLeg 7 = .ok (.aload_n 2, 1) := by decide +kernel
theorem dX5_lookAtLeg_8 : decode cX5_lookAtLeg 8 = .ok (.invokevirtual 155, 3) := by decide +kernel
theorem dX5_lookAtLeg_11 : decode cX5_lookAtLeg 11 = .ok (.ifCond .ne 4, 3) := by decide +kernel
theorem dX5_lookAtLeg_14 : decode cX5_lookAtLeg 14 = .ok (.return_, 1) := by decide +kernel
theorem dX5_lookAtLeg_15 : decode cX5_lookAtLeg 15 = .ok (.aload_n 0, 1) := by decide +kernel
theorem dX5_lookAtLeg_16 : decode cX5_lookAtLeg 16 = .ok (.getfield 24, 3) := by decide +kernel
theorem dX5_lookAtLeg_19 : decode cX5_lookAtLeg 19 = .ok (.aload_n 2, 1) := by decide +kernel
theorem dX5_lookAtLeg_20 : decode cX5_lookAtLeg 20 = .ok (.getfield 160, 3) := by decide +kernel
theorem dX5_lookAtLeg_23 : decode cX5_lookAtLeg 23 = .ok (.aaload, 1) := by decide +kernel
theorem dX5_lookAtLeg_24 : decode cX5_lookAtLeg 24 = .ok (.getfield 139, 3) := by decide +kernel
theorem dX5_lookAtLeg_27 : decode cX5_lookAtLeg 27 = .ok (.istore_n 3, 1) := by decide +kernel
theorem dX5_lookAtLeg_28 : decode cX5_lookAtLeg 28 = .ok (.aload_n 0, 1) := by decide +kernel
theorem dX5_lookAtLeg_29 : decode cX5_lookAtLeg 29 = .ok (.aload_n 2, 1) := by decide +kernel
theorem dX5_lookAtLeg_30 : decode cX5_lookAtLeg 30 = .ok (.getfield 163, 3) := by decide +kernel
theorem dX5_lookAtLeg_33 : decode cX5_lookAtLeg 33 = .ok (.iload_n 3, 1) := by decide +kernel
theorem dX5_lookAtLeg_34 : decode cX5_lookAtLeg 34 = .ok (.invokevirtual 164, 3) := by decide +kernel
theorem dX5_lookAtLeg_37 : decode cX5_lookAtLeg 37 = .ok (.istore 4, 2) := by decide +kernel
theorem dX5_lookAtLeg_39 : decode cX5_lookAtLeg 39 = .ok (.aload_n 0, 1) := by decide +kernel
theorem dX5_lookAtLeg_40 : decode cX5_lookAtLeg 40 = .ok (.aload_n 2, 1) := by decide +kernel
theorem dX5_lookAtLeg_41 : decode cX5_lookAtLeg 41 = .ok (.getfield 163, 3) := by decide +kernel
theorem dX5_lookAtLeg_44 : decode cX5_lookAtLeg 44 = .ok (.iload_n 3, 1) := by decide +kernel
theorem dX5_lookAtLeg_45 : decode cX5_lookAtLeg 45 = .ok (.invokevirtual 167, 3) := by decide +kernel
theorem dX5_lookAtLeg_48 : decode cX5_lookAtLeg 48 = .ok (.istore 5, 2) := by decide +kernel
theorem dX5_lookAtLeg_50 : decode cX5_lookAtLeg 50 = .ok (.aload_n 2, 1) := by decide +kernel
theorem dX5_lookAtLeg_51 : decode cX5_lookAtLeg 51 = .ok (.aload_n 0, 1) := by decide +kernel
theorem dX5_lookAtLeg_52 : decode cX5_lookAtLeg 52 = .ok (.iload 4, 2) := by decide +kernel
theorem dX5_lookAtLeg_54 : decode cX5_lookAtLeg 54 = .ok (.aload_n 2, 1) := by decide +kernel
theorem dX5_lookAtLeg_55 : decode cX5_lookAtLeg 55 = .ok (.getfield 163, 3) := by decide +kernel
theorem dX5_lookAtLeg_58 : decode cX5_lookAtLeg 58 = .ok (.iload_n 3, 1) := by decide +kernel
theorem dX5_lookAtLeg_59 : decode cX5_lookAtLeg 59 = .ok (.invokevirtual 171, 3) := by decide +kernel
theorem dX5_lookAtLeg_62 : decode cX5_lookAtLeg 62 = .ok (.ifCond .eq 12, 3) := by decide +kernel
theorem dX5_lookAtLeg_65 : decode cX5_lookAtLeg 65 = .ok (.aload_n 2, 1) := by decide +kernel
theorem dX5_lookAtLeg_66 : decode cX5_lookAtLeg 66 = .ok (.getfield 175, 3) := by decide +kernel
theorem dX5_lookAtLeg_69 : decode cX5_lookAtLeg 69 = .ok (.iconst 1, 1) := by decide +kernel
theorem dX5_lookAtLeg_70 : decode cX5_lookAtLeg 70 = .ok (.iadd, 1) := by decide +kernel
theorem dX5_lookAtLeg_71 : decode cX5_lookAtLeg 71 = .ok (.goto 4, 3) := by decide +kernel
theorem dX5_lookAtLeg_74 : decode cX5_lookAtLeg 74 = .ok (.iconst 0, 1) := by decide +kernel
theorem dX5_lookAtLeg_75 : decode cX5_lookAtLeg 75 = .ok (.putfield 175, 3) := by decide +kernel
theorem dX5_lookAtLeg_78 : decode cX5_lookAtLeg 78 = .ok (.iload 5, 2) := by decide +kernel
theorem dX5_lookAtLeg_80 : decode cX5_lookAtLeg 80 = .ok (.ifCond .ne 23, 3) := by decide +kernel
theorem dX5_lookAtLeg_83 : decode cX5_lookAtLeg 83 = .ok (.iload 4, 2) := by decide +kernel
theorem dX5_lookAtLeg_85 : decode cX5_lookAtLeg 85 = .ok (.iconst (-1), 1) := by decide +kernel
theorem dX5_lookAtLeg_86 : decode cX5_lookAtLeg 86 = .ok (.if_icmp .eq 17, 3) := by decide +kernel
theorem dX5_lookAtLeg_89 : decode cX5_lookAtLeg 89 = .ok (.aload_n 0, 1) := by decide +kernel
theorem dX5_lookAtLeg_90 : decode cX5_lookAtLeg 90 = .ok (.iload 4, 2) := by decide +kernel
theorem dX5_lookAtLeg_92 : decode cX5_lookAtLeg 92 = .ok (.iload_n 3, 1) := by decide +kernel
theorem dX5_lookAtLeg_93 : decode cX5_lookAtLeg 93 = .ok (.invokevirtual 167, 3) := by decide +kernel
theorem dX5_lookAtLeg_96 : decode cX5_lookAtLeg 96 = .ok (.ifCond .eq 7, 3) := by decide +kernel
theorem dX5_lookAtLeg_99 : decode cX5_lookAtLeg 99 = .ok (.iconst 1, 1) := by decide +kernel
theorem dX5_lookAtLeg_100 : decode cX5_lookAtLeg 100 = .ok (.goto 4, 3) := by decide +kernel
theorem dX5_lookAtLeg_103 : decode cX5_lookAtLeg 103 = .ok (.iconst 0, 1) := by decide +kernel
theorem dX5_lookAtLeg_104 : decode cX5_lookAtLeg 104 = .ok (.istore 6, 2) := by decide +kernel
theorem dX5_lookAtLeg_106 : decode cX5_lookAtLeg 106 = .ok (.iload 4, 2) := by decide +kernel
theorem dX5_lookAtLeg_108 : decode cX5_lookAtLeg 108 = .ok (.iconst (-1), 1) := by decide +kernel
theorem dX5_lookAtLeg_109 : decode cX5_lookAtLeg 109 = .ok (.if_icmp .eq 27, 3) := by decide +kernel
theorem dX5_lookAtLeg_112 : decode cX5_lookAtLeg 112 = .ok (.aload_n 2, 1) := by decide +kernel
theorem dX5_lookAtLeg_113 : decode cX5_lookAtLeg 113 = .ok (.getfield 175, 3) := by decide +kernel
theorem dX5_lookAtLeg_116 : decode cX5_lookAtLeg 116 = .ok (.iconst 2, 1) := by decide +kernel
theorem dX5_lookAtLeg_117 : decode cX5_lookAtLeg 117 = .ok (.if_icmp .ge 8, 3) := by decide +kernel
theorem dX5_lookAtLeg_120 : decode cX5_lookAtLeg 120 = .ok (.iload 6, 2) := by decide +kernel
theorem dX5_lookAtLeg_122 : decode cX5_lookAtLeg 122 = .ok (.ifCond .eq 14, 3) := by decide +kernel
theorem dX5_lookAtLeg_125 : decode cX5_lookAtLeg 125 = .ok (.aload_n 0, 1) := by decide +kernel
theorem dX5_lookAtLeg_126 : decode cX5_lookAtLeg 126 = .ok (.aload_n 1, 1) := by decide +kernel
theorem dX5_lookAtLeg_127 : decode cX5_lookAtLeg 127 = .ok (.aload_n 2, 1) := by decide +kernel
theorem dX5_lookAtLeg_128 : decode cX5_lookAtLeg 128 = .ok (.iload 4, 2) := by decide +kernel
theorem dX5_lookAtLeg_130 : decode cX5_lookAtLeg 130 = .ok (.invokevirtual 178, 3) := by decide +kernel
theorem dX5_lookAtLeg_133 : decode cX5_lookAtLeg 133 = .ok (.goto 18, 3) := by decide +kernel
theorem dX5_lookAtLeg_136 : decode cX5_lookAtLeg 136 = .ok (.iload 5, 2) := by decide +kernel
theorem dX5_lookAtLeg_138 : decode cX5_lookAtLeg 138 = .ok (.ifCond .ne 13, 3) := by decide +kernel
theorem dX5_lookAtLeg_141 : decode cX5_lookAtLeg 141 = .ok (.aload_n 2, 1) := by decide +kernel
theorem dX5_lookAtLeg_142 : decode cX5_lookAtLeg 142 = .ok (.dup, 1) := by decide +kernel
theorem dX5_lookAtLeg_143 : decode cX5_lookAtLeg 143 = .ok (.getfield 182, 3) := by decide +kernel
theorem dX5_lookAtLeg_146 : decode cX5_lookAtLeg 146 = .ok (.iconst 1, 1) := by decide +kernel
theorem dX5_lookAtLeg_147 : decode cX5_lookAtLeg 147 = .ok (.iadd, 1) := by decide +kernel
theorem dX5_lookAtLeg_148 : decode cX5_lookAtLeg 148 = .ok (.putfield 182, 3) := by decide +kernel
theorem dX5_lookAtLeg_151 : decode cX5_lookAtLeg 151 = .ok (.aload_n 0, 1) := by decide +kernel
theorem dX5_lookAtLeg_152 : decode cX5_lookAtLeg 152 = .ok (.aload_n 2, 1) := by decide +kernel
theorem dX5_lookAtLeg_153 : decode cX5_lookAtLeg 153 = .ok (.getfield 163, 3) := by decide +kernel
theorem dX5_lookAtLeg_156 : decode cX5_lookAtLeg 156 = .ok (.iload_n 3, 1) := by decide +kernel
theorem dX5_lookAtLeg_157 : decode cX5_lookAtLeg 157 = .ok (.invokevirtual 167, 3) := by decide +kernel
theorem dX5_lookAtLeg_160 : decode cX5_lookAtLeg 160 = .ok (.ifCond .eq 8, 3) := by decide +kernel
theorem dX5_lookAtLeg_163 : decode cX5_lookAtLeg 163 = .ok (.aload_n 2, 1) := by decide +kernel
theorem dX5_lookAtLeg_164 : decode cX5_lookAtLeg 164 = .ok (.iconst 0, 1) := by decide +kernel
theorem dX5_lookAtLeg_165 : decode cX5_lookAtLeg 165 = .ok (.putfield 182, 3) := by decide +kernel
theorem dX5_lookAtLeg_168 : decode cX5_lookAtLeg 168 = .ok (.aload_n 2, 1) := by decide +kernel
theorem dX5_lookAtLeg_169 : decode cX5_lookAtLeg 169 = .ok (.getfield 182, 3) := by decide +kernel
theorem dX5_lookAtLeg_172 : decode cX5_lookAtLeg 172 = .ok (.iconst 3, 1) := by decide +kernel
theorem dX5_lookAtLeg_173 : decode cX5_lookAtLeg 173 = .ok (.if_icmp .lt 9, 3) := by decide +kernel
theorem dX5_lookAtLeg_176 : decode cX5_lookAtLeg 176 = .ok (.aload_n 0, 1) := by decide +kernel
theorem dX5_lookAtLeg_177 : decode cX5_lookAtLeg 177 = .ok (.aload_n 1, 1) := by decide +kernel
theorem dX5_lookAtLeg_178 : decode cX5_lookAtLeg 178 = .ok (.iconst 2, 1) := by decide +kernel
theorem dX5_lookAtLeg_179 : decode cX5_lookAtLeg 179 = .ok (.invokevirtual 185, 3) := by decide +kernel
theorem dX5_lookAtLeg_182 : decode cX5_lookAtLeg 182 = .ok (.return_, 1) := by decide +kernel
theorem dX5_isMuchBetter_0 : decode cX5_isMuchBetter 0 = .ok (.iload_n 1, 1) := by decide +kernel
theorem dX5_isMuchBetter_1 : decode cX5_isMuchBetter 1 = .ok (.iconst (-1), 1) := by decide +kernel
theorem dX5_isMuchBetter_2 : decode cX5_isMuchBetter 2 = .ok (.if_icmp .eq 24, 3) := by decide +kernel
theorem dX5_isMuchBetter_5 : decode cX5_isMuchBetter 5 = .ok (.aload_n 0, 1) := by decide +kernel
theorem dX5_isMuchBetter_6 : decode cX5_isMuchBetter 6 = .ok (.iload_n 1, 1) := by decide +kernel
theorem dX5_isMuchBetter_7 : decode cX5_isMuchBetter 7 = .ok (.iload_n 3, 1) := by decide +kernel
theorem dX5_isMuchBetter_8 : decode cX5_isMuchBetter 8 = .ok (.invokevirtual 65, 3) := by decide +kernel
theorem dX5_isMuchBetter_11 : decode cX5_isMuchBetter 11 = .ok (.aload_n 0, 1) := by decide +kernel
theorem dX5_isMuchBetter_12 : decode cX5_isMuchBetter 12 = .ok (.iload_n 2, 1) := by decide +kernel
theorem dX5_isMuchBetter_13 : decode cX5_isMuchBetter 13 = .ok (.iload_n 3, 1) := by decide +kernel
theorem dX5_isMuchBetter_14 : decode cX5_isMuchBetter 14 = .ok (.invokevirtual 65, 3) := by decide +kernel
theorem dX5_isMuchBetter_17 : decode cX5_isMuchBetter 17 = .ok (.isub, 1) := by decide +kernel
theorem dX5_isMuchBetter_18 : decode cX5_isMuchBetter 18 = .ok (.iconst 4, 1) := by decide +kernel
theorem dX5_isMuchBetter_19 : decode cX5_isMuchBetter 19 = .ok (.if_icmp .lt 7, 3) := by decide +kernel
theorem dX5_isMuchBetter_22 : decode cX5_isMuchBetter 22 = .ok (.iconst 1, 1) := by decide +kernel
theorem dX5_isMuchBetter_23 : decode cX5_isMuchBetter 23 = .ok (.goto 4, 3) := by decide +kernel
theorem dX5_isMuchBetter_26 : decode cX5_isMuchBetter 26 = .ok (.iconst 0, 1) := by decide +kernel
theorem dX5_isMuchBetter_27 : decode cX5_isMuchBetter 27 = .ok (.ireturn, 1) := by decide +kernel
theorem dX5_candidateFor_0 : decode cX5_candidateFor 0 = .ok (.iconst (-1), 1) := by decide +kernel
theorem dX5_candidateFor_1 : decode cX5_candidateFor 1 = .ok (.istore_n 3, 1) := by decide +kernel
theorem dX5_candidateFor_2 : decode cX5_candidateFor 2 = .ok (.sipush (-1000), 3) := by decide +kernel
theorem dX5_candidateFor_5 : decode cX5_candidateFor 5 = .ok (.istore 4, 2) := by decide +kernel
theorem dX5_candidateFor_7 : decode cX5_candidateFor 7 = .ok (.iconst 0, 1) := by decide +kernel
theorem dX5_candidateFor_8 : decode cX5_candidateFor 8 = .ok (.istore 5, 2) := by decide +kernel
theorem dX5_candidateFor_10 : decode cX5_candidateFor 10 = .ok (.iload 5, 2) := by decide +kernel
theorem dX5_candidateFor_12 : decode cX5_candidateFor 12 = .ok (.aload_n 0, 1) := by decide +kernel
theorem dX5_candidateFor_13 : decode cX5_candidateFor 13 = .ok (.getfield 9, 3) := by decide +kernel
theorem dX5_candidateFor_16 : decode cX5_candidateFor 16 = .ok (.getfield 69, 3) := by decide +kernel
theorem dX5_candidateFor_19 : decode cX5_candidateFor 19 = .ok (.if_icmp .ge 67, 3) := by decide +kernel
theorem dX5_candidateFor_22 : decode cX5_candidateFor 22 = .ok (.iload 5, 2) := by decide +kernel
theorem dX5_candidateFor_24 : decode cX5_candidateFor 24 = .ok (.iload_n 1, 1) := by decide +kernel
theorem dX5_candidateFor_25 : decode cX5_candidateFor 25 = .ok (.if_icmp .eq 55, 3) := by decide +kernel
theorem dX5_candidateFor_28 : decode cX5_candidateFor 28 = .ok (.aload_n 0, 1) := by decide +kernel
theorem dX5_candidateFor_29 : decode cX5_candidateFor 29 = .ok (.getfield 9, 3) := by decide +kernel
theorem dX5_candidateFor_32 : decode cX5_candidateFor 32 = .ok (.getfield 76, 3) := by decide +kernel
theorem dX5_candidateFor_35 : decode cX5_candidateFor 35 = .ok (.iload 5, 2) := by decide +kernel
theorem dX5_candidateFor_37 : decode cX5_candidateFor 37 = .ok (.aaload, 1) := by decide +kernel
theorem dX5_candidateFor_38 : decode cX5_candidateFor 38 = .ok (.getfield 189, 3) := by decide +kernel
theorem dX5_candidateFor_41 : decode cX5_candidateFor 41 = .ok (.ifCond .eq 39, 3) := by decide +kernel
theorem dX5_candidateFor_44 : decode cX5_candidateFor 44 = .ok (.aload_n 0, 1) := by decide +kernel
theorem dX5_candidateFor_45 : decode cX5_candidateFor 45 = .ok (.iload 5, 2) := by decide +kernel
theorem dX5_candidateFor_47 : decode cX5_candidateFor 47 = .ok (.iconst 1, 1) := by decide +kernel
theorem dX5_candidateFor_48 : decode cX5_candidateFor 48 = .ok (.invokevirtual 192, 3) := by decide +kernel
theorem dX5_candidateFor_51 : decode cX5_candidateFor 51 = .ok (.ifCond .ne 6, 3) := by decide +kernel
theorem dX5_candidateFor_54 : decode cX5_candidateFor 54 = .ok (.goto 26, 3) := by decide +kernel
theorem dX5_candidateFor_57 : decode cX5_candidateFor 57 = .ok (.aload_n 0, 1) := by decide +kernel
theorem dX5_candidateFor_58 : decode cX5_candidateFor 58 = .ok (.iload 5, 2) := by decide +kernel
theorem dX5_candidateFor_60 : decode cX5_candidateFor 60 = .ok (.iload_n 2, 1) := by decide +kernel
theorem dX5_candidateFor_61 : decode cX5_candidateFor 61 = .ok (.invokevirtual 65, 3) := by decide +kernel
theorem dX5_candidateFor_64 : decode cX5_candidateFor 64 = .ok (.istore 6, 2) := by decide +kernel
theorem dX5_candidateFor_66 : decode cX5_candidateFor 66 = .ok (.iload 6, 2) := by decide +kernel
theorem dX5_candidateFor_68 : decode cX5_candidateFor 68 = .ok (.iload 4, 2) := by decide +kernel
theorem dX5_candidateFor_70 : decode cX5_candidateFor 70 = .ok (.if_icmp .le 10, 3) := by decide +kernel
theorem dX5_candidateFor_73 : decode cX5_candidateFor 73 = .ok (.iload 5, 2) := by decide +kernel
theorem dX5_candidateFor_75 : decode cX5_candidateFor 75 = .ok (.istore_n 3, 1) := by decide +kernel
theorem dX5_candidateFor_76 : decode cX5_candidateFor 76 = .ok (.iload 6, 2) := by decide +kernel
theorem dX5_candidateFor_78 : decode cX5_candidateFor 78 = .ok (.istore 4, 2) := by decide +kernel
theorem dX5_candidateFor_80 : decode cX5_candidateFor 80 = .ok (.iinc 5 1, 3) := by decide +kernel
theorem dX5_candidateFor_83 : decode cX5_candidateFor 83 = .ok (.goto (-73), 3) := by decide +kernel
theorem dX5_candidateFor_86 : decode cX5_candidateFor 86 = .ok (.iload_n 3, 1) := by decide +kernel
theorem dX5_candidateFor_87 : decode cX5_candidateFor 87 = .ok (.ireturn, 1) := by decide +kernel
theorem dX5_handOver_0 : decode cX5_handOver 0 = .ok (.aload_n 1, 1) := by decide +kernel
theorem dX5_handOver_1 : decode cX5_handOver 1 = .ok (.dup, 1) := by decide +kernel
theorem dX5_handOver_2 : decode cX5_handOver 2 = .ok (.getfield 195, 3) := by decide +kernel
theorem dX5_handOver_5 : decode cX5_handOver 5 = .ok (.iconst 1, 1) := by decide +kernel
theorem dX5_handOver_6 : decode cX5_handOver 6 = .ok (.iadd, 1) := by decide +kernel
theorem dX5_handOver_7 : decode cX5_handOver 7 = .ok (.putfield 195, 3) := by decide +kernel
theorem dX5_handOver_10 : decode cX5_handOver 10 = .ok (.aload_n 2, 1) := by decide +kernel
theorem dX5_handOver_11 : decode cX5_handOver 11 = .ok (.getfield 198, 3) := by decide +kernel
theorem dX5_handOver_14 : decode cX5_handOver 14 = .ok (.iload_n 3, 1) := by decide +kernel
theorem dX5_handOver_15 : decode cX5_handOver 15 = .ok (.if_icmp .ne 26, 3) := by decide +kernel
theorem dX5_handOver_18 : decode cX5_handOver 18 = .ok (.aload_n 0, 1) := by decide +kernel
theorem dX5_handOver_19 : decode cX5_handOver 19 = .ok (.getfield 53, 3) := by decide +kernel
theorem dX5_handOver_22 : decode cX5_handOver 22 = .ok (.aload_n 2, 1) := by decide +kernel
theorem dX5_handOver_23 : decode cX5_handOver 23 = .ok (.getfield 201, 3) := by decide +kernel
theorem dX5_handOver_26 : decode cX5_handOver 26 = .ok (.isub, 1) := by decide +kernel
theorem dX5_handOver_27 : decode cX5_handOver 27 = .ok (.iconst 5, 1) := by decide +kernel
theorem dX5_handOver_28 : decode cX5_handOver 28 = .ok (.if_icmp .gt 13, 3) := by decide +kernel
theorem dX5_handOver_31 : decode cX5_handOver 31 = .ok (.aload_n 1, 1) := by decide +kernel
theorem dX5_handOver_32 : decode cX5_handOver 32 = .ok (.dup, 1) := by decide +kernel
theorem dX5_handOver_33 : decode cX5_handOver 33 = .ok (.getfield 204, 3) := by decide +kernel
theorem dX5_handOver_36 : decode cX5_handOver 36 = .ok (.iconst 1, 1) := by decide +kernel
theorem dX5_handOver_37 : decode cX5_handOver 37 = .ok (.iadd, 1) := by decide +kernel
theorem dX5_handOver_38 : decode cX5_handOver 38 = .ok (.putfield 204, 3) := by decide +kernel
theorem dX5_handOver_41 : decode cX5_handOver 41 = .ok (.aload_n 2, 1) := by decide +kernel
theorem dX5_handOver_42 : decode cX5_handOver 42 = .ok (.aload_n 2, 1) := by decide +kernel
theorem dX5_handOver_43 : decode cX5_handOver 43 = .ok (.getfield 163, 3) := by decide +kernel
theorem dX5_handOver_46 : decode cX5_handOver 46 = .ok (.putfield 198, 3) := by decide +kernel
theorem dX5_handOver_49 : decode cX5_handOver 49 = .ok (.aload_n 2, 1) := by decide +kernel
theorem dX5_handOver_50 : decode cX5_handOver 50 = .ok (.aload_n 0, 1) := by decide +kernel
theorem dX5_handOver_51 : decode cX5_handOver 51 = .ok (.getfield 53, 3) := by decide +kernel
theorem dX5_handOver_54 : decode cX5_handOver 54 = .ok (.putfield 201, 3) := by decide +kernel
theorem dX5_handOver_57 : decode cX5_handOver 57 = .ok (.aload_n 2, 1) := by decide +kernel
theorem dX5_handOver_58 : decode cX5_handOver 58 = .ok (.iconst 0, 1) := by decide +kernel
theorem dX5_handOver_59 : decode cX5_handOver 59 = .ok (.putfield 175, 3) := by decide +kernel
theorem dX5_handOver_62 : decode cX5_handOver 62 = .ok (.aload_n 0, 1) := by decide +kernel
theorem dX5_handOver_63 : decode cX5_handOver 63 = .ok (.getfield 15, 3) := by decide +kernel
theorem dX5_handOver_66 : decode cX5_handOver 66 = .ok (.aload_n 2, 1) := by decide +kernel
theorem dX5_handOver_67 : decode cX5_handOver 67 = .ok (.getfield 163, 3) := by decide +kernel
theorem dX5_handOver_70 : decode cX5_handOver 70 = .ok (.dup2, 1) := by decide +kernel
theorem dX5_handOver_71 : decode cX5_handOver 71 = .ok (.iaload, 1) := by decide +kernel
theorem dX5_handOver_72 : decode cX5_handOver 72 = .ok (.iconst 1, 1) := by decide +kernel
theorem dX5_handOver_73 : decode cX5_handOver 73 = .ok (.isub, 1) := by decide +kernel
theorem dX5_handOver_74 : decode cX5_handOver 74 = .ok (.iastore, 1) := by decide +kernel
theorem dX5_handOver_75 : decode cX5_handOver 75 = .ok (.aload_n 0, 1) := by decide +kernel
theorem dX5_handOver_76 : decode cX5_handOver 76 = .ok (.getfield 15, 3) := by decide +kernel
theorem dX5_handOver_79 : decode cX5_handOver 79 = .ok (.iload_n 3, 1) := by decide +kernel
theorem dX5_handOver_80 : decode cX5_handOver 80 = .ok (.dup2, 1) := by decide +kernel
theorem dX5_handOver_81 : decode cX5_handOver 81 = .ok (.iaload, 1) := by decide +kernel
theorem dX5_handOver_82 : decode cX5_handOver 82 = .ok (.iconst 1, 1) := by decide +kernel
theorem dX5_handOver_83 : decode cX5_handOver 83 = .ok (.iadd, 1) := by decide +kernel
theorem dX5_handOver_84 : decode cX5_handOver 84 = .ok (.iastore, 1) := by decide +kernel
theorem dX5_handOver_85 : decode cX5_handOver 85 = .ok (.aload_n 2, 1) := by decide +kernel
theorem dX5_handOver_86 : decode cX5_handOver 86 = .ok (.iload_n 3, 1) := by decide +kernel
theorem dX5_handOver_87 : decode cX5_handOver 87 = .ok (.putfield 163, 3) := by decide +kernel
theorem dX5_handOver_90 : decode cX5_handOver 90 = .ok (.aload_n 0, 1) := by decide +kernel
theorem dX5_handOver_91 : decode cX5_handOver 91 = .ok (.getfield 24, 3) := by decide +kernel
theorem dX5_handOver_94 : decode cX5_handOver 94 = .ok (.aload_n 2, 1) := by decide +kernel
theorem dX5_handOver_95 : decode cX5_handOver 95 = .ok (.getfield 160, 3) := by decide +kernel
theorem dX5_handOver_98 : decode cX5_handOver 98 = .ok (.aaload, 1) := by decide +kernel
theorem dX5_handOver_99 : decode cX5_handOver 99 = .ok (.iload_n 3, 1) := by decide +kernel
theorem dX5_handOver_100 : decode cX5_handOver 100 = .ok (.putfield 92, 3) := by decide +kernel
theorem dX5_handOver_103 : decode cX5_handOver 103 = .ok (.return_, 1) := by decide +kernel
theorem dX5_charge_0 : decode cX5_charge 0 = .ok (.aload_n 1, 1) := by decide +kernel
theorem dX5_charge_1 : decode cX5_charge 1 = .ok (.getfield 152, 3) := by decide +kernel
theorem dX5_charge_4 : decode cX5_charge 4 = .ok (.ifCond .ne 13, 3) := by decide +kernel
theorem dX5_charge_7 : decode cX5_charge 7 = .ok (.aload_n 1, 1) := by decide +kernel
theorem dX5_charge_8 : decode cX5_charge 8 = .ok (.getfield 122, 3) := by decide +kernel
theorem dX5_charge_11 : decode cX5_charge 11 = .ok (.invokevirtual 155, 3) := by decide +kernel
theorem dX5_charge_14 : decode cX5_charge 14 = .ok (.ifCond .ne 4, 3) := by decide +kernel
theorem dX5_charge_17 : decode cX5_charge 17 = .ok (.return_, 1) := by decide +kernel
theorem dX5_charge_18 : decode cX5_charge 18 = .ok (.aload_n 0, 1) := by decide +kernel
theorem dX5_charge_19 : decode cX5_charge 19 = .ok (.getfield 24, 3) := by decide +kernel
theorem dX5_charge_22 : decode cX5_charge 22 = .ok (.aload_n 1, 1) := by decide +kernel
theorem dX5_charge_23 : decode cX5_charge 23 = .ok (.getfield 122, 3) := by decide +kernel
theorem dX5_charge_26 : decode cX5_charge 26 = .ok (.getfield 160, 3) := by decide +kernel
theorem dX5_charge_29 : decode cX5_charge 29 = .ok (.aaload, 1) := by decide +kernel
theorem dX5_charge_30 : decode cX5_charge 30 = .ok (.astore_n 2, 1) := by decide +kernel
theorem dX5_charge_31 : decode cX5_charge 31 = .ok (.aload_n 0, 1) := by decide +kernel
theorem dX5_charge_32 : decode cX5_charge 32 = .ok (.aload_n 1, 1) := by decide +kernel
theorem dX5_charge_33 : decode cX5_charge 33 = .ok (.aload_n 2, 1) := by decide +kernel
theorem dX5_charge_34 : decode cX5_charge 34 = .ok (.invokevirtual 207, 3) := by decide +kernel
theorem dX5_charge_37 : decode cX5_charge 37 = .ok (.istore_n 3, 1) := by decide +kernel
theorem dX5_charge_38 : decode cX5_charge 38 = .ok (.aload_n 2, 1) := by decide +kernel
theorem dX5_charge_39 : decode cX5_charge 39 = .ok (.getfield 211, 3) := by decide +kernel
theorem dX5_charge_42 : decode cX5_charge 42 = .ok (.iload_n 3, 1) := by decide +kernel
theorem dX5_charge_43 : decode cX5_charge 43 = .ok (.if_icmp .ge 10, 3) := by decide +kernel
theorem dX5_charge_46 : decode cX5_charge 46 = .ok (.aload_n 0, 1) := by decide +kernel
theorem dX5_charge_47 : decode cX5_charge 47 = .ok (.aload_n 1, 1) := by decide +kernel
theorem dX5_charge_48 : decode cX5_charge 48 = .ok (.iconst 3, 1) := by decide +kernel
theorem dX5_charge_49 : decode cX5_charge 49 = .ok (.invokevirtual 185, 3) := by decide +kernel
theorem dX5_charge_52 : decode cX5_charge 52 = .ok (.return_, 1) := by decide +kernel
theorem dX5_charge_53 : decode cX5_charge 53 = .ok (.aload_n 2, 1) := by decide +kernel
theorem dX5_charge_54 : decode cX5_charge 54 = .ok (.dup, 1) := by decide +kernel
theorem dX5_charge_55 : decode cX5_charge 55 = .ok (.getfield 211, 3) := by decide +kernel
theorem dX5_charge_58 : decode cX5_charge 58 = .ok (.iload_n 3, 1) := by decide +kernel
theorem dX5_charge_59 : decode cX5_charge 59 = .ok (.isub, 1) := by decide +kernel
theorem dX5_charge_60 : decode cX5_charge 60 = .ok (.putfield 211, 3) := by decide +kernel
theorem dX5_charge_63 : decode cX5_charge 63 = .ok (.aload_n 1, 1) := by decide +kernel
theorem dX5_charge_64 : decode cX5_charge 64 = .ok (.dup, 1) := by decide +kernel
theorem dX5_charge_65 : decode cX5_charge 65 = .ok (.getfield 214, 3) := by decide +kernel
theorem dX5_charge_68 : decode cX5_charge 68 = .ok (.iload_n 3, 1) := by decide +kernel
theorem dX5_charge_69 : decode cX5_charge 69 = .ok (.iadd, 1) := by decide +kernel
theorem dX5_charge_70 : decode cX5_charge 70 = .ok (.putfield 214, 3) := by decide +kernel
theorem dX5_charge_73 : decode cX5_charge 73 = .ok (.aload_n 1, 1) := by decide +kernel
theorem dX5_charge_74 : decode cX5_charge 74 = .ok (.dup, 1) := by decide +kernel
theorem dX5_charge_75 : decode cX5_charge 75 = .ok (.getfield 217, 3) := by decide +kernel
theorem dX5_charge_78 : decode cX5_charge 78 = .ok (.iconst 1, 1) := by decide +kernel
theorem dX5_charge_79 : decode cX5_charge 79 = .ok (.iadd, 1) := by decide +kernel
theorem dX5_charge_80 : decode cX5_charge 80 = .ok (.putfield 217, 3) := by decide +kernel
theorem dX5_charge_83 : decode cX5_charge 83 = .ok (.aload_n 0, 1) := by decide +kernel
theorem dX5_charge_84 : decode cX5_charge 84 = .ok (.aload_n 1, 1) := by decide +kernel
theorem dX5_charge_85 : decode cX5_charge 85 = .ok (.getfield 122, 3) := by decide +kernel
theorem dX5_charge_88 : decode cX5_charge 88 = .ok (.invokevirtual 220, 3) := by decide +kernel
theorem dX5_charge_91 : decode cX5_charge 91 = .ok (.aload_n 0, 1) := by decide +kernel
theorem dX5_charge_92 : decode cX5_charge 92 = .ok (.aload_n 1, 1) := by decide +kernel
theorem dX5_charge_93 : decode cX5_charge 93 = .ok (.getfield 130, 3) := by decide +kernel
theorem dX5_charge_96 : decode cX5_charge 96 = .ok (.invokevirtual 220, 3) := by decide +kernel
theorem dX5_charge_99 : decode cX5_charge 99 = .ok (.return_, 1) := by decide +kernel
theorem dX5_carry_0 : decode cX5_carry 0 = .ok (.aload_n 1, 1) := by decide +kernel
theorem dX5_carry_1 : decode cX5_carry 1 = .ok (.invokevirtual 155, 3) := by decide +kernel
theorem dX5_carry_4 : decode cX5_carry 4 = .ok (.ifCond .eq 16, 3) := by decide +kernel
theorem dX5_carry_7 : decode cX5_carry 7 = .ok (.aload_n 0, 1) := by decide +kernel
theorem dX5_carry_8 : decode cX5_carry 8 = .ok (.getfield 19, 3) := by decide +kernel
theorem dX5_carry_11 : decode cX5_carry 11 = .ok (.aload_n 1, 1) := by decide +kernel
theorem dX5_carry_12 : decode cX5_carry 12 = .ok (.getfield 163, 3) := by decide +kernel
theorem dX5_carry_15 : decode cX5_carry 15 = .ok (.dup2, 1) := by decide +kernel
theorem dX5_carry_16 : decode cX5_carry 16 = .ok (.iaload, 1) := by decide +kernel
theorem dX5_carry_17 : decode cX5_carry 17 = .ok (.iconst 1, 1) := by decide +kernel
theorem dX5_carry_18 : decode cX5_carry 18 = .ok (.iadd, 1) := by decide +kernel
theorem dX5_carry_19 : decode cX5_carry 19 = .ok (.iastore, 1) := by decide +kernel
theorem dX5_carry_20 : decode cX5_carry 20 = .ok (.return_, 1) := by decide +kernel
theorem dX5_price_0 : decode cX5_price 0 = .ok (.aload_n 1, 1) := by decide +kernel
theorem dX5_price_1 : decode cX5_price 1 = .ok (.getfield 130, 3) := by decide +kernel
theorem dX5_price_4 : decode cX5_price 4 = .ok (.invokevirtual 155, 3) := by decide +kernel
theorem dX5_price_7 : decode cX5_price 7 = .ok (.ifCond .ne 5, 3) := by decide +kernel
theorem dX5_price_10 : decode cX5_price 10 = .ok (.iconst 0, 1) := by decide +kernel
theorem dX5_price_11 : decode cX5_price 11 = .ok (.ireturn, 1) := by decide +kernel
theorem dX5_price_12 : decode cX5_price 12 = .ok (.aload_n 0, 1) := by decide +kernel
theorem dX5_price_13 : decode cX5_price 13 = .ok (.getfield 9, 3) := by decide +kernel
theorem dX5_price_16 : decode cX5_price 16 = .ok (.getfield 76, 3) := by decide +kernel
theorem dX5_price_19 : decode cX5_price 19 = .ok (.aload_n 1, 1) := by decide +kernel
theorem dX5_price_20 : decode cX5_price 20 = .ok (.getfield 122, 3) := by decide +kernel
theorem dX5_price_23 : decode cX5_price 23 = .ok (.getfield 163, 3) := by decide +kernel
theorem dX5_price_26 : decode cX5_price 26 = .ok (.aaload, 1) := by decide +kernel
theorem dX5_price_27 : decode cX5_price 27 = .ok (.getfield 224, 3) := by decide +kernel
theorem dX5_price_30 : decode cX5_price 30 = .ok (.aload_n 2, 1) := by decide +kernel
theorem dX5_price_31 : decode cX5_price 31 = .ok (.getfield 227, 3) := by decide +kernel
theorem dX5_price_34 : decode cX5_price 34 = .ok (.if_icmp .ne 7, 3) := by decide +kernel
theorem dX5_price_37 : decode cX5_price 37 = .ok (.iconst 1, 1) := by decide +kernel
theorem dX5_price_38 : decode cX5_price 38 = .ok (.goto 4, 3) := by decide +kernel
theorem dX5_price_41 : decode cX5_price 41 = .ok (.iconst 3, 1) := by decide +kernel
theorem dX5_price_42 : decode cX5_price 42 = .ok (.ireturn, 1) := by decide +kernel
theorem dX5_deliverTexts_0 : decode cX5_deliverTexts 0 = .ok (.aload_n 1, 1) := by decide +kernel
theorem dX5_deliverTexts_1 : decode cX5_deliverTexts 1 = .ok (.getfield 92, 3) := by decide +kernel
theorem dX5_deliverTexts_4 : decode cX5_deliverTexts 4 = .ok (.iconst (-1), 1) := by decide +kernel
theorem dX5_deliverTexts_5 : decode cX5_deliverTexts 5 = .ok (.if_icmp .eq 21, 3) := by decide +kernel
theorem dX5_deliverTexts_8 : decode cX5_deliverTexts 8 = .ok (.aload_n 1, 1) := by decide +kernel
theorem dX5_deliverTexts_9 : decode cX5_deliverTexts 9 = .ok (.dup, 1) := by decide +kernel
theorem dX5_deliverTexts_10 : decode cX5_deliverTexts 10 = .ok (.getfield 228, 3) := by decide +kernel
theorem dX5_deliverTexts_13 : decode cX5_deliverTexts 13 = .ok (.aload_n 1, 1) := by decide +kernel
theorem dX5_deliverTexts_14 : decode cX5_deliverTexts 14 = .ok (.getfield 231, 3) := by decide +kernel
theorem dX5_deliverTexts_17 : decode cX5_deliverTexts 17 = .ok (.iadd, 1) := by decide +kernel
theorem dX5_deliverTexts_18 : decode cX5_deliverTexts 18 = .ok (.putfield 228, 3) := by decide +kernel
theorem dX5_deliverTexts_21 : decode cX5_deliverTexts 21 = .ok (.aload_n 1, 1) := by decide +kernel
theorem dX5_deliverTexts_22 : decode cX5_deliverTexts 22 = .ok (.iconst 0, 1) := by decide +kernel
theorem dX5_deliverTexts_23 : decode cX5_deliverTexts 23 = .ok (.putfield 231, 3) := by decide +kernel
theorem dX5_deliverTexts_26 : decode cX5_deliverTexts 26 = .ok (.return_, 1) := by decide +kernel
theorem dX5_tryCall_0 : decode cX5_tryCall 0 = .ok (.aload_n 0, 1) := by decide +kernel
theorem dX5_tryCall_1 : decode cX5_tryCall 1 = .ok (.getfield 24, 3) := by decide +kernel
theorem dX5_tryCall_4 : decode cX5_tryCall 4 = .ok (.iload_n 1, 1) := by decide +kernel
theorem dX5_tryCall_5 : decode cX5_tryCall 5 = .ok (.aaload, 1) := by decide +kernel
theorem dX5_tryCall_6 : decode cX5_tryCall 6 = .ok (.astore_n 3, 1) := by decide +kernel
theorem dX5_tryCall_7 : decode cX5_tryCall 7 = .ok (.aload_n 0, 1) := by decide +kernel
theorem dX5_tryCall_8 : decode cX5_tryCall 8 = .ok (.getfield 24, 3) := by decide +kernel
theorem dX5_tryCall_11 : decode cX5_tryCall 11 = .ok (.iload_n 2, 1) := by decide +kernel
theorem dX5_tryCall_12 : decode cX5_tryCall 12 = .ok (.aaload, 1) := by decide +kernel
theorem dX5_tryCall_13 : decode cX5_tryCall 13 = .ok (.astore 4, 2) := by decide +kernel
theorem dX5_tryCall_15 : decode cX5_tryCall 15 = .ok (.aload_n 3, 1) := by decide +kernel
theorem dX5_tryCall_16 : decode cX5_tryCall 16 = .ok (.invokevirtual 112, 3) := by decide +kernel
theorem dX5_tryCall_19 : decode cX5_tryCall 19 = .ok (.ifCond .eq 11, 3) := by decide +kernel
theorem dX5_tryCall_22 : decode cX5_tryCall 22 = .ok (.aload_n 3, 1) := by decide +kernel
theorem dX5_tryCall_23 : decode cX5_tryCall 23 = .ok (.getfield 92, 3) := by decide +kernel
theorem dX5_tryCall_26 : decode cX5_tryCall 26 = .ok (.iconst (-1), 1) := by decide +kernel
theorem dX5_tryCall_27 : decode cX5_tryCall 27 = .ok (.if_icmp .ne 6, 3) := by decide +kernel
theorem dX5_tryCall_30 : decode cX5_tryCall 30 = .ok (.bipush (-2), 2) := by decide +kernel
theorem dX5_tryCall_32 : decode cX5_tryCall 32 = .ok (.ireturn, 1) := by decide +kernel
theorem dX5_tryCall_33 : decode cX5_tryCall 33 = .ok (.aload_n 0, 1) := by decide +kernel
theorem dX5_tryCall_34 : decode cX5_tryCall 34 = .ok (.aload 4, 2) := by decide +kernel
theorem dX5_tryCall_36 : decode cX5_tryCall 36 = .ok (.invokevirtual 234, 3) := by decide +kernel
theorem dX5_tryCall_39 : decode cX5_tryCall 39 = .ok (.ifCond .ne 6, 3) := by decide +kernel
theorem dX5_tryCall_42 : decode cX5_tryCall 42 = .ok (.bipush (-3), 2) := by decide +kernel
theorem dX5_tryCall_44 : decode cX5_tryCall 44 = .ok (.ireturn, 1) := by decide +kernel
theorem dX5_tryCall_45 : decode cX5_tryCall 45 = .ok (.aload 4, 2) := by decide +kernel
theorem dX5_tryCall_47 : decode cX5_tryCall 47 = .ok (.invokevirtual 112, 3) := by decide +kernel
theorem dX5_tryCall_50 : decode cX5_tryCall 50 = .ok (.ifCond .ne 6, 3) := by decide +kernel
theorem dX5_tryCall_53 : decode cX5_tryCall 53 = .ok (.bipush (-4), 2) := by decide +kernel
theorem dX5_tryCall_55 : decode cX5_tryCall 55 = .ok (.ireturn, 1) := by decide +kernel
theorem dX5_tryCall_56 : decode cX5_tryCall 56 = .ok (.aload_n 3, 1) := by decide +kernel
theorem dX5_tryCall_57 : decode cX5_tryCall 57 = .ok (.getfield 92, 3) := by decide +kernel
theorem dX5_tryCall_60 : decode cX5_tryCall 60 = .ok (.aload 4, 2) := by decide +kernel
theorem dX5_tryCall_62 : decode cX5_tryCall 62 = .ok (.getfield 92, 3) := by decide +kernel
theorem dX5_tryCall_65 : decode cX5_tryCall 65 = .ok (.if_icmp .ne 15, 3) := by decide +kernel
theorem dX5_tryCall_68 : decode cX5_tryCall 68 = .ok (.aload_n 0, 1) := by decide +kernel
theorem dX5_tryCall_69 : decode cX5_tryCall 69 = .ok (.aload_n 3, 1) := by decide +kernel
theorem dX5_tryCall_70 : decode cX5_tryCall 70 = .ok (.getfield 92, 3) := by decide +kernel
theorem dX5_tryCall_73 : decode cX5_tryCall 73 = .ok (.iconst 2, 1) := by decide +kernel
theorem dX5_tryCall_74 : decode cX5_tryCall 74 = .ok (.invokevirtual 192, 3) := by decide +kernel
theorem dX5_tryCall_77 : decode cX5_tryCall 77 = .ok (.goto 33, 3) := by decide +kernel
theorem dX5_tryCall_80 : decode cX5_tryCall 80 = .ok (.aload_n 0, 1) := by decide +kernel
theorem dX5_tryCall_81 : decode cX5_tryCall 81 = .ok (.aload_n 3, 1) := by decide +kernel
theorem dX5_tryCall_82 : decode cX5_tryCall 82 = .ok (.getfield 92, 3) := by decide +kernel
theorem dX5_tryCall_85 : decode cX5_tryCall 85 = .ok (.iconst 1, 1) := by decide +kernel
theorem dX5_tryCall_86 : decode cX5_tryCall 86 = .ok (.invokevirtual 192, 3) := by decide +kernel
theorem dX5_tryCall_89 : decode cX5_tryCall 89 = .ok (.ifCond .eq 20, 3) := by decide +kernel
theorem dX5_tryCall_92 : decode cX5_tryCall 92 = .ok (.aload_n 0, 1) := by decide +kernel
theorem dX5_tryCall_93 : decode cX5_tryCall 93 = .ok (.aload 4, 2) := by decide +kernel
theorem dX5_tryCall_95 : decode cX5_tryCall 95 = .ok (.getfield 92, 3) := by decide +kernel
theorem dX5_tryCall_98 : decode cX5_tryCall 98 = .ok (.iconst 1, 1) := by decide +kernel
theorem dX5_tryCall_99 : decode cX5_tryCall 99 = .ok (.invokevirtual 192, 3) := by decide +kernel
theorem dX5_tryCall_102 : decode cX5_tryCall 102 = .ok (.ifCond .eq 7, 3) := by decide +kernel
theorem dX5_tryCall_105 : decode cX5_tryCall 105 = .ok (.iconst 1, 1) := by decide +kernel
theorem dX5_tryCall_106 : decode cX5_tryCall 106 = .ok (.goto 4, 3) := by decide +kernel
theorem dX5_tryCall_109 : decode cX5_tryCall 109 = .ok (.iconst 0, 1) := by decide +kernel
theorem dX5_tryCall_110 : decode cX5_tryCall 110 = .ok (.istore 5, 2) := by decide +kernel
theorem dX5_tryCall_112 : decode cX5_tryCall 112 = .ok (.iload 5, 2) := by decide +kernel
theorem dX5_tryCall_114 : decode cX5_tryCall 114 = .ok (.ifCond .ne 6, 3) := by decide +kernel
theorem dX5_tryCall_117 : decode cX5_tryCall 117 = .ok (.bipush (-5), 2) := by decide +kernel
theorem dX5_tryCall_119 : decode cX5_tryCall 119 = .ok (.ireturn, 1) := by decide +kernel
theorem dX5_tryCall_120 : decode cX5_tryCall 120 = .ok (.aload_n 3, 1) := by decide +kernel
theorem dX5_tryCall_121 : decode cX5_tryCall 121 = .ok (.getfield 211, 3) := by decide +kernel
theorem dX5_tryCall_124 : decode cX5_tryCall 124 = .ok (.iconst 3, 1) := by decide +kernel
theorem dX5_tryCall_125 : decode cX5_tryCall 125 = .ok (.if_icmp .ge 6, 3) := by decide +kernel
theorem dX5_tryCall_128 : decode cX5_tryCall 128 = .ok (.bipush (-6), 2) := by decide +kernel
theorem dX5_tryCall_130 : decode cX5_tryCall 130 = .ok (.ireturn, 1) := by decide +kernel
theorem dX5_tryCall_131 : decode cX5_tryCall 131 = .ok (.aload_n 0, 1) := by decide +kernel
theorem dX5_tryCall_132 : decode cX5_tryCall 132 = .ok (.aload_n 0, 1) := by decide +kernel
theorem dX5_tryCall_133 : decode cX5_tryCall 133 = .ok (.getfield 31, 3) := by decide +kernel
theorem dX5_tryCall_136 : decode cX5_tryCall 136 = .ok (.aload_n 0, 1) := by decide +kernel
theorem dX5_tryCall_137 : decode cX5_tryCall 137 = .ok (.getfield 44, 3) := by decide +kernel
theorem dX5_tryCall_140 : decode cX5_tryCall 140 = .ok (.aaload, 1) := by decide +kernel
theorem dX5_tryCall_141 : decode cX5_tryCall 141 = .ok (.getfield 122, 3) := by decide +kernel
theorem dX5_tryCall_144 : decode cX5_tryCall 144 = .ok (.iload_n 1, 1) := by decide +kernel
theorem dX5_tryCall_145 : decode cX5_tryCall 145 = .ok (.invokevirtual 237, 3) := by decide +kernel
theorem dX5_tryCall_148 : decode cX5_tryCall 148 = .ok (.aload_n 0, 1) := by decide +kernel
theorem dX5_tryCall_149 : decode cX5_tryCall 149 = .ok (.aload_n 0, 1) := by decide +kernel
theorem dX5_tryCall_150 : decode cX5_tryCall 150 = .ok (.getfield 31, 3) := by decide +kernel
theorem dX5_tryCall_153 : decode cX5_tryCall 153 = .ok (.aload_n 0, 1) := by decide +kernel
theorem dX5_tryCall_154 : decode cX5_tryCall 154 = .ok (.getfield 44, 3) := by decide +kernel
theorem dX5_tryCall_157 : decode cX5_tryCall 157 = .ok (.aaload, 1) := by decide +kernel
theorem dX5_tryCall_158 : decode cX5_tryCall 158 = .ok (.getfield 130, 3) := by decide +kernel
theorem dX5_tryCall_161 : decode cX5_tryCall 161 = .ok (.iload_n 2, 1) := by decide +kernel
theorem dX5_tryCall_162 : decode cX5_tryCall 162 = .ok (.invokevirtual 237, 3) := by decide +kernel
theorem dX5_tryCall_165 : decode cX5_tryCall 165 = .ok (.aload_n 0, 1) := by decide +kernel
theorem dX5_tryCall_166 : decode cX5_tryCall 166 = .ok (.dup, 1) := by decide +kernel
theorem dX5_tryCall_167 : decode cX5_tryCall 167 = .ok (.getfield 44, 3) := by decide +kernel
theorem dX5_tryCall_170 : decode cX5_tryCall 170 = .ok (.iconst 1, 1) := by decide +kernel
theorem dX5_tryCall_171 : decode cX5_tryCall 171 = .ok (.iadd, 1) := by decide +kernel
theorem dX5_tryCall_172 : decode cX5_tryCall 172 = .ok (.putfield 44, 3) := by decide +kernel
theorem dX5_tryCall_175 : decode cX5_tryCall 175 = .ok (.aload_n 0, 1) := by decide +kernel
theorem dX5_tryCall_176 : decode cX5_tryCall 176 = .ok (.getfield 44, 3) := by decide +kernel
theorem dX5_tryCall_179 : decode cX5_tryCall 179 = .ok (.iconst 1, 1) := by decide +kernel
theorem dX5_tryCall_180 : decode cX5_tryCall 180 = .ok (.isub, 1) := by decide +kernel
theorem dX5_tryCall_181 : decode cX5_tryCall 181 = .ok (.ireturn, 1) := by decide +kernel
theorem dX5_tryEmergency_0 : decode cX5_tryEmergency 0 = .ok (.aload_n 0, 1) := by decide +kernel
theorem dX5_tryEmergency_1 : decode cX5_tryEmergency 1 = .ok (.getfield 24, 3) := by decide +kernel
theorem dX5_tryEmergency_4 : decode cX5_tryEmergency 4 = .ok (.iload_n 1, 1) := by decide +kernel
theorem dX5_tryEmergency_5 : decode cX5_tryEmergency 5 = .ok (.aaload, 1) := by decide +kernel
theorem dX5_tryEmergency_6 : decode cX5_tryEmergency 6 = .ok (.astore_n 2, 1) := by decide +kernel
theorem dX5_tryEmergency_7 : decode cX5_tryEmergency 7 = .ok (.aload_n 2, 1) := by decide +kernel
theorem dX5_tryEmergency_8 : decode cX5_tryEmergency 8 = .ok (.invokevirtual 112, 3) := by decide +kernel
theorem dX5_tryEmergency_11 : decode cX5_tryEmergency 11 = .ok (.ifCond .eq 11, 3) := by decide +kernel
theorem dX5_tryEmergency_14 : decode cX5_tryEmergency 14 = .ok (.aload_n 2, 1) := by decide +kernel
theorem dX5_tryEmergency_15 : decode cX5_tryEmergency 15 = .ok (.getfield 92, 3) := by decide +kernel
theorem dX5_tryEmergency_18 : decode cX5_tryEmergency 18 = .ok (.iconst (-1), 1) := by decide +kernel
theorem dX5_tryEmergency_19 : decode cX5_tryEmergency 19 = .ok (.if_icmp .ne 6, 3) := by decide +kernel
theorem dX5_tryEmergency_22 : decode cX5_tryEmergency 22 = .ok (.bipush (-2), 2) := by decide +kernel
theorem dX5_tryEmergency_24 : decode cX5_tryEmergency 24 = .ok (.ireturn, 1) := by decide +kernel
theorem dX5_tryEmergency_25 : decode cX5_tryEmergency 25 = .ok (.aload_n 0, 1) := by decide +kernel
theorem dX5_tryEmergency_26 : decode cX5_tryEmergency 26 = .ok (.aload_n 2, 1) := by decide +kernel
theorem dX5_tryEmergency_27 : decode cX5_tryEmergency 27 = .ok (.getfield 92, 3) := by decide +kernel
theorem dX5_tryEmergency_30 : decode cX5_tryEmergency 30 = .ok (.iconst 1, 1) := by decide +kernel
theorem dX5_tryEmergency_31 : decode cX5_tryEmergency 31 = .ok (.invokevirtual 192, 3) := by decide +kernel
theorem dX5_tryEmergency_34 : decode cX5_tryEmergency 34 = .ok (.ifCond .ne 31, 3) := by decide +kernel
theorem dX5_tryEmergency_37 : decode cX5_tryEmergency 37 = .ok (.aload_n 0, 1) := by decide +kernel
theorem dX5_tryEmergency_38 : decode cX5_tryEmergency 38 = .ok (.aload_n 2, 1) := by decide +kernel
theorem dX5_tryEmergency_39 : decode cX5_tryEmergency 39 = .ok (.getfield 92, 3) := by decide +kernel
theorem dX5_tryEmergency_42 : decode cX5_tryEmergency 42 = .ok (.invokevirtual 241, 3) := by decide +kernel
theorem dX5_tryEmergency_45 : decode cX5_tryEmergency 45 = .ok (.istore_n 3, 1) := by decide +kernel
theorem dX5_tryEmergency_46 : decode cX5_tryEmergency 46 = .ok (.iload_n 3, 1) := by decide +kernel
theorem dX5_tryEmergency_47 : decode cX5_tryEmergency 47 = .ok (.iconst (-1), 1) := by decide +kernel
theorem dX5_tryEmergency_48 : decode cX5_tryEmergency 48 = .ok (.if_icmp .ne 6, 3) := by decide +kernel
theorem dX5_tryEmergency_51 : decode cX5_tryEmergency 51 = .ok (.bipush (-5), 2) := by decide +kernel
theorem dX5_tryEmergency_53 : decode cX5_tryEmergency 53 = .ok (.ireturn, 1) := by decide +kernel
theorem dX5_tryEmergency_54 : decode cX5_tryEmergency 54 = .ok (.aload_n 0, 1) := by decide +kernel
theorem dX5_tryEmergency_55 : decode cX5_tryEmergency 55 = .ok (.aload_n 0, 1) := by decide +kernel
theorem dX5_tryEmergency_56 : decode cX5_tryEmergency 56 = .ok (.getfield 31, 3) := by decide +kernel
theorem dX5_tryEmergency_59 : decode cX5_tryEmergency 59 = .ok (.iload_n 3, 1) := by decide +kernel
theorem dX5_tryEmergency_60 : decode cX5_tryEmergency 60 = .ok (.aaload, 1) := by decide +kernel
theorem dX5_tryEmergency_61 : decode cX5_tryEmergency 61 = .ok (.iconst 4, 1) := by decide +kernel
theorem dX5_tryEmergency_62 : decode cX5_tryEmergency 62 = .ok (.invokevirtual 185, 3) := by decide +kernel
theorem dX5_tryEmergency_65 : decode cX5_tryEmergency 65 = .ok (.aload_n 0, 1) := by decide +kernel
theorem dX5_tryEmergency_66 : decode cX5_tryEmergency 66 = .ok (.aload_n 0, 1) := by decide +kernel
theorem dX5_tryEmergency_67 : decode cX5_tryEmergency 67 = .ok (.getfield 31, 3) := by decide +kernel
theorem dX5_tryEmergency_70 : decode cX5_tryEmergency 70 = .ok (.aload_n 0, 1) := by decide +kernel
theorem dX5_tryEmergency_71 : decode cX5_tryEmergency 71 = .ok (.getfield 44, 3) := by decide +kernel
theorem dX5_tryEmergency_74 : decode cX5_tryEmergency 74 = .ok (.aaload, 1) := by decide +kernel
theorem dX5_tryEmergency_75 : decode cX5_tryEmergency 75 = .ok (.getfield 122, 3) := by decide +kernel
theorem dX5_tryEmergency_78 : decode cX5_tryEmergency 78 = .ok (.iload_n 1, 1) := by decide +kernel
theorem dX5_tryEmergency_79 : decode cX5_tryEmergency 79 = .ok (.invokevirtual 237, 3) := by decide +kernel
theorem dX5_tryEmergency_82 : decode cX5_tryEmergency 82 = .ok (.aload_n 0, 1) := by decide +kernel
theorem dX5_tryEmergency_83 : decode cX5_tryEmergency 83 = .ok (.dup, 1) := by decide +kernel
theorem dX5_tryEmergency_84 : decode cX5_tryEmergency 84 = .ok (.getfield 44, 3) := by decide +kernel
theorem dX5_tryEmergency_87 : decode cX5_tryEmergency 87 = .ok (.iconst 1, 1) := by decide +kernel
theorem dX5_tryEmergency_88 : decode cX5_tryEmergency 88 = .ok (.iadd, 1) := by decide +kernel
theorem dX5_tryEmergency_89 : decode cX5_tryEmergency 89 = .ok (.putfield 44, 3) := by decide +kernel
theorem dX5_tryEmergency_92 : decode cX5_tryEmergency 92 = .ok (.aload_n 0, 1) := by decide +kernel
theorem dX5_tryEmergency_93 : decode cX5_tryEmergency 93 = .ok (.getfield 44, 3) := by decide +kernel
theorem dX5_tryEmergency_96 : decode cX5_tryEmergency 96 = .ok (.iconst 1, 1) := by decide +kernel
theorem dX5_tryEmergency_97 : decode cX5_tryEmergency 97 = .ok (.isub, 1) := by decide +kernel
theorem dX5_tryEmergency_98 : decode cX5_tryEmergency 98 = .ok (.ireturn, 1) := by decide +kernel
theorem dX5_join_0 : decode cX5_join 0 = .ok (.aload_n 1, 1) := by decide +kernel
theorem dX5_join_1 : decode cX5_join 1 = .ok (.iload_n 2, 1) := by decide +kernel
theorem dX5_join_2 : decode cX5_join 2 = .ok (.putfield 160, 3) := by decide +kernel
theorem dX5_join_5 : decode cX5_join 5 = .ok (.aload_n 1, 1) := by decide +kernel
theorem dX5_join_6 : decode cX5_join 6 = .ok (.aload_n 0, 1) := by decide +kernel
theorem dX5_join_7 : decode cX5_join 7 = .ok (.getfield 24, 3) := by decide +kernel
theorem dX5_join_10 : decode cX5_join 10 = .ok (.iload_n 2, 1) := by decide +kernel
theorem dX5_join_11 : decode cX5_join 11 = .ok (.aaload, 1) := by decide +kernel
theorem dX5_join_12 : decode cX5_join 12 = .ok (.getfield 92, 3) := by decide +kernel
theorem dX5_join_15 : decode cX5_join 15 = .ok (.putfield 163, 3) := by decide +kernel
theorem dX5_join_18 : decode cX5_join 18 = .ok (.aload_n 0, 1) := by decide +kernel
theorem dX5_join_19 : decode cX5_join 19 = .ok (.getfield 15, 3) := by decide +kernel
theorem dX5_join_22 : decode cX5_join 22 = .ok (.aload_n 1, 1) := by decide +kernel
theorem dX5_join_23 : decode cX5_join 23 = .ok (.getfield 163, 3) := by decide +kernel
theorem dX5_join_26 : decode cX5_join 26 = .ok (.dup2, 1) := by decide +kernel
theorem dX5_join_27 : decode cX5_join 27 = .ok (.iaload, 1) := by decide +kernel
theorem dX5_join_28 : decode cX5_join 28 = .ok (.iconst 1, 1) := by decide +kernel
theorem dX5_join_29 : decode cX5_join 29 = .ok (.iadd, 1) := by decide +kernel
theorem dX5_join_30 : decode cX5_join 30 = .ok (.iastore, 1) := by decide +kernel
theorem dX5_join_31 : decode cX5_join 31 = .ok (.aload_n 0, 1) := by decide +kernel
theorem dX5_join_32 : decode cX5_join 32 = .ok (.getfield 24, 3) := by decide +kernel
theorem dX5_join_35 : decode cX5_join 35 = .ok (.iload_n 2, 1) := by decide +kernel
theorem dX5_join_36 : decode cX5_join 36 = .ok (.aaload, 1) := by decide +kernel
theorem dX5_join_37 : decode cX5_join 37 = .ok (.aload_n 0, 1) := by decide +kernel
theorem dX5_join_38 : decode cX5_join 38 = .ok (.getfield 44, 3) := by decide +kernel
theorem dX5_join_41 : decode cX5_join 41 = .ok (.putfield 244, 3) := by decide +kernel
theorem dX5_join_44 : decode cX5_join 44 = .ok (.return_, 1) := by decide +kernel
theorem dX5_callToPush_0 : decode cX5_callToPush 0 = .ok (.aload_n 0, 1) := by decide +kernel
theorem dX5_callToPush_1 : decode cX5_callToPush 1 = .ok (.getfield 44, 3) := by decide +kernel
theorem dX5_callToPush_4 : decode cX5_callToPush 4 = .ok (.iconst 1, 1) := by decide +kernel
theorem dX5_callToPush_5 : decode cX5_callToPush 5 = .ok (.isub, 1) := by decide +kernel
theorem dX5_callToPush_6 : decode cX5_callToPush 6 = .ok (.istore_n 2, 1) := by decide +kernel
theorem dX5_callToPush_7 : decode cX5_callToPush 7 = .ok (.iload_n 2, 1) := by decide +kernel
theorem dX5_callToPush_8 : decode cX5_callToPush 8 = .ok (.ifCond .lt 43, 3) := by decide +kernel
theorem dX5_callToPush_11 : decode cX5_callToPush 11 = .ok (.aload_n 0, 1) := by decide +kernel
theorem dX5_callToPush_12 : decode cX5_callToPush 12 = .ok (.getfield 31, 3) := by decide +kernel
theorem dX5_callToPush_15 : decode cX5_callToPush 15 = .ok (.iload_n 2, 1) := by decide +kernel
theorem dX5_callToPush_16 : decode cX5_callToPush 16 = .ok (.aaload, 1) := by decide +kernel
theorem dX5_callToPush_17 : decode cX5_callToPush 17 = .ok (.astore_n 3, 1) := by decide +kernel
theorem dX5_callToPush_18 : decode cX5_callToPush 18 = .ok (.aload_n 3, 1) := by decide +kernel
theorem dX5_callToPush_19 : decode cX5_callToPush 19 = .ok (.getfield 152, 3) := by decide +kernel
theorem dX5_callToPush_22 : decode cX5_callToPush 22 = .ok (.ifCond .ne 23, 3) := by decide +kernel
theorem dX5_callToPush_25 : decode cX5_callToPush 25 = .ok (.aload_n 3, 1) := by decide +kernel
theorem dX5_callToPush_26 : decode cX5_callToPush 26 = .ok (.getfield 130, 3) := by decide +kernel
theorem dX5_callToPush_29 : decode cX5_callToPush 29 = .ok (.invokevirtual 155, 3) := by decide +kernel
theorem dX5_callToPush_32 : decode cX5_callToPush 32 = .ok (.ifCond .eq 13, 3) := by decide +kernel
theorem dX5_callToPush_35 : decode cX5_callToPush 35 = .ok (.aload_n 3, 1) := by decide +kernel
theorem dX5_callToPush_36 : decode cX5_callToPush 36 = .ok (.iload_n 1, 1) := by decide +kernel
theorem dX5_callToPush_37 : decode cX5_callToPush 37 = .ok (.invokevirtual 247, 3) := by decide +kernel
theorem dX5_callToPush_40 : decode cX5_callToPush 40 = .ok (.ifCond .eq 5, 3) := by decide +kernel
theorem dX5_callToPush_43 : decode cX5_callToPush 43 = .ok (.iload_n 2, 1) := by decide +kernel
theorem dX5_callToPush_44 : decode cX5_callToPush 44 = .ok (.ireturn, 1) := by decide +kernel
theorem dX5_callToPush_45 : decode cX5_callToPush 45 = .ok (.iinc 2 (-1), 3) := by decide +kernel
theorem dX5_callToPush_48 : decode cX5_callToPush 48 = .ok (.goto (-41), 3) := by decide +kernel
theorem dX5_callToPush_51 : decode cX5_callToPush 51 = .ok (.iconst (-1), 1) := by decide +kernel
theorem dX5_callToPush_52 : decode cX5_callToPush 52 = .ok (.ireturn, 1) := by decide +kernel
theorem dX5_end_0 : decode cX5_end 0 = .ok (.aload_n 1, 1) := by decide +kernel
theorem dX5_end_1 : decode cX5_end 1 = .ok (.iload_n 2, 1) := by decide +kernel
theorem dX5_end_2 : decode cX5_end 2 = .ok (.putfield 152, 3) := by decide +kernel
theorem dX5_end_5 : decode cX5_end 5 = .ok (.aload_n 1, 1) := by decide +kernel
theorem dX5_end_6 : decode cX5_end 6 = .ok (.getfield 122, 3) := by decide +kernel
theorem dX5_end_9 : decode cX5_end 9 = .ok (.invokevirtual 155, 3) := by decide +kernel
theorem dX5_end_12 : decode cX5_end 12 = .ok (.ifCond .eq 11, 3) := by decide +kernel
theorem dX5_end_15 : decode cX5_end 15 = .ok (.aload_n 0, 1) := by decide +kernel
theorem dX5_end_16 : decode cX5_end 16 = .ok (.aload_n 1, 1) := by decide +kernel
theorem dX5_end_17 : decode cX5_end 17 = .ok (.getfield 122, 3) := by decide +kernel
theorem dX5_end_20 : decode cX5_end 20 = .ok (.invokevirtual 251, 3) := by decide +kernel
theorem dX5_end_23 : decode cX5_end 23 = .ok (.aload_n 1, 1) := by decide +kernel
theorem dX5_end_24 : decode cX5_end 24 = .ok (.getfield 130, 3) := by decide +kernel
theorem dX5_end_27 : decode cX5_end 27 = .ok (.invokevirtual 155, 3) := by decide +kernel
theorem dX5_end_30 : decode cX5_end 30 = .ok (.ifCond .eq 11, 3) := by decide +kernel
theorem dX5_end_33 : decode cX5_end 33 = .ok (.aload_n 0, 1) := by decide +kernel
theorem dX5_end_34 : decode cX5_end 34 = .ok (.aload_n 1, 1) := by decide +kernel
theorem dX5_end_35 : decode cX5_end 35 = .ok (.getfield 130, 3) := by decide +kernel
theorem dX5_end_38 : decode cX5_end 38 = .ok (.invokevirtual 251, 3) := by decide +kernel
theorem dX5_end_41 : decode cX5_end 41 = .ok (.return_, 1) := by decide +kernel
theorem dX5_release_0 : decode cX5_release 0 = .ok (.aload_n 0, 1) := by decide +kernel
theorem dX5_release_1 : decode cX5_release 1 = .ok (.getfield 15, 3) := by decide +kernel
theorem dX5_release_4 : decode cX5_release 4 = .ok (.aload_n 1, 1) := by decide +kernel
theorem dX5_release_5 : decode cX5_release 5 = .ok (.getfield 163, 3) := by decide +kernel
theorem dX5_release_8 : decode cX5_release 8 = .ok (.dup2, 1) := by decide +kernel
theorem dX5_release_9 : decode cX5_release 9 = .ok (.iaload, 1) := by decide +kernel
theorem dX5_release_10 : decode cX5_release 10 = .ok (.iconst 1, 1) := by decide +kernel
theorem dX5_release_11 : decode cX5_release 11 = .ok (.isub, 1) := by decide +kernel
theorem dX5_release_12 : decode cX5_release 12 = .ok (.iastore, 1) := by decide +kernel
theorem dX5_release_13 : decode cX5_release 13 = .ok (.aload_n 0, 1) := by decide +kernel
theorem dX5_release_14 : decode cX5_release 14 = .ok (.getfield 24, 3) := by decide +kernel
theorem dX5_release_17 : decode cX5_release 17 = .ok (.aload_n 1, 1) := by decide +kernel
theorem dX5_release_18 : decode cX5_release 18 = .ok (.getfield 160, 3) := by decide +kernel
theorem dX5_release_21 : decode cX5_release 21 = .ok (.aaload, 1) := by decide +kernel
theorem dX5_release_22 : decode cX5_release 22 = .ok (.iconst (-1), 1) := by decide +kernel
theorem dX5_release_23 : decode cX5_release 23 = .ok (.putfield 244, 3) := by decide +kernel
theorem dX5_release_26 : decode cX5_release 26 = .ok (.return_, 1) := by decide +kernel
theorem dX5_switchOff_0 : decode cX5_switchOff 0 = .ok (.aload_n 1, 1) := by decide +kernel
theorem dX5_switchOff_1 : decode cX5_switchOff 1 = .ok (.getfield 244, 3) := by decide +kernel
theorem dX5_switchOff_4 : decode cX5_switchOff 4 = .ok (.iconst (-1), 1) := by decide +kernel
theorem dX5_switchOff_5 : decode cX5_switchOff 5 = .ok (.if_icmp .eq 17, 3) := by decide +kernel
theorem dX5_switchOff_8 : decode cX5_switchOff 8 = .ok (.aload_n 0, 1) := by decide +kernel
theorem dX5_switchOff_9 : decode cX5_switchOff 9 = .ok (.aload_n 0, 1) := by decide +kernel
theorem dX5_switchOff_10 : decode cX5_switchOff 10 = .ok (.getfield 31, 3) := by decide +kernel
theorem dX5_switchOff_13 : decode cX5_switchOff 13 = .ok (.aload_n 1, 1) := by decide +kernel
theorem dX5_switchOff_14 : decode cX5_switchOff 14 = .ok (.getfield 244, 3) := by decide +kernel
theorem dX5_switchOff_17 : decode cX5_switchOff 17 = .ok (.aaload, 1) := by decide +kernel
theorem dX5_switchOff_18 : decode cX5_switchOff 18 = .ok (.iconst 1, 1) := by decide +kernel
theorem dX5_switchOff_19 : decode cX5_switchOff 19 = .ok (.invokevirtual 185, 3) := by decide +kernel
theorem dX5_switchOff_22 : decode cX5_switchOff 22 = .ok (.aload_n 1, 1) := by decide +kernel
theorem dX5_switchOff_23 : decode cX5_switchOff 23 = .ok (.iconst (-1), 1) := by decide +kernel
theorem dX5_switchOff_24 : decode cX5_switchOff 24 = .ok (.putfield 92, 3) := by decide +kernel
theorem dX5_switchOff_27 : decode cX5_switchOff 27 = .ok (.return_, 1) := by decide +kernel
theorem dX5_sendAway_0 : decode cX5_sendAway 0 = .ok (.iconst 0, 1) := by decide +kernel
theorem dX5_sendAway_1 : decode cX5_sendAway 1 = .ok (.istore_n 2, 1) := by decide +kernel
theorem dX5_sendAway_2 : decode cX5_sendAway 2 = .ok (.iload_n 2, 1) := by decide +kernel
theorem dX5_sendAway_3 : decode cX5_sendAway 3 = .ok (.aload_n 0, 1) := by decide +kernel
theorem dX5_sendAway_4 : decode cX5_sendAway 4 = .ok (.getfield 36, 3) := by decide +kernel
theorem dX5_sendAway_7 : decode cX5_sendAway 7 = .ok (.if_icmp .ge 32, 3) := by decide +kernel
theorem dX5_sendAway_10 : decode cX5_sendAway 10 = .ok (.aload_n 0, 1) := by decide +kernel
theorem dX5_sendAway_11 : decode cX5_sendAway 11 = .ok (.getfield 24, 3) := by decide +kernel
theorem dX5_sendAway_14 : decode cX5_sendAway 14 = .ok (.iload_n 2, 1) := by decide +kernel
theorem dX5_sendAway_15 : decode cX5_sendAway 15 = .ok (.aaload, 1) := by decide +kernel
theorem dX5_sendAway_16 : decode cX5_sendAway 16 = .ok (.getfield 92, 3) := by decide +kernel
theorem dX5_sendAway_19 : decode cX5_sendAway 19 = .ok (.iload_n 1, 1) := by decide +kernel
theorem dX5_sendAway_20 : decode cX5_sendAway 20 = .ok (.if_icmp .ne 13, 3) := by decide +kernel
theorem dX5_sendAway_23 : decode cX5_sendAway 23 = .ok (.aload_n 0, 1) := by decide +kernel
theorem dX5_sendAway_24 : decode cX5_sendAway 24 = .ok (.getfield 24, 3) := by decide +kernel
theorem dX5_sendAway_27 : decode cX5_sendAway 27 = .ok (.iload_n 2, 1) := by decide +kernel
theorem dX5_sendAway_28 : decode cX5_sendAway 28 = .ok (.aaload, 1) := by decide +kernel
theorem dX5_sendAway_29 : decode cX5_sendAway 29 = .ok (.iconst (-1), 1) := by decide +kernel
theorem dX5_sendAway_30 : decode cX5_sendAway 30 = .ok (.putfield 92, 3) := by decide +kernel
theorem dX5_sendAway_33 : decode cX5_sendAway 33 = .ok (.iinc 2 1, 3) := by decide +kernel
theorem dX5_sendAway_36 : decode cX5_sendAway 36 = .ok (.goto (-34), 3) := by decide +kernel
theorem dX5_sendAway_39 : decode cX5_sendAway 39 = .ok (.return_, 1) := by decide +kernel
theorem dX5_campersOn_0 : decode cX5_campersOn 0 = .ok (.iconst 0, 1) := by decide +kernel
theorem dX5_campersOn_1 : decode cX5_campersOn 1 = .ok (.istore_n 2, 1) := by decide +kernel
theorem dX5_campersOn_2 : decode cX5_campersOn 2 = .ok (.iconst 0, 1) := by decide +kernel
theorem dX5_campersOn_3 : decode cX5_campersOn 3 = .ok (.istore_n 3, 1) := by decide +kernel
theorem dX5_campersOn_4 : decode cX5_campersOn 4 = .ok (.iload_n 3, 1) := by decide +kernel
theorem dX5_campersOn_5 : decode cX5_campersOn 5 = .ok (.aload_n 0, 1) := by decide +kernel
theorem dX5_campersOn_6 : decode cX5_campersOn 6 = .ok (.getfield 36, 3) := by decide +kernel
theorem dX5_campersOn_9 : decode cX5_campersOn 9 = .ok (.if_icmp .ge 37, 3) := by decide +kernel
theorem dX5_campersOn_12 : decode cX5_campersOn 12 = .ok (.aload_n 0, 1) := by decide +kernel
theorem dX5_campersOn_13 : decode cX5_campersOn 13 = .ok (.getfield 24, 3) := by decide +kernel
theorem dX5_campersOn_16 : decode cX5_campersOn 16 = .ok (.iload_n 3, 1) := by decide +kernel
theorem dX5_campersOn_17 : decode cX5_campersOn 17 = .ok (.aaload, 1) := by decide +kernel
theorem dX5_campersOn_18 : decode cX5_campersOn 18 = .ok (.invokevirtual 112, 3) := by decide +kernel
theorem dX5_campersOn_21 : decode cX5_campersOn 21 = .ok (.ifCond .eq 19, 3) := by decide +kernel
theorem dX5_campersOn_24 : decode cX5_campersOn 24 = .ok (.aload_n 0, 1) := by decide +kernel
theorem dX5_campersOn_25 : decode cX5_campersOn 25 = .ok (.getfield 24, 3) := by decide +kernel
theorem dX5_campersOn_28 : decode cX5_campersOn 28 = .ok (.iload_n 3, 1) := by decide +kernel
theorem dX5_campersOn_29 : decode cX5_campersOn 29 = .ok (.aaload, 1) := by decide +kernel
theorem dX5_campersOn_30 : decode cX5_campersOn 30 = .ok (.getfield 92, 3) := by decide +kernel
theorem dX5_campersOn_33 : decode cX5_campersOn 33 = .ok (.iload_n 1, 1) := by decide +kernel
theorem dX5_campersOn_34 : decode cX5_campersOn 34 = .ok (.if_icmp .ne 6, 3) := by decide +kernel
theorem dX5_campersOn_37 : decode cX5_campersOn 37 = .ok (.iinc 2 1, 3) := by decide +kernel
theorem dX5_campersOn_40 : decode cX5_campersOn 40 = .ok (.iinc 3 1, 3) := by decide +kernel
theorem dX5_campersOn_43 : decode cX5_campersOn 43 = .ok (.goto (-39), 3) := by decide +kernel
theorem dX5_campersOn_46 : decode cX5_campersOn 46 = .ok (.iload_n 2, 1) := by decide +kernel
theorem dX5_campersOn_47 : decode cX5_campersOn 47 = .ok (.ireturn, 1) := by decide +kernel
theorem dX5_callsThat_0 : decode cX5_callsThat 0 = .ok (.iconst 0, 1) := by decide +kernel
theorem dX5_callsThat_1 : decode cX5_callsThat 1 = .ok (.istore_n 2, 1) := by decide +kernel
theorem dX5_callsThat_2 : decode cX5_callsThat 2 = .ok (.iconst 0, 1) := by decide +kernel
theorem dX5_callsThat_3 : decode cX5_callsThat 3 = .ok (.istore_n 3, 1) := by decide +kernel
theorem dX5_callsThat_4 : decode cX5_callsThat 4 = .ok (.iload_n 3, 1) := by decide +kernel
theorem dX5_callsThat_5 : decode cX5_callsThat 5 = .ok (.aload_n 0, 1) := by decide +kernel
theorem dX5_callsThat_6 : decode cX5_callsThat 6 = .ok (.getfield 44, 3) := by decide +kernel
theorem dX5_callsThat_9 : decode cX5_callsThat 9 = .ok (.if_icmp .ge 25, 3) := by decide +kernel
theorem dX5_callsThat_12 : decode cX5_callsThat 12 = .ok (.aload_n 0, 1) := by decide +kernel
theorem dX5_callsThat_13 : decode cX5_callsThat 13 = .ok (.getfield 31, 3) := by decide +kernel
theorem dX5_callsThat_16 : decode cX5_callsThat 16 = .ok (.iload_n 3, 1) := by decide +kernel
theorem dX5_callsThat_17 : decode cX5_callsThat 17 = .ok (.aaload, 1) := by decide +kernel
theorem dX5_callsThat_18 : decode cX5_callsThat 18 = .ok (.getfield 152, 3) := by decide +kernel
theorem dX5_callsThat_21 : decode cX5_callsThat 21 = .ok (.iload_n 1, 1) := by decide +kernel
theorem dX5_callsThat_22 : decode cX5_callsThat 22 = .ok (.if_icmp .ne 6, 3) := by decide +kernel
theorem dX5_callsThat_25 : decode cX5_callsThat 25 = .ok (.iinc 2 1, 3) := by decide +kernel
theorem dX5_callsThat_28 : decode cX5_callsThat 28 = .ok (.iinc 3 1, 3) := by decide +kernel
theorem dX5_callsThat_31 : decode cX5_callsThat 31 = .ok (.goto (-27), 3) := by decide +kernel
theorem dX5_callsThat_34 : decode cX5_callsThat 34 = .ok (.iload_n 2, 1) := by decide +kernel
theorem dX5_callsThat_35 : decode cX5_callsThat 35 = .ok (.ireturn, 1) := by decide +kernel
theorem dX5_sumOfCalls_0 : decode cX5_sumOfCalls 0 = .ok (.iconst 0, 1) := by decide +kernel
theorem dX5_sumOfCalls_1 : decode cX5_sumOfCalls 1 = .ok (.istore_n 2, 1) := by decide +kernel
theorem dX5_sumOfCalls_2 : decode cX5_sumOfCalls 2 = .ok (.iconst 0, 1) := by decide +kernel
theorem dX5_sumOfCalls_3 : decode cX5_sumOfCalls 3 = .ok (.istore_n 3, 1) := by decide +kernel
theorem dX5_sumOfCalls_4 : decode cX5_sumOfCalls 4 = .ok (.iload_n 3, 1) := by decide +kernel
theorem dX5_sumOfCalls_5 : decode cX5_sumOfCalls 5 = .ok (.aload_n 0, 1) := by decide +kernel
theorem dX5_sumOfCalls_6 : decode cX5_sumOfCalls 6 = .ok (.getfield 44, 3) := by decide +kernel
theorem dX5_sumOfCalls_9 : decode cX5_sumOfCalls 9 = .ok (.if_icmp .ge 22, 3) := by decide +kernel
theorem dX5_sumOfCalls_12 : decode cX5_sumOfCalls 12 = .ok (.iload_n 2, 1) := by decide +kernel
theorem dX5_sumOfCalls_13 : decode cX5_sumOfCalls 13 = .ok (.aload_n 0, 1) := by decide +kernel
theorem dX5_sumOfCalls_14 : decode cX5_sumOfCalls 14 = .ok (.getfield 31, 3) := by decide +kernel
theorem dX5_sumOfCalls_17 : decode cX5_sumOfCalls 17 = .ok (.iload_n 3, 1) := by decide +kernel
theorem dX5_sumOfCalls_18 : decode cX5_sumOfCalls 18 = .ok (.aaload, 1) := by decide +kernel
theorem dX5_sumOfCalls_19 : decode cX5_sumOfCalls 19 = .ok (.iload_n 1, 1) := by decide +kernel
theorem dX5_sumOfCalls_20 : decode cX5_sumOfCalls 20 = .ok (.invokevirtual 254, 3) := by decide +kernel
theorem dX5_sumOfCalls_23 : decode cX5_sumOfCalls 23 = .ok (.iadd, 1) := by decide +kernel
theorem dX5_sumOfCalls_24 : decode cX5_sumOfCalls 24 = .ok (.istore_n 2, 1) := by decide +kernel
theorem dX5_sumOfCalls_25 : decode cX5_sumOfCalls 25 = .ok (.iinc 3 1, 3) := by decide +kernel
theorem dX5_sumOfCalls_28 : decode cX5_sumOfCalls 28 = .ok (.goto (-24), 3) := by decide +kernel
theorem dX5_sumOfCalls_31 : decode cX5_sumOfCalls 31 = .ok (.iload_n 2, 1) := by decide +kernel
theorem dX5_sumOfCalls_32 : decode cX5_sumOfCalls 32 = .ok (.ireturn, 1) := by decide +kernel
theorem dX5_sumOfHandsets_0 : decode cX5_sumOfHandsets 0 = .ok (.iconst 0, 1) := by decide +kernel
theorem dX5_sumOfHandsets_1 : decode cX5_sumOfHandsets 1 = .ok (.istore_n 2, 1) := by decide +kernel
theorem dX5_sumOfHandsets_2 : decode cX5_sumOfHandsets 2 = .ok (.iconst 0, 1) := by decide +kernel
theorem dX5_sumOfHandsets_3 : decode cX5_sumOfHandsets 3 = .ok (.istore_n 3, 1) := by decide +kernel
theorem dX5_sumOfHandsets_4 : decode cX5_sumOfHandsets 4 = .ok (.iload_n 3, 1) := by decide +kernel
theorem dX5_sumOfHandsets_5 : decode cX5_sumOfHandsets 5 = .ok (.aload_n 0, 1) := by decide +kernel
theorem dX5_sumOfHandsets_6 : decode cX5_sumOfHandsets 6 = .ok (.getfield 36, 3) := by decide +kernel
theorem dX5_sumOfHandsets_9 : decode cX5_sumOfHandsets 9 = .ok (.if_icmp .ge 22, 3) := by decide +kernel
theorem dX5_sumOfHandsets_12 : decode cX5_sumOfHandsets 12 = .ok (.iload_n 2, 1) := by decide +kernel
theorem dX5_sumOfHandsets_13 : decode cX5_sumOfHandsets 13 = .ok (.aload_n 0, 1) := by decide +kernel
theorem dX5_sumOfHandsets_14 : decode cX5_sumOfHandsets 14 = .ok (.getfield 24, 3) := by decide +kernel
theorem dX5_sumOfHandsets_17 : decode cX5_sumOfHandsets 17 = .ok (.iload_n 3, 1) := by decide +kernel
theorem dX5_sumOfHandsets_18 : decode cX5_sumOfHandsets 18 = .ok (.aaload, 1) := by decide +kernel
theorem dX5_sumOfHandsets_19 : decode cX5_sumOfHandsets 19 = .ok (.iload_n 1, 1) := by decide +kernel
theorem dX5_sumOfHandsets_20 : decode cX5_sumOfHandsets 20 = .ok (.invokevirtual 257, 3) := by decide +kernel
theorem dX5_sumOfHandsets_23 : decode cX5_sumOfHandsets 23 = .ok (.iadd, 1) := by decide +kernel
theorem dX5_sumOfHandsets_24 : decode cX5_sumOfHandsets 24 = .ok (.istore_n 2, 1) := by decide +kernel
theorem dX5_sumOfHandsets_25 : decode cX5_sumOfHandsets 25 = .ok (.iinc 3 1, 3) := by decide +kernel
theorem dX5_sumOfHandsets_28 : decode cX5_sumOfHandsets 28 = .ok (.goto (-24), 3) := by decide +kernel
theorem dX5_sumOfHandsets_31 : decode cX5_sumOfHandsets 31 = .ok (.iload_n 2, 1) := by decide +kernel
theorem dX5_sumOfHandsets_32 : decode cX5_sumOfHandsets 32 = .ok (.ireturn, 1) := by decide +kernel
theorem dX5_secondsOfEndedCalls_0 : decode cX5_secondsOfEndedCalls 0 = .ok (.iconst 0, 1) := by decide +kernel
theorem dX5_secondsOfEndedCalls_1 : decode cX5_secondsOfEndedCalls 1 = .ok (.istore_n 1, 1) := by decide +kernel
theorem dX5_secondsOfEndedCalls_2 : decode cX5_secondsOfEndedCalls 2 = .ok (.iconst 0, 1) := by decide +kernel
theorem dX5_secondsOfEndedCalls_3 : decode cX5_secondsOfEndedCalls 3 = .ok (.istore_n 2, 1) := by decide +kernel
theorem dX5_secondsOfEndedCalls_4 : decode cX5_secondsOfEndedCalls 4 = .ok (.iload_n 2, 1) := by decide +kernel
theorem dX5_secondsOfEndedCalls_5 : decode cX5_secondsOfEndedCalls 5 = .ok (.aload_n 0, 1) := by decide +kernel
theorem dX5_secondsOfEndedCalls_6 : decode cX5_secondsOfEndedCalls 6 = .ok (.getfield 44, 3) := by decide +kernel
theorem dX5_secondsOfEndedCalls_9 : decode cX5_secondsOfEndedCalls 9 = .ok (.if_icmp .ge 33, 3) := by decide +kernel
theorem dX5_secondsOfEndedCalls_12 : decode cX5_secondsOfEndedCalls 12 = .ok (.aload_n 0, 1) := by decide +kernel
theorem dX5_secondsOfEndedCalls_13 : decode cX5_secondsOfEndedCalls 13 = .ok (.getfield 31, 3) := by decide +kernel
theorem dX5_secondsOfEndedCalls_16 : decode cX5_secondsOfEndedCalls 16 = .ok (.iload_n 2, 1) := by decide +kernel
theorem dX5_secondsOfEndedCalls_17 : decode cX5_secondsOfEndedCalls 17 = .ok (.aaload, 1) := by decide +kernel
theorem dX5_secondsOfEndedCalls_18 : decode cX5_secondsOfEndedCalls 18 = .ok (.getfield 152, 3) := by decide +kernel
theorem dX5_secondsOfEndedCalls_21 : decode cX5_secondsOfEndedCalls 21 = .ok (.ifCond .eq 15, 3) := by decide +kernel
theorem dX5_secondsOfEndedCalls_24 : decode cX5_secondsOfEndedCalls 24 = .ok (.iload_n 1, 1) := by decide +kernel
theorem dX5_secondsOfEndedCalls_25 : decode cX5_secondsOfEndedCalls 25 = .ok (.aload_n 0, 1) := by decide +kernel
theorem dX5_secondsOfEndedCalls_26 : decode cX5_secondsOfEndedCalls 26 = .ok (.getfield 31, 3) := by decide +kernel
theorem dX5_secondsOfEndedCalls_29 : decode cX5_secondsOfEndedCalls 29 = .ok (.iload_n 2, 1) := by decide +kernel
theorem dX5_secondsOfEndedCalls_30 : decode cX5_secondsOfEndedCalls 30 = .ok (.aaload, 1) := by decide +kernel
theorem dX5_secondsOfEndedCalls_31 : decode cX5_secondsOfEndedCalls 31 = .ok (.getfield 217, 3) := by decide +kernel
theorem dX5_secondsOfEndedCalls_34 : decode cX5_secondsOfEndedCalls 34 = .ok (.iadd, 1) := by decide +kernel
theorem dX5_secondsOfEndedCalls_35 : decode cX5_secondsOfEndedCalls 35 = .ok (.istore_n 1, 1) := by decide +kernel
theorem dX5_secondsOfEndedCalls_36 : decode cX5_secondsOfEndedCalls 36 = .ok (.iinc 2 1, 3) := by decide +kernel
theorem dX5_secondsOfEndedCalls_39 : decode cX5_secondsOfEndedCalls 39 = .ok (.goto (-35), 3) := by decide +kernel
theorem dX5_secondsOfEndedCalls_42 : decode cX5_secondsOfEndedCalls 42 = .ok (.iload_n 1, 1) := by decide +kernel
theorem dX5_secondsOfEndedCalls_43 : decode cX5_secondsOfEndedCalls 43 = .ok (.ireturn, 1) := by decide +kernel
theorem dX6_init_0 : decode cX6_init 0 = .ok (.aload_n 0, 1) := by decide +kernel
theorem dX6_init_1 : decode cX6_init 1 = .ok (.invokespecial 3, 3) := by decide +kernel
theorem dX6_init_4 : decode cX6_init 4 = .ok (.aload_n 0, 1) := by decide +kernel
theorem dX6_init_5 : decode cX6_init 5 = .ok (.bipush 100, 2) := by decide +kernel
theorem dX6_init_7 : decode cX6_init 7 = .ok (.newarray .int, 2) := by decide +kernel
theorem dX6_init_9 : decode cX6_init 9 = .ok (.putfield 9, 3) := by decide +kernel
theorem dX6_init_12 : decode cX6_init 12 = .ok (.aload_n 0, 1) := by decide +kernel
theorem dX6_init_13 : decode cX6_init 13 = .ok (.bipush 100, 2) := by decide +kernel
theorem dX6_init_15 : decode cX6_init 15 = .ok (.newarray .int, 2) := by decide +kernel
theorem dX6_init_17 : decode cX6_init 17 = .ok (.putfield 15, 3) := by decide +kernel
theorem dX6_init_20 : decode cX6_init 20 = .ok (.aload_n 0, 1) := by decide +kernel
theorem dX6_init_21 : decode cX6_init 21 = .ok (.bipush 100, 2) := by decide +kernel
theorem dX6_init_23 : decode cX6_init 23 = .ok (.newarray .int, 2) := by decide +kernel
theorem dX6_init_25 : decode cX6_init 25 = .ok (.putfield 18, 3) := by decide +kernel
theorem dX6_init_28 : decode cX6_init 28 = .ok (.return_, 1) := by decide +kernel
theorem dX6_take_0 : decode cX6_take 0 = .ok (.iconst 0, 1) := by decide +kernel
theorem dX6_take_1 : decode cX6_take 1 = .ok (.istore_n 3, 1) := by decide +kernel
theorem dX6_take_2 : decode cX6_take 2 = .ok (.iload_n 3, 1) := by decide +kernel
theorem dX6_take_3 : decode cX6_take 3 = .ok (.bipush 100, 2) := by decide +kernel
theorem dX6_take_5 : decode cX6_take 5 = .ok (.if_icmp .ge 64, 3) := by decide +kernel
theorem dX6_take_8 : decode cX6_take 8 = .ok (.aload_n 0, 1) := by decide +kernel
theorem dX6_take_9 : decode cX6_take 9 = .ok (.getfield 9, 3) := by decide +kernel
theorem dX6_take_12 : decode cX6_take 12 = .ok (.iload_n 3, 1) := by decide +kernel
theorem dX6_take_13 : decode cX6_take 13 = .ok (.sipush (-1000), 3) := by decide +kernel
theorem dX6_take_16 : decode cX6_take 16 = .ok (.iastore, 1) := by decide +kernel
theorem dX6_take_17 : decode cX6_take 17 = .ok (.aload_n 0, 1) := by decide +kernel
theorem dX6_take_18 : decode cX6_take 18 = .ok (.getfield 15, 3) := by decide +kernel
theorem dX6_take_21 : decode cX6_take 21 = .ok (.iload_n 3, 1) := by decide +kernel
theorem dX6_take_22 : decode cX6_take 22 = .ok (.sipush (-1000), 3) := by decide +kernel
theorem dX6_take_25 : decode cX6_take 25 = .ok (.iastore, 1) := by decide +kernel
theorem dX6_take_26 : decode cX6_take 26 = .ok (.aload_n 0, 1) := by decide +kernel
theorem dX6_take_27 : decode cX6_take 27 = .ok (.getfield 18, 3) := by decide +kernel
theorem dX6_take_30 : decode cX6_take 30 = .ok (.iload_n 3, 1) := by decide +kernel
theorem dX6_take_31 : decode cX6_take 31 = .ok (.iconst 0, 1) := by decide +kernel
theorem dX6_take_32 : decode cX6_take 32 = .ok (.iastore, 1) := by decide +kernel
theorem dX6_take_33 : decode cX6_take 33 = .ok (.iconst 0, 1) := by decide +kernel
theorem dX6_take_34 : decode cX6_take 34 = .ok (.istore 4, 2) := by decide +kernel
theorem dX6_take_36 : decode cX6_take 36 = .ok (.iload 4, 2) := by decide +kernel
theorem dX6_take_38 : decode cX6_take 38 = .ok (.aload_n 1, 1) := by decide +kernel
theorem dX6_take_39 : decode cX6_take 39 = .ok (.getfield 21, 3) := by decide +kernel
theorem dX6_take_42 : decode cX6_take 42 = .ok (.getfield 27, 3) := by decide +kernel
theorem dX6_take_45 : decode cX6_take 45 = .ok (.if_icmp .ge 18, 3) := by decide +kernel
theorem dX6_take_48 : decode cX6_take 48 = .ok (.aload_n 0, 1) := by decide +kernel
theorem dX6_take_49 : decode cX6_take 49 = .ok (.aload_n 1, 1) := by decide +kernel
theorem dX6_take_50 : decode cX6_take 50 = .ok (.iload 4, 2) := by decide +kernel
theorem dX6_take_52 : decode cX6_take 52 = .ok (.iload_n 2, 1) := by decide +kernel
theorem dX6_take_53 : decode cX6_take 53 = .ok (.iload_n 3, 1) := by decide +kernel
theorem dX6_take_54 : decode cX6_take 54 = .ok (.invokevirtual 33, 3) := by decide +kernel
theorem dX6_take_57 : decode cX6_take 57 = .ok (.iinc 4 1, 3) := by decide +kernel
theorem dX6_take_60 : decode cX6_take 60 = .ok (.goto (-24), 3) := by decide +kernel
theorem dX6_take_63 : decode cX6_take 63 = .ok (.iinc 3 1, 3) := by decide +kernel
theorem dX6_take_66 : decode cX6_take 66 = .ok (.goto (-64), 3) := by decide +kernel
theorem dX6_take_69 : decode cX6_take 69 = .ok (.return_, 1) := by decide +kernel
theorem dX6_takeMast_0 : decode cX6_takeMast 0 = .ok (.aload_n 1, 1) := by decide +kernel
theorem dX6_takeMast_1 : decode cX6_takeMast 1 = .ok (.getfield 21, 3) := by decide +kernel
theorem dX6_takeMast_4 : decode cX6_takeMast 4 = .ok (.getfield 37, 3) := by decide +kernel
theorem dX6_takeMast_7 : decode cX6_takeMast 7 = .ok (.iload_n 2, 1) := by decide +kernel
theorem dX6_takeMast_8 : decode cX6_takeMast 8 = .ok (.aaload, 1) := by decide +kernel
theorem dX6_takeMast_9 : decode cX6_takeMast 9 = .ok (.astore 5, 2) := by decide +kernel
theorem dX6_takeMast_11 : decode cX6_takeMast 11 = .ok (.aload_n 1, 1) := by decide +kernel
theorem dX6_takeMast_12 : decode cX6_takeMast 12 = .ok (.iload_n 2, 1) := by decide +kernel
theorem dX6_takeMast_13 : decode cX6_takeMast 13 = .ok (.iload 4, 2) := by decide +kernel
theorem dX6_takeMast_15 : decode cX6_takeMast 15 = .ok (.invokevirtual 41, 3) := by decide +kernel
theorem dX6_takeMast_18 : decode cX6_takeMast 18 = .ok (.istore 6, 2) := by decide +kernel
theorem dX6_takeMast_20 : decode cX6_takeMast 20 = .ok (.aload 5, 2) := by decide +kernel
theorem dX6_takeMast_22 : decode cX6_takeMast 22 = .ok (.getfield 45, 3) := by decide +kernel
theorem dX6_takeMast_25 : decode cX6_takeMast 25 = .ok (.iload_n 3, 1) := by decide +kernel
theorem dX6_takeMast_26 : decode cX6_takeMast 26 = .ok (.if_icmp .ne 42, 3) := by decide +kernel
theorem dX6_takeMast_29 : decode cX6_takeMast 29 = .ok (.aload_n 0, 1) := by decide +kernel
theorem dX6_takeMast_30 : decode cX6_takeMast 30 = .ok (.getfield 15, 3) := by decide +kernel
theorem dX6_takeMast_33 : decode cX6_takeMast 33 = .ok (.iload 4, 2) := by decide +kernel
theorem dX6_takeMast_35 : decode cX6_takeMast 35 = .ok (.aload_n 0, 1) := by decide +kernel
theorem dX6_takeMast_36 : decode cX6_takeMast 36 = .ok (.getfield 15, 3) := by decide +kernel
theorem dX6_takeMast_39 : decode cX6_takeMast 39 = .ok (.iload 4, 2) := by decide +kernel
theorem dX6_takeMast_41 : decode cX6_takeMast 41 = .ok (.iaload, 1) := by decide +kernel
theorem dX6_takeMast_42 : decode cX6_takeMast 42 = .ok (.iload 6, 2) := by decide +kernel
theorem dX6_takeMast_44 : decode cX6_takeMast 44 = .ok (.invokestatic 50, 3) := by decide +kernel
theorem dX6_takeMast_47 : decode cX6_takeMast 47 = .ok (.iastore, 1) := by decide +kernel
theorem dX6_takeMast_48 : decode cX6_takeMast 48 = .ok (.aload_n 0, 1) := by decide +kernel
theorem dX6_takeMast_49 : decode cX6_takeMast 49 = .ok (.getfield 18, 3) := by decide +kernel
theorem dX6_takeMast_52 : decode cX6_takeMast 52 = .ok (.iload 4, 2) := by decide +kernel
theorem dX6_takeMast_54 : decode cX6_takeMast 54 = .ok (.dup2, 1) := by decide +kernel
theorem dX6_takeMast_55 : decode cX6_takeMast 55 = .ok (.iaload, 1) := by decide +kernel
theorem dX6_takeMast_56 : decode cX6_takeMast 56 = .ok (.aload 5, 2) := by decide +kernel
theorem dX6_takeMast_58 : decode cX6_takeMast 58 = .ok (.iload 4, 2) := by decide +kernel
theorem dX6_takeMast_60 : decode cX6_takeMast 60 = .ok (.invokevirtual 55, 3) := by decide +kernel
theorem dX6_takeMast_63 : decode cX6_takeMast 63 = .ok (.iadd, 1) := by decide +kernel
theorem dX6_takeMast_64 : decode cX6_takeMast 64 = .ok (.iastore, 1) := by decide +kernel
theorem dX6_takeMast_65 : decode cX6_takeMast 65 = .ok (.goto 22, 3) := by decide +kernel
theorem dX6_takeMast_68 : decode cX6_takeMast 68 = .ok (.aload_n 0, 1) := by decide +kernel
theorem dX6_takeMast_69 : decode cX6_takeMast 69 = .ok (.getfield 9, 3) := by decide +kernel
theorem dX6_takeMast_72 : decode cX6_takeMast 72 = .ok (.iload 4, 2) := by decide +kernel
theorem dX6_takeMast_74 : decode cX6_takeMast 74 = .ok (.aload_n 0, 1) := by decide +kernel
theorem dX6_takeMast_75 : decode cX6_takeMast 75 = .ok (.getfield 9, 3) := by decide +kernel
theorem dX6_takeMast_78 : decode cX6_takeMast 78 = .ok (.iload 4, 2) := by decide +kernel
theorem dX6_takeMast_80 : decode cX6_takeMast 80 = .ok (.iaload, 1) := by decide +kernel
theorem dX6_takeMast_81 : decode cX6_takeMast 81 = .ok (.iload 6, 2) := by decide +kernel
theorem dX6_takeMast_83 : decode cX6_takeMast 83 = .ok (.invokestatic 50, 3) := by decide +kernel
theorem dX6_takeMast_86 : decode cX6_takeMast 86 = .ok (.iastore, 1) := by decide +kernel
theorem dX6_takeMast_87 : decode cX6_takeMast 87 = .ok (.return_, 1) := by decide +kernel
theorem dX6_placeFor_0 : decode cX6_placeFor 0 = .ok (.iconst (-1), 1) := by decide +kernel
theorem dX6_placeFor_1 : decode cX6_placeFor 1 = .ok (.istore_n 2, 1) := by decide +kernel
theorem dX6_placeFor_2 : decode cX6_placeFor 2 = .ok (.iconst (-1), 1) := by decide +kernel
theorem dX6_placeFor_3 : decode cX6_placeFor 3 = .ok (.istore_n 3, 1) := by decide +kernel
theorem dX6_placeFor_4 : decode cX6_placeFor 4 = .ok (.iconst 0, 1) := by decide +kernel
theorem dX6_placeFor_5 : decode cX6_placeFor 5 = .ok (.istore 4, 2) := by decide +kernel
theorem dX6_placeFor_7 : decode cX6_placeFor 7 = .ok (.iload 4, 2) := by decide +kernel
theorem dX6_placeFor_9 : decode cX6_placeFor 9 = .ok (.bipush 100, 2) := by decide +kernel
theorem dX6_placeFor_11 : decode cX6_placeFor 11 = .ok (.if_icmp .ge 30, 3) := by decide +kernel
theorem dX6_placeFor_14 : decode cX6_placeFor 14 = .ok (.aload_n 0, 1) := by decide +kernel
theorem dX6_placeFor_15 : decode cX6_placeFor 15 = .ok (.iload 4, 2) := by decide +kernel
theorem dX6_placeFor_17 : decode cX6_placeFor 17 = .ok (.iload_n 1, 1) := by decide +kernel
theorem dX6_placeFor_18 : decode cX6_placeFor 18 = .ok (.invokevirtual 59, 3) := by decide +kernel
theorem dX6_placeFor_21 : decode cX6_placeFor 21 = .ok (.istore 5, 2) := by decide +kernel
theorem dX6_placeFor_23 : decode cX6_placeFor 23 = .ok (.iload 5, 2) := by decide +kernel
theorem dX6_placeFor_25 : decode cX6_placeFor 25 = .ok (.iload_n 3, 1) := by decide +kernel
theorem dX6_placeFor_26 : decode cX6_placeFor 26 = .ok (.if_icmp .le 9, 3) := by decide +kernel
theorem dX6_placeFor_29 : decode cX6_placeFor 29 = .ok (.iload 4, 2) := by decide +kernel
theorem dX6_placeFor_31 : decode cX6_placeFor 31 = .ok (.istore_n 2, 1) := by decide +kernel
theorem dX6_placeFor_32 : decode cX6_placeFor 32 = .ok (.iload 5, 2) := by decide +kernel
theorem dX6_placeFor_34 : decode cX6_placeFor 34 = .ok (.istore_n 3, 1) := by decide +kernel
theorem dX6_placeFor_35 : decode cX6_placeFor 35 = .ok (.iinc 4 1, 3) := by decide +kernel
theorem dX6_placeFor_38 : decode cX6_placeFor 38 = .ok (.goto (-31), 3) := by decide +kernel
theorem dX6_placeFor_41 : decode cX6_placeFor 41 = .ok (.iload_n 2, 1) := by decide +kernel
theorem dX6_placeFor_42 : decode cX6_placeFor 42 = .ok (.ireturn, 1) := by decide +kernel
theorem dX6_servedFrom_0 : decode cX6_servedFrom 0 = .ok (.iconst 0, 1) := by decide +kernel
theorem dX6_servedFrom_1 : decode cX6_servedFrom 1 = .ok (.istore_n 3, 1) := by decide +kernel
theorem dX6_servedFrom_2 : decode cX6_servedFrom 2 = .ok (.iconst 0, 1) := by decide +kernel
theorem dX6_servedFrom_3 : decode cX6_servedFrom 3 = .ok (.istore 4, 2) := by decide +kernel
theorem dX6_servedFrom_5 : decode cX6_servedFrom 5 = .ok (.iload 4, 2) := by decide +kernel
theorem dX6_servedFrom_7 : decode cX6_servedFrom 7 = .ok (.bipush 100, 2) := by decide +kernel
theorem dX6_servedFrom_9 : decode cX6_servedFrom 9 = .ok (.if_icmp .ge 77, 3) := by decide +kernel
theorem dX6_servedFrom_12 : decode cX6_servedFrom 12 = .ok (.iload_n 2, 1) := by decide +kernel
theorem dX6_servedFrom_13 : decode cX6_servedFrom 13 = .ok (.iload_n 1, 1) := by decide +kernel
theorem dX6_servedFrom_14 : decode cX6_servedFrom 14 = .ok (.iload 4, 2) := by decide +kernel
theorem dX6_servedFrom_16 : decode cX6_servedFrom 16 = .ok (.isub, 1) := by decide +kernel
theorem dX6_servedFrom_17 : decode cX6_servedFrom 17 = .ok (.invokestatic 62, 3) := by decide +kernel
theorem dX6_servedFrom_20 : decode cX6_servedFrom 20 = .ok (.isub, 1) := by decide +kernel
theorem dX6_servedFrom_21 : decode cX6_servedFrom 21 = .ok (.istore 5, 2) := by decide +kernel
theorem dX6_servedFrom_23 : decode cX6_servedFrom 23 = .ok (.iload 5, 2) := by decide +kernel
theorem dX6_servedFrom_25 : decode cX6_servedFrom 25 = .ok (.ifCond .le 10, 3) := by decide +kernel
theorem dX6_servedFrom_28 : decode cX6_servedFrom 28 = .ok (.iload 5, 2) := by decide +kernel
theorem dX6_servedFrom_30 : decode cX6_servedFrom 30 = .ok (.iconst 3, 1) := by decide +kernel
theorem dX6_servedFrom_31 : decode cX6_servedFrom 31 = .ok (.idiv, 1) := by decide +kernel
theorem dX6_servedFrom_32 : decode cX6_servedFrom 32 = .ok (.goto 4, 3) := by decide +kernel
theorem dX6_servedFrom_35 : decode cX6_servedFrom 35 = .ok (.iconst 0, 1) := by decide +kernel
theorem dX6_servedFrom_36 : decode cX6_servedFrom 36 = .ok (.istore 6, 2) := by decide +kernel
theorem dX6_servedFrom_38 : decode cX6_servedFrom 38 = .ok (.aload_n 0, 1) := by decide +kernel
theorem dX6_servedFrom_39 : decode cX6_servedFrom 39 = .ok (.getfield 9, 3) := by decide +kernel
theorem dX6_servedFrom_42 : decode cX6_servedFrom 42 = .ok (.iload 4, 2) := by decide +kernel
theorem dX6_servedFrom_44 : decode cX6_servedFrom 44 = .ok (.iaload, 1) := by decide +kernel
theorem dX6_servedFrom_45 : decode cX6_servedFrom 45 = .ok (.iconst 5, 1) := by decide +kernel
theorem dX6_servedFrom_46 : decode cX6_servedFrom 46 = .ok (.if_icmp .ge 31, 3) := by decide +kernel
theorem dX6_servedFrom_49 : decode cX6_servedFrom 49 = .ok (.aload_n 0, 1) := by decide +kernel
theorem dX6_servedFrom_50 : decode cX6_servedFrom 50 = .ok (.getfield 15, 3) := by decide +kernel
theorem dX6_servedFrom_53 : decode cX6_servedFrom 53 = .ok (.iload 4, 2) := by decide +kernel
theorem dX6_servedFrom_55 : decode cX6_servedFrom 55 = .ok (.iaload, 1) := by decide +kernel
theorem dX6_servedFrom_56 : decode cX6_servedFrom 56 = .ok (.iload 6, 2) := by decide +kernel
theorem dX6_servedFrom_58 : decode cX6_servedFrom 58 = .ok (.isub, 1) := by decide +kernel
theorem dX6_servedFrom_59 : decode cX6_servedFrom 59 = .ok (.iconst 5, 1) := by decide +kernel
theorem dX6_servedFrom_60 : decode cX6_servedFrom 60 = .ok (.if_icmp .ge 17, 3) := by decide +kernel
theorem dX6_servedFrom_63 : decode cX6_servedFrom 63 = .ok (.iload 5, 2) := by decide +kernel
theorem dX6_servedFrom_65 : decode cX6_servedFrom 65 = .ok (.aload_n 0, 1) := by decide +kernel
theorem dX6_servedFrom_66 : decode cX6_servedFrom 66 = .ok (.getfield 18, 3) := by decide +kernel
theorem dX6_servedFrom_69 : decode cX6_servedFrom 69 = .ok (.iload 4, 2) := by decide +kernel
theorem dX6_servedFrom_71 : decode cX6_servedFrom 71 = .ok (.iaload, 1) := by decide +kernel
theorem dX6_servedFrom_72 : decode cX6_servedFrom 72 = .ok (.isub, 1) := by decide +kernel
theorem dX6_servedFrom_73 : decode cX6_servedFrom 73 = .ok (.iconst 5, 1) := by decide +kernel
theorem dX6_servedFrom_74 : decode cX6_servedFrom 74 = .ok (.if_icmp .lt 6, 3) := by decide +kernel
theorem dX6_servedFrom_77 : decode cX6_servedFrom 77 = .ok (.iinc 3 1, 3) := by decide +kernel
theorem dX6_servedFrom_80 : decode cX6_servedFrom 80 = .ok (.iinc 4 1, 3) := by decide +kernel
theorem dX6_servedFrom_83 : decode cX6_servedFrom 83 = .ok (.goto (-78), 3) := by decide +kernel
theorem dX6_servedFrom_86 : decode cX6_servedFrom 86 = .ok (.iload_n 3, 1) := by decide +kernel
theorem dX6_servedFrom_87 : decode cX6_servedFrom 87 = .ok (.ireturn, 1) := by decide +kernel
theorem dX7_init_0 : decode cX7_init 0 = .ok (.aload_n 0, 1) := by decide +kernel
theorem dX7_init_1 : decode cX7_init 1 = .ok (.invokespecial 1, 3) := by decide +kernel
theorem dX7_init_4 : decode cX7_init 4 = .ok (.aload_n 0, 1) := by decide +kernel
theorem dX7_init_5 : decode cX7_init 5 = .ok (.new 7, 3) := by decide +kernel
theorem dX7_init_8 : decode cX7_init 8 = .ok (.dup, 1) := by decide +kernel
theorem dX7_init_9 : decode cX7_init 9 = .ok (.invokespecial 9, 3) := by decide +kernel
theorem dX7_init_12 : decode cX7_init 12 = .ok (.putfield 10, 3) := by decide +kernel
theorem dX7_init_15 : decode cX7_init 15 = .ok (.aload_n 0, 1) := by decide +kernel
theorem dX7_init_16 : decode cX7_init 16 = .ok (.new 16, 3) := by decide +kernel
theorem dX7_init_19 : decode cX7_init 19 = .ok (.dup, 1) := by decide +kernel
theorem dX7_init_20 : decode cX7_init 20 = .ok (.aload_n 0, 1) := by decide +kernel
theorem dX7_init_21 : decode cX7_init 21 = .ok (.getfield 10, 3) := by decide +kernel
theorem dX7_init_24 : decode cX7_init 24 = .ok (.invokespecial 18, 3) := by decide +kernel
theorem dX7_init_27 : decode cX7_init 27 = .ok (.putfield 21, 3) := by decide +kernel
theorem dX7_init_30 : decode cX7_init 30 = .ok (.aload_n 0, 1) := by decide +kernel
theorem dX7_init_31 : decode cX7_init 31 = .ok (.new 16, 3) := by decide +kernel
theorem dX7_init_34 : decode cX7_init 34 = .ok (.dup, 1) := by decide +kernel
theorem dX7_init_35 : decode cX7_init 35 = .ok (.aload_n 0, 1) := by decide +kernel
theorem dX7_init_36 : decode cX7_init 36 = .ok (.getfield 10, 3) := by decide +kernel
theorem dX7_init_39 : decode cX7_init 39 = .ok (.invokespecial 18, 3) := by decide +kernel
theorem dX7_init_42 : decode cX7_init 42 = .ok (.putfield 25, 3) := by decide +kernel
theorem dX7_init_45 : decode cX7_init 45 = .ok (.aload_n 0, 1) := by decide +kernel
theorem dX7_init_46 : decode cX7_init 46 = .ok (.new 28, 3) := by decide +kernel
theorem dX7_init_49 : decode cX7_init 49 = .ok (.dup, 1) := by decide +kernel
theorem dX7_init_50 : decode cX7_init 50 = .ok (.invokespecial 30, 3) := by decide +kernel
theorem dX7_init_53 : decode cX7_init 53 = .ok (.putfield 31, 3) := by decide +kernel
theorem dX7_init_56 : decode cX7_init 56 = .ok (.return_, 1) := by decide +kernel
theorem dX7_mast_0 : decode cX7_mast 0 = .ok (.iload_n 1, 1) := by decide +kernel
theorem dX7_mast_1 : decode cX7_mast 1 = .ok (.iconst 0, 1) := by decide +kernel
theorem dX7_mast_2 : decode cX7_mast 2 = .ok (.bipush 99, 2) := by decide +kernel
theorem dX7_mast_4 : decode cX7_mast 4 = .ok (.invokestatic 35, 3) := by decide +kernel
theorem dX7_mast_7 : decode cX7_mast 7 = .ok (.iload_n 2, 1) := by decide +kernel
theorem dX7_mast_8 : decode cX7_mast 8 = .ok (.bipush 10, 2) := by decide +kernel
theorem dX7_mast_10 : decode cX7_mast 10 = .ok (.bipush 60, 2) := by decide +kernel
theorem dX7_mast_12 : decode cX7_mast 12 = .ok (.invokestatic 35, 3) := by decide +kernel
theorem dX7_mast_15 : decode cX7_mast 15 = .ok (.iload_n 3, 1) := by decide +kernel
theorem dX7_mast_16 : decode cX7_mast 16 = .ok (.iconst 0, 1) := by decide +kernel
theorem dX7_mast_17 : decode cX7_mast 17 = .ok (.iconst 2, 1) := by decide +kernel
theorem dX7_mast_18 : decode cX7_mast 18 = .ok (.invokestatic 35, 3) := by decide +kernel
theorem dX7_mast_21 : decode cX7_mast 21 = .ok (.iload 4, 2) := by decide +kernel
theorem dX7_mast_23 : decode cX7_mast 23 = .ok (.iconst 1, 1) := by decide +kernel
theorem dX7_mast_24 : decode cX7_mast 24 = .ok (.iconst 4, 1) := by decide +kernel
theorem dX7_mast_25 : decode cX7_mast 25 = .ok (.invokestatic 35, 3) := by decide +kernel
theorem dX7_mast_28 : decode cX7_mast 28 = .ok (.iload 5, 2) := by decide +kernel
theorem dX7_mast_30 : decode cX7_mast 30 = .ok (.iconst 0, 1) := by decide +kernel
theorem dX7_mast_31 : decode cX7_mast 31 = .ok (.iconst 3, 1) := by decide +kernel
theorem dX7_mast_32 : decode cX7_mast 32 = .ok (.invokestatic 35, 3) := by decide +kernel
theorem dX7_mast_35 : decode cX7_mast 35 = .ok (.iload 6, 2) := by decide +kernel
theorem dX7_mast_37 : decode cX7_mast 37 = .ok (.iconst 0, 1) := by decide +kernel
theorem dX7_mast_38 : decode cX7_mast 38 = .ok (.iconst 1, 1) := by decide +kernel
theorem dX7_mast_39 : decode cX7_mast 39 = .ok (.invokestatic 35, 3) := by decide +kernel
theorem dX7_mast_42 : decode cX7_mast 42 = .ok (.aload_n 0, 1) := by decide +kernel
theorem dX7_mast_43 : decode cX7_mast 43 = .ok (.getfield 10, 3) := by decide +kernel
theorem dX7_mast_46 : decode cX7_mast 46 = .ok (.getfield 39, 3) := by decide +kernel
theorem dX7_mast_49 : decode cX7_mast 49 = .ok (.bipush 6, 2) := by decide +kernel
theorem dX7_mast_51 : decode cX7_mast 51 = .ok (.if_icmp .lt 13, 3) := by decide +kernel
theorem dX7_mast_54 : decode cX7_mast 54 = .ok (.new 43, 3) := by decide +kernel
theorem dX7_mast_57 : decode cX7_mast 57 = .ok (.dup, 1) := by decide +kernel
theorem dX7_mast_58 : decode cX7_mast 58 = .ok (.ldc 45, 2) := by decide +kernel
theorem dX7_mast_60 : decode cX7_mast 60 = .ok (.invokespecial 47, 3) := by decide +kernel
theorem dX7_mast_63 : decode cX7_mast 63 = .ok (.athrow, 1) := by decide +kernel
theorem dX7_mast_64 : decode cX7_mast 64 = .ok (.aload_n 0, 1) := by decide +kernel
theorem dX7_mast_65 : decode cX7_mast 65 = .ok (.getfield 10, 3) := by decide +kernel
theorem dX7_mast_68 : decode cX7_mast 68 = .ok (.getfield 50, 3) := by decide +kernel
theorem dX7_mast_71 : decode cX7_mast 71 = .ok (.aload_n 0, 1) := by decide +kernel
theorem dX7_mast_72 : decode cX7_mast 72 = .ok (.getfield 10, 3) := by decide +kernel
theorem dX7_mast_75 : decode cX7_mast 75 = .ok (.getfield 39, 3) := by decide +kernel
theorem dX7_mast_78 : decode cX7_mast 78 = .ok (.aaload, 1) := by decide +kernel
theorem dX7_mast_79 : decode cX7_mast 79 = .ok (.astore 7, 2) := by decide +kernel
theorem dX7_mast_81 : decode cX7_mast 81 = .ok (.aload 7, 2) := by decide +kernel
theorem dX7_mast_83 : decode cX7_mast 83 = .ok (.iload_n 1, 1) := by decide +kernel
theorem dX7_mast_84 : decode cX7_mast 84 = .ok (.putfield 54, 3) := by decide +kernel
theorem dX7_mast_87 : decode cX7_mast 87 = .ok (.aload 7, 2) := by decide +kernel
theorem dX7_mast_89 : decode cX7_mast 89 = .ok (.iload_n 2, 1) := by decide +kernel
theorem dX7_mast_90 : decode cX7_mast 90 = .ok (.putfield 59, 3) := by decide +kernel
theorem dX7_mast_93 : decode cX7_mast 93 = .ok (.aload 7, 2) := by decide +kernel
theorem dX7_mast_95 : decode cX7_mast 95 = .ok (.iload_n 3, 1) := by decide +kernel
theorem dX7_mast_96 : decode cX7_mast 96 = .ok (.putfield 62, 3) := by decide +kernel
theorem dX7_mast_99 : decode cX7_mast 99 = .ok (.aload 7, 2) := by decide +kernel
theorem dX7_mast_101 : decode cX7_mast 101 = .ok (.iload 4, 2) := by decide +kernel
theorem dX7_mast_103 : decode cX7_mast 103 = .ok (.putfield 65, 3) := by decide +kernel
theorem dX7_mast_106 : decode cX7_mast 106 = .ok (.aload 7, 2) := by decide +kernel
theorem dX7_mast_108 : decode cX7_mast 108 = .ok (.iload 5, 2) := by decide +kernel
theorem dX7_mast_110 : decode cX7_mast 110 = .ok (.putfield 68, 3) := by decide +kernel
theorem dX7_mast_113 : decode cX7_mast 113 = .ok (.aload 7, 2) := by decide +kernel
theorem dX7_mast_115 : decode cX7_mast 115 = .ok (.iload 6, 2) := by decide +kernel
theorem dX7_mast_117 : decode cX7_mast 117 = .ok (.putfield 71, 3) := by decide +kernel
theorem dX7_mast_120 : decode cX7_mast 120 = .ok (.aload 7, 2) := by decide +kernel
theorem dX7_mast_122 : decode cX7_mast 122 = .ok (.iconst 1, 1) := by decide +kernel
theorem dX7_mast_123 : decode cX7_mast 123 = .ok (.putfield 74, 3) := by decide +kernel
theorem dX7_mast_126 : decode cX7_mast 126 = .ok (.aload_n 0, 1) := by decide +kernel
theorem dX7_mast_127 : decode cX7_mast 127 = .ok (.getfield 10, 3) := by decide +kernel
theorem dX7_mast_130 : decode cX7_mast 130 = .ok (.dup, 1) := by decide +kernel
theorem dX7_mast_131 : decode cX7_mast 131 = .ok (.getfield 39, 3) := by decide +kernel
theorem dX7_mast_134 : decode cX7_mast 134 = .ok (.iconst 1, 1) := by decide +kernel
theorem dX7_mast_135 : decode cX7_mast 135 = .ok (.iadd, 1) := by decide +kernel
theorem dX7_mast_136 : decode cX7_mast 136 = .ok (.putfield 39, 3) := by decide +kernel
theorem dX7_mast_139 : decode cX7_mast 139 = .ok (.aload_n 0, 1) := by decide +kernel
theorem dX7_mast_140 : decode cX7_mast 140 = .ok (.getfield 10, 3) := by decide +kernel
theorem dX7_mast_143 : decode cX7_mast 143 = .ok (.invokevirtual 78, 3) := by decide +kernel
theorem dX7_mast_146 : decode cX7_mast 146 = .ok (.aload_n 0, 1) := by decide +kernel
theorem dX7_mast_147 : decode cX7_mast 147 = .ok (.getfield 10, 3) := by decide +kernel
theorem dX7_mast_150 : decode cX7_mast 150 = .ok (.getfield 39, 3) := by decide +kernel
theorem dX7_mast_153 : decode cX7_mast 153 = .ok (.iconst 1, 1) := by decide +kernel
theorem dX7_mast_154 : decode cX7_mast 154 = .ok (.isub, 1) := by decide +kernel
theorem dX7_mast_155 : decode cX7_mast 155 = .ok (.ireturn, 1) := by decide +kernel
theorem dX7_handset_0 : decode cX7_handset 0 = .ok (.iload_n 1, 1) := by decide +kernel
theorem dX7_handset_1 : decode cX7_handset 1 = .ok (.iconst 0, 1) := by decide +kernel
theorem dX7_handset_2 : decode cX7_handset 2 = .ok (.iconst 1, 1) := by decide +kernel
theorem dX7_handset_3 : decode cX7_handset 3 = .ok (.invokestatic 35, 3) := by decide +kernel
theorem dX7_handset_6 : decode cX7_handset 6 = .ok (.iload_n 2, 1) := by decide +kernel
theorem dX7_handset_7 : decode cX7_handset 7 = .ok (.iconst 0, 1) := by decide +kernel
theorem dX7_handset_8 : decode cX7_handset 8 = .ok (.bipush 99, 2) := by decide +kernel
theorem dX7_handset_10 : decode cX7_handset 10 = .ok (.invokestatic 35, 3) := by decide +kernel
theorem dX7_handset_13 : decode cX7_handset 13 = .ok (.iload_n 3, 1) := by decide +kernel
theorem dX7_handset_14 : decode cX7_handset 14 = .ok (.bipush (-3), 2) := by decide +kernel
theorem dX7_handset_16 : decode cX7_handset 16 = .ok (.iconst 3, 1) := by decide +kernel
theorem dX7_handset_17 : decode cX7_handset 17 = .ok (.invokestatic 35, 3) := by decide +kernel
theorem dX7_handset_20 : decode cX7_handset 20 = .ok (.iload 4, 2) := by decide +kernel
theorem dX7_handset_22 : decode cX7_handset 22 = .ok (.iconst 0, 1) := by decide +kernel
theorem dX7_handset_23 : decode cX7_handset 23 = .ok (.sipush 999, 3) := by decide +kernel
theorem dX7_handset_26 : decode cX7_handset 26 = .ok (.invokestatic 35, 3) := by decide +kernel
theorem dX7_handset_29 : decode cX7_handset 29 = .ok (.aload_n 0, 1) := by decide +kernel
theorem dX7_handset_30 : decode cX7_handset 30 = .ok (.getfield 21, 3) := by decide +kernel
theorem dX7_handset_33 : decode cX7_handset 33 = .ok (.getfield 81, 3) := by decide +kernel
theorem dX7_handset_36 : decode cX7_handset 36 = .ok (.bipush 8, 2) := by decide +kernel
theorem dX7_handset_38 : decode cX7_handset 38 = .ok (.if_icmp .lt 13, 3) := by decide +kernel
theorem dX7_handset_41 : decode cX7_handset 41 = .ok (.new 43, 3) := by decide +kernel
theorem dX7_handset_44 : decode cX7_handset 44 = .ok (.dup, 1) := by decide +kernel
theorem dX7_handset_45 : decode cX7_handset 45 = .ok (.ldc 84, 2) := by decide +kernel
theorem dX7_handset_47 : decode cX7_handset 47 = .ok (.invokespecial 47, 3) := by decide +kernel
theorem dX7_handset_50 : decode cX7_handset 50 = .ok (.athrow, 1) := by decide +kernel
theorem dX7_handset_51 : decode cX7_handset 51 = .ok (.aload_n 0, 1) := by decide +kernel
theorem dX7_handset_52 : decode cX7_handset 52 = .ok (.getfield 21, 3) := by decide +kernel
theorem dX7_handset_55 : decode cX7_handset 55 = .ok (.getfield 86, 3) := by decide +kernel
theorem dX7_handset_58 : decode cX7_handset 58 = .ok (.aload_n 0, 1) := by decide +kernel
theorem dX7_handset_59 : decode cX7_handset 59 = .ok (.getfield 21, 3) := by decide +kernel
theorem dX7_handset_62 : decode cX7_handset 62 = .ok (.getfield 81, 3) := by decide +kernel
theorem dX7_handset_65 : decode cX7_handset 65 = .ok (.aaload, 1) := by decide +kernel
theorem dX7_handset_66 : decode cX7_handset 66 = .ok (.astore 5, 2) := by decide +kernel
theorem dX7_handset_68 : decode cX7_handset 68 = .ok (.aload 5, 2) := by decide +kernel
theorem dX7_handset_70 : decode cX7_handset 70 = .ok (.iload_n 1, 1) := by decide +kernel
theorem dX7_handset_71 : decode cX7_handset 71 = .ok (.putfield 90, 3) := by decide +kernel
theorem dX7_handset_74 : decode cX7_handset 74 = .ok (.aload 5, 2) := by decide +kernel
theorem dX7_handset_76 : decode cX7_handset 76 = .ok (.iload_n 2, 1) := by decide +kernel
theorem dX7_handset_77 : decode cX7_handset 77 = .ok (.putfield 93, 3) := by decide +kernel
theorem dX7_handset_80 : decode cX7_handset 80 = .ok (.aload 5, 2) := by decide +kernel
theorem dX7_handset_82 : decode cX7_handset 82 = .ok (.iload_n 3, 1) := by decide +kernel
theorem dX7_handset_83 : decode cX7_handset 83 = .ok (.putfield 94, 3) := by decide +kernel
theorem dX7_handset_86 : decode cX7_handset 86 = .ok (.aload 5, 2) := by decide +kernel
theorem dX7_handset_88 : decode cX7_handset 88 = .ok (.iload 4, 2) := by decide +kernel
theorem dX7_handset_90 : decode cX7_handset 90 = .ok (.putfield 97, 3) := by decide +kernel
theorem dX7_handset_93 : decode cX7_handset 93 = .ok (.aload 5, 2) := by decide +kernel
theorem dX7_handset_95 : decode cX7_handset 95 = .ok (.iconst 1, 1) := by decide +kernel
theorem dX7_handset_96 : decode cX7_handset 96 = .ok (.putfield 100, 3) := by decide +kernel
theorem dX7_handset_99 : decode cX7_handset 99 = .ok (.aload_n 0, 1) := by decide +kernel
theorem dX7_handset_100 : decode cX7_handset 100 = .ok (.getfield 21, 3) := by decide +kernel
theorem dX7_handset_103 : decode cX7_handset 103 = .ok (.dup, 1) := by decide +kernel
theorem dX7_handset_104 : decode cX7_handset 104 = .ok (.getfield 81, 3) := by decide +kernel
theorem dX7_handset_107 : decode cX7_handset 107 = .ok (.iconst 1, 1) := by decide +kernel
theorem dX7_handset_108 : decode cX7_handset 108 = .ok (.iadd, 1) := by decide +kernel
theorem dX7_handset_109 : decode cX7_handset 109 = .ok (.putfield 81, 3) := by decide +kernel
theorem dX7_handset_112 : decode cX7_handset 112 = .ok (.aload_n 0, 1) := by decide +kernel
theorem dX7_handset_113 : decode cX7_handset 113 = .ok (.getfield 21, 3) := by decide +kernel
theorem dX7_handset_116 : decode cX7_handset 116 = .ok (.getfield 81, 3) := by decide +kernel
theorem dX7_handset_119 : decode cX7_handset 119 = .ok (.iconst 1, 1) := by decide +kernel
theorem dX7_handset_120 : decode cX7_handset 120 = .ok (.isub, 1) := by decide +kernel
theorem dX7_handset_121 : decode cX7_handset 121 = .ok (.ireturn, 1) := by decide +kernel
theorem dX7_speed_0 : decode cX7_speed 0 = .ok (.iload_n 1, 1) := by decide +kernel
theorem dX7_speed_1 : decode cX7_speed 1 = .ok (.aload_n 0, 1) := by decide +kernel
theorem dX7_speed_2 : decode cX7_speed 2 = .ok (.getfield 21, 3) := by decide +kernel
theorem dX7_speed_5 : decode cX7_speed 5 = .ok (.getfield 81, 3) := by decide +kernel
theorem dX7_speed_8 : decode cX7_speed 8 = .ok (.invokestatic 103, 3) := by decide +kernel
theorem dX7_speed_11 : decode cX7_speed 11 = .ok (.iload_n 2, 1) := by decide +kernel
theorem dX7_speed_12 : decode cX7_speed 12 = .ok (.bipush (-3), 2) := by decide +kernel
theorem dX7_speed_14 : decode cX7_speed 14 = .ok (.iconst 3, 1) := by decide +kernel
theorem dX7_speed_15 : decode cX7_speed 15 = .ok (.invokestatic 35, 3) := by decide +kernel
theorem dX7_speed_18 : decode cX7_speed 18 = .ok (.aload_n 0, 1) := by decide +kernel
theorem dX7_speed_19 : decode cX7_speed 19 = .ok (.getfield 21, 3) := by decide +kernel
theorem dX7_speed_22 : decode cX7_speed 22 = .ok (.getfield 86, 3) := by decide +kernel
theorem dX7_speed_25 : decode cX7_speed 25 = .ok (.iload_n 1, 1) := by decide +kernel
theorem dX7_speed_26 : decode cX7_speed 26 = .ok (.aaload, 1) := by decide +kernel
theorem dX7_speed_27 : decode cX7_speed 27 = .ok (.getfield 94, 3) := by decide +kernel
theorem dX7_speed_30 : decode cX7_speed 30 = .ok (.istore_n 3, 1) := by decide +kernel
theorem dX7_speed_31 : decode cX7_speed 31 = .ok (.aload_n 0, 1) := by decide +kernel
theorem dX7_speed_32 : decode cX7_speed 32 = .ok (.getfield 21, 3) := by decide +kernel
theorem dX7_speed_35 : decode cX7_speed 35 = .ok (.getfield 86, 3) := by decide +kernel
theorem dX7_speed_38 : decode cX7_speed 38 = .ok (.iload_n 1, 1) := by decide +kernel
theorem dX7_speed_39 : decode cX7_speed 39 = .ok (.aaload, 1) := by decide +kernel
theorem dX7_speed_40 : decode cX7_speed 40 = .ok (.iload_n 2, 1) := by decide +kernel
theorem dX7_speed_41 : decode cX7_speed 41 = .ok (.putfield 94, 3) := by decide +kernel
theorem dX7_speed_44 : decode cX7_speed 44 = .ok (.iload_n 3, 1) := by decide +kernel
theorem dX7_speed_45 : decode cX7_speed 45 = .ok (.ireturn, 1) := by decide +kernel
theorem dX7_top_0 : decode cX7_top 0 = .ok (.iload_n 1, 1) := by decide +kernel
theorem dX7_top_1 : decode cX7_top 1 = .ok (.aload_n 0, 1) := by decide +kernel
theorem dX7_top_2 : decode cX7_top 2 = .ok (.getfield 21, 3) := by decide +kernel
theorem dX7_top_5 : decode cX7_top 5 = .ok (.getfield 81, 3) := by decide +kernel
theorem dX7_top_8 : decode cX7_top 8 = .ok (.invokestatic 103, 3) := by decide +kernel
theorem dX7_top_11 : decode cX7_top 11 = .ok (.iload_n 2, 1) := by decide +kernel
theorem dX7_top_12 : decode cX7_top 12 = .ok (.iconst 1, 1) := by decide +kernel
theorem dX7_top_13 : decode cX7_top 13 = .ok (.sipush 999, 3) := by decide +kernel
theorem dX7_top_16 : decode cX7_top 16 = .ok (.invokestatic 35, 3) := by decide +kernel
theorem dX7_top_19 : decode cX7_top 19 = .ok (.aload_n 0, 1) := by decide +kernel
theorem dX7_top_20 : decode cX7_top 20 = .ok (.getfield 21, 3) := by decide +kernel
theorem dX7_top_23 : decode cX7_top 23 = .ok (.getfield 86, 3) := by decide +kernel
theorem dX7_top_26 : decode cX7_top 26 = .ok (.iload_n 1, 1) := by decide +kernel
theorem dX7_top_27 : decode cX7_top 27 = .ok (.aaload, 1) := by decide +kernel
theorem dX7_top_28 : decode cX7_top 28 = .ok (.dup, 1) := by decide +kernel
theorem dX7_top_29 : decode cX7_top 29 = .ok (.getfield 97, 3) := by decide +kernel
theorem dX7_top_32 : decode cX7_top 32 = .ok (.iload_n 2, 1) := by decide +kernel
theorem dX7_top_33 : decode cX7_top 33 = .ok (.iadd, 1) := by decide +kernel
theorem dX7_top_34 : decode cX7_top 34 = .ok (.putfield 97, 3) := by decide +kernel
theorem dX7_top_37 : decode cX7_top 37 = .ok (.aload_n 0, 1) := by decide +kernel
theorem dX7_top_38 : decode cX7_top 38 = .ok (.getfield 21, 3) := by decide +kernel
theorem dX7_top_41 : decode cX7_top 41 = .ok (.getfield 86, 3) := by decide +kernel
theorem dX7_top_44 : decode cX7_top 44 = .ok (.iload_n 1, 1) := by decide +kernel
theorem dX7_top_45 : decode cX7_top 45 = .ok (.aaload, 1) := by decide +kernel
theorem dX7_top_46 : decode cX7_top 46 = .ok (.getfield 97, 3) := by decide +kernel
theorem dX7_top_49 : decode cX7_top 49 = .ok (.ireturn, 1) := by decide +kernel
theorem dX7_turn_0 : decode cX7_turn 0 = .ok (.iload_n 1, 1) := by decide +kernel
theorem dX7_turn_1 : decode cX7_turn 1 = .ok (.aload_n 0, 1) := by decide +kernel
theorem dX7_turn_2 : decode cX7_turn 2 = .ok (.getfield 21, 3) := by decide +kernel
theorem dX7_turn_5 : decode cX7_turn 5 = .ok (.getfield 81, 3) := by decide +kernel
theorem dX7_turn_8 : decode cX7_turn 8 = .ok (.invokestatic 103, 3) := by decide +kernel
theorem dX7_turn_11 : decode cX7_turn 11 = .ok (.aload_n 0, 1) := by decide +kernel
theorem dX7_turn_12 : decode cX7_turn 12 = .ok (.getfield 21, 3) := by decide +kernel
theorem dX7_turn_15 : decode cX7_turn 15 = .ok (.getfield 86, 3) := by decide +kernel
theorem dX7_turn_18 : decode cX7_turn 18 = .ok (.iload_n 1, 1) := by decide +kernel
theorem dX7_turn_19 : decode cX7_turn 19 = .ok (.aaload, 1) := by decide +kernel
theorem dX7_turn_20 : decode cX7_turn 20 = .ok (.getfield 100, 3) := by decide +kernel
theorem dX7_turn_23 : decode cX7_turn 23 = .ok (.istore_n 3, 1) := by decide +kernel
theorem dX7_turn_24 : decode cX7_turn 24 = .ok (.iload_n 3, 1) := by decide +kernel
theorem dX7_turn_25 : decode cX7_turn 25 = .ok (.ifCond .eq 23, 3) := by decide +kernel
theorem dX7_turn_28 : decode cX7_turn 28 = .ok (.iload_n 2, 1) := by decide +kernel
theorem dX7_turn_29 : decode cX7_turn 29 = .ok (.ifCond .ne 19, 3) := by decide +kernel
theorem dX7_turn_32 : decode cX7_turn 32 = .ok (.aload_n 0, 1) := by decide +kernel
theorem dX7_turn_33 : decode cX7_turn 33 = .ok (.getfield 21, 3) := by decide +kernel
theorem dX7_turn_36 : decode cX7_turn 36 = .ok (.aload_n 0, 1) := by decide +kernel
theorem dX7_turn_37 : decode cX7_turn 37 = .ok (.getfield 21, 3) := by decide +kernel
theorem dX7_turn_40 : decode cX7_turn 40 = .ok (.getfield 86, 3) := by decide +kernel
theorem dX7_turn_43 : decode cX7_turn 43 = .ok (.iload_n 1, 1) := by decide +kernel
theorem dX7_turn_44 : decode cX7_turn 44 = .ok (.aaload, 1) := by decide +kernel
theorem dX7_turn_45 : decode cX7_turn 45 = .ok (.invokevirtual 107, 3) := by decide +kernel
theorem dX7_turn_48 : decode cX7_turn 48 = .ok (.aload_n 0, 1) := by decide +kernel
theorem dX7_turn_49 : decode cX7_turn 49 = .ok (.getfield 21, 3) := by decide +kernel
theorem dX7_turn_52 : decode cX7_turn 52 = .ok (.getfield 86, 3) := by decide +kernel
theorem dX7_turn_55 : decode cX7_turn 55 = .ok (.iload_n 1, 1) := by decide +kernel
theorem dX7_turn_56 : decode cX7_turn 56 = .ok (.aaload, 1) := by decide +kernel
theorem dX7_turn_57 : decode cX7_turn 57 = .ok (.iload_n 2, 1) := by decide +kernel
theorem dX7_turn_58 : decode cX7_turn 58 = .ok (.putfield 100, 3) := by decide +kernel
theorem dX7_turn_61 : decode cX7_turn 61 = .ok (.iload_n 3, 1) := by decide +kernel
theorem dX7_turn_62 : decode cX7_turn 62 = .ok (.ireturn, 1) := by decide +kernel
theorem dX7_wake_0 : decode cX7_wake 0 = .ok (.iload_n 1, 1) := by decide +kernel
theorem dX7_wake_1 : decode cX7_wake 1 = .ok (.aload_n 0, 1) := by decide +kernel
theorem dX7_wake_2 : decode cX7_wake 2 = .ok (.getfield 10, 3) := by decide +kernel
theorem dX7_wake_5 : decode cX7_wake 5 = .ok (.getfield 39, 3) := by decide +kernel
theorem dX7_wake_8 : decode cX7_wake 8 = .ok (.invokestatic 103, 3) := by decide +kernel
theorem dX7_wake_11 : decode cX7_wake 11 = .ok (.iload_n 2, 1) := by decide +kernel
theorem dX7_wake_12 : decode cX7_wake 12 = .ok (.ifCond .ne 17, 3) := by decide +kernel
theorem dX7_wake_15 : decode cX7_wake 15 = .ok (.aload_n 0, 1) := by decide +kernel
theorem dX7_wake_16 : decode cX7_wake 16 = .ok (.getfield 21, 3) := by decide +kernel
theorem dX7_wake_19 : decode cX7_wake 19 = .ok (.getfield 111, 3) := by decide +kernel
theorem dX7_wake_22 : decode cX7_wake 22 = .ok (.iload_n 1, 1) := by decide +kernel
theorem dX7_wake_23 : decode cX7_wake 23 = .ok (.iaload, 1) := by decide +kernel
theorem dX7_wake_24 : decode cX7_wake 24 = .ok (.ifCond .le 5, 3) := by decide +kernel
theorem dX7_wake_27 : decode cX7_wake 27 = .ok (.iconst 0, 1) := by decide +kernel
theorem dX7_wake_28 : decode cX7_wake 28 = .ok (.ireturn, 1) := by decide +kernel
theorem dX7_wake_29 : decode cX7_wake 29 = .ok (.iload_n 2, 1) := by decide +kernel
theorem dX7_wake_30 : decode cX7_wake 30 = .ok (.ifCond .ne 11, 3) := by decide +kernel
theorem dX7_wake_33 : decode cX7_wake 33 = .ok (.aload_n 0, 1) := by decide +kernel
theorem dX7_wake_34 : decode cX7_wake 34 = .ok (.getfield 21, 3) := by decide +kernel
theorem dX7_wake_37 : decode cX7_wake 37 = .ok (.iload_n 1, 1) := by decide +kernel
theorem dX7_wake_38 : decode cX7_wake 38 = .ok (.invokevirtual 115, 3) := by decide +kernel
theorem dX7_wake_41 : decode cX7_wake 41 = .ok (.aload_n 0, 1) := by decide +kernel
theorem dX7_wake_42 : decode cX7_wake 42 = .ok (.getfield 10, 3) := by decide +kernel
theorem dX7_wake_45 : decode cX7_wake 45 = .ok (.getfield 50, 3) := by decide +kernel
theorem dX7_wake_48 : decode cX7_wake 48 = .ok (.iload_n 1, 1) := by decide +kernel
theorem dX7_wake_49 : decode cX7_wake 49 = .ok (.aaload, 1) := by decide +kernel
theorem dX7_wake_50 : decode cX7_wake 50 = .ok (.iload_n 2, 1) := by decide +kernel
theorem dX7_wake_51 : decode cX7_wake 51 = .ok (.putfield 74, 3) := by decide +kernel
theorem dX7_wake_54 : decode cX7_wake 54 = .ok (.aload_n 0, 1) := by decide +kernel
theorem dX7_wake_55 : decode cX7_wake 55 = .ok (.getfield 10, 3) := by decide +kernel
theorem dX7_wake_58 : decode cX7_wake 58 = .ok (.invokevirtual 78, 3) := by decide +kernel
theorem dX7_wake_61 : decode cX7_wake 61 = .ok (.iconst 1, 1) := by decide +kernel
theorem dX7_wake_62 : decode cX7_wake 62 = .ok (.ireturn, 1) := by decide +kernel
theorem dX7_call_0 : decode cX7_call 0 = .ok (.iload_n 1, 1) := by decide +kernel
theorem dX7_call_1 : decode cX7_call 1 = .ok (.aload_n 0, 1) := by decide +kernel
theorem dX7_call_2 : decode cX7_call 2 = .ok (.getfield 21, 3) := by decide +kernel
theorem dX7_call_5 : decode cX7_call 5 = .ok (.getfield 81, 3) := by decide +kernel
theorem dX7_call_8 : decode cX7_call 8 = .ok (.invokestatic 103, 3) := by decide +kernel
theorem dX7_call_11 : decode cX7_call 11 = .ok (.iload_n 2, 1) := by decide +kernel
theorem dX7_call_12 : decode cX7_call 12 = .ok (.aload_n 0, 1) := by decide +kernel
theorem dX7_call_13 : decode cX7_call 13 = .ok (.getfield 21, 3) := by decide +kernel
theorem dX7_call_16 : decode cX7_call 16 = .ok (.getfield 81, 3) := by decide +kernel
theorem dX7_call_19 : decode cX7_call 19 = .ok (.invokestatic 103, 3) := by decide +kernel
theorem dX7_call_22 : decode cX7_call 22 = .ok (.iload_n 1, 1) := by decide +kernel
theorem dX7_call_23 : decode cX7_call 23 = .ok (.iload_n 2, 1) := by decide +kernel
theorem dX7_call_24 : decode cX7_call 24 = .ok (.invokestatic 119, 3) := by decide +kernel
theorem dX7_call_27 : decode cX7_call 27 = .ok (.aload_n 0, 1) := by decide +kernel
theorem dX7_call_28 : decode cX7_call 28 = .ok (.invokevirtual 122, 3) := by decide +kernel
theorem dX7_call_31 : decode cX7_call 31 = .ok (.aload_n 0, 1) := by decide +kernel
theorem dX7_call_32 : decode cX7_call 32 = .ok (.getfield 21, 3) := by decide +kernel
theorem dX7_call_35 : decode cX7_call 35 = .ok (.iload_n 1, 1) := by decide +kernel
theorem dX7_call_36 : decode cX7_call 36 = .ok (.iload_n 2, 1) := by decide +kernel
theorem dX7_call_37 : decode cX7_call 37 = .ok (.invokevirtual 125, 3) := by decide +kernel
theorem dX7_call_40 : decode cX7_call 40 = .ok (.ireturn, 1) := by decide +kernel
theorem dX7_emergency_0 : decode cX7_emergency 0 = .ok (.iload_n 1, 1) := by decide +kernel
theorem dX7_emergency_1 : decode cX7_emergency 1 = .ok (.aload_n 0, 1) := by decide +kernel
theorem dX7_emergency_2 : decode cX7_emergency 2 = .ok (.getfield 21, 3) := by decide +kernel
theorem dX7_emergency_5 : decode cX7_emergency 5 = .ok (.getfield 81, 3) := by decide +kernel
theorem dX7_emergency_8 : decode cX7_emergency 8 = .ok (.invokestatic 103, 3) := by decide +kernel
theorem dX7_emergency_11 : decode cX7_emergency 11 = .ok (.aload_n 0, 1) := by decide +kernel
theorem dX7_emergency_12 : decode cX7_emergency 12 = .ok (.invokevirtual 122, 3) := by decide +kernel
theorem dX7_emergency_15 : decode cX7_emergency 15 = .ok (.aload_n 0, 1) := by decide +kernel
theorem dX7_emergency_16 : decode cX7_emergency 16 = .ok (.getfield 21, 3) := by decide +kernel
theorem dX7_emergency_19 : decode cX7_emergency 19 = .ok (.iload_n 1, 1) := by decide +kernel
theorem dX7_emergency_20 : decode cX7_emergency 20 = .ok (.invokevirtual 129, 3) := by decide +kernel
theorem dX7_emergency_23 : decode cX7_emergency 23 = .ok (.ireturn, 1) := by decide +kernel
theorem dX7_hang_0 : decode cX7_hang 0 = .ok (.iload_n 1, 1) := by decide +kernel
theorem dX7_hang_1 : decode cX7_hang 1 = .ok (.aload_n 0, 1) := by decide +kernel
theorem dX7_hang_2 : decode cX7_hang 2 = .ok (.getfield 21, 3) := by decide +kernel
theorem dX7_hang_5 : decode cX7_hang 5 = .ok (.getfield 133, 3) := by decide +kernel
theorem dX7_hang_8 : decode cX7_hang 8 = .ok (.invokestatic 103, 3) := by decide +kernel
theorem dX7_hang_11 : decode cX7_hang 11 = .ok (.aload_n 0, 1) := by decide +kernel
theorem dX7_hang_12 : decode cX7_hang 12 = .ok (.getfield 21, 3) := by decide +kernel
theorem dX7_hang_15 : decode cX7_hang 15 = .ok (.getfield 136, 3) := by decide +kernel
theorem dX7_hang_18 : decode cX7_hang 18 = .ok (.iload_n 1, 1) := by decide +kernel
theorem dX7_hang_19 : decode cX7_hang 19 = .ok (.aaload, 1) := by decide +kernel
theorem dX7_hang_20 : decode cX7_hang 20 = .ok (.astore_n 2, 1) := by decide +kernel
theorem dX7_hang_21 : decode cX7_hang 21 = .ok (.aload_n 2, 1) := by decide +kernel
theorem dX7_hang_22 : decode cX7_hang 22 = .ok (.getfield 140, 3) := by decide +kernel
theorem dX7_hang_25 : decode cX7_hang 25 = .ok (.ifCond .eq 13, 3) := by decide +kernel
theorem dX7_hang_28 : decode cX7_hang 28 = .ok (.new 43, 3) := by decide +kernel
theorem dX7_hang_31 : decode cX7_hang 31 = .ok (.dup, 1) := by decide +kernel
theorem dX7_hang_32 : decode cX7_hang 32 = .ok (.ldc 145, 2) := by decide +kernel
theorem dX7_hang_34 : decode cX7_hang 34 = .ok (.invokespecial 47, 3) := by decide +kernel
theorem dX7_hang_37 : decode cX7_hang 37 = .ok (.athrow, 1) := by decide +kernel
theorem dX7_hang_38 : decode cX7_hang 38 = .ok (.aload_n 0, 1) := by decide +kernel
theorem dX7_hang_39 : decode cX7_hang 39 = .ok (.getfield 21, 3) := by decide +kernel
theorem dX7_hang_42 : decode cX7_hang 42 = .ok (.aload_n 2, 1) := by decide +kernel
theorem dX7_hang_43 : decode cX7_hang 43 = .ok (.iconst 1, 1) := by decide +kernel
theorem dX7_hang_44 : decode cX7_hang 44 = .ok (.invokevirtual 147, 3) := by decide +kernel
theorem dX7_hang_47 : decode cX7_hang 47 = .ok (.aload_n 2, 1) := by decide +kernel
theorem dX7_hang_48 : decode cX7_hang 48 = .ok (.getfield 151, 3) := by decide +kernel
theorem dX7_hang_51 : decode cX7_hang 51 = .ok (.ireturn, 1) := by decide +kernel
theorem dX7_text_0 : decode cX7_text 0 = .ok (.iload_n 1, 1) := by decide +kernel
theorem dX7_text_1 : decode cX7_text 1 = .ok (.aload_n 0, 1) := by decide +kernel
theorem dX7_text_2 : decode cX7_text 2 = .ok (.getfield 21, 3) := by decide +kernel
theorem dX7_text_5 : decode cX7_text 5 = .ok (.getfield 81, 3) := by decide +kernel
theorem dX7_text_8 : decode cX7_text 8 = .ok (.invokestatic 103, 3) := by decide +kernel
theorem dX7_text_11 : decode cX7_text 11 = .ok (.iload_n 2, 1) := by decide +kernel
theorem dX7_text_12 : decode cX7_text 12 = .ok (.aload_n 0, 1) := by decide +kernel
theorem dX7_text_13 : decode cX7_text 13 = .ok (.getfield 21, 3) := by decide +kernel
theorem dX7_text_16 : decode cX7_text 16 = .ok (.getfield 81, 3) := by decide +kernel
theorem dX7_text_19 : decode cX7_text 19 = .ok (.invokestatic 103, 3) := by decide +kernel
theorem dX7_text_22 : decode cX7_text 22 = .ok (.iload_n 1, 1) := by decide +kernel
theorem dX7_text_23 : decode cX7_text 23 = .ok (.iload_n 2, 1) := by decide +kernel
theorem dX7_text_24 : decode cX7_text 24 = .ok (.invokestatic 119, 3) := by decide +kernel
theorem dX7_text_27 : decode cX7_text 27 = .ok (.aload_n 0, 1) := by decide +kernel
theorem dX7_text_28 : decode cX7_text 28 = .ok (.getfield 21, 3) := by decide +kernel
theorem dX7_text_31 : decode cX7_text 31 = .ok (.getfield 154, 3) := by decide +kernel
theorem dX7_text_34 : decode cX7_text 34 = .ok (.bipush 24, 2) := by decide +kernel
theorem dX7_text_36 : decode cX7_text 36 = .ok (.if_icmp .lt 13, 3) := by decide +kernel
theorem dX7_text_39 : decode cX7_text 39 = .ok (.new 43, 3) := by decide +kernel
theorem dX7_text_42 : decode cX7_text 42 = .ok (.dup, 1) := by decide +kernel
theorem dX7_text_43 : decode cX7_text 43 = .ok (.ldc 157, 2) := by decide +kernel
theorem dX7_text_45 : decode cX7_text 45 = .ok (.invokespecial 47, 3) := by decide +kernel
theorem dX7_text_48 : decode cX7_text 48 = .ok (.athrow, 1) := by decide +kernel
theorem dX7_text_49 : decode cX7_text 49 = .ok (.aload_n 0, 1) := by decide +kernel
theorem dX7_text_50 : decode cX7_text 50 = .ok (.getfield 21, 3) := by decide +kernel
theorem dX7_text_53 : decode cX7_text 53 = .ok (.dup, 1) := by decide +kernel
theorem dX7_text_54 : decode cX7_text 54 = .ok (.getfield 154, 3) := by decide +kernel
theorem dX7_text_57 : decode cX7_text 57 = .ok (.iconst 1, 1) := by decide +kernel
theorem dX7_text_58 : decode cX7_text 58 = .ok (.iadd, 1) := by decide +kernel
theorem dX7_text_59 : decode cX7_text 59 = .ok (.putfield 154, 3) := by decide +kernel
theorem dX7_text_62 : decode cX7_text 62 = .ok (.aload_n 0, 1) := by decide +kernel
theorem dX7_text_63 : decode cX7_text 63 = .ok (.getfield 21, 3) := by decide +kernel
theorem dX7_text_66 : decode cX7_text 66 = .ok (.getfield 86, 3) := by decide +kernel
theorem dX7_text_69 : decode cX7_text 69 = .ok (.iload_n 2, 1) := by decide +kernel
theorem dX7_text_70 : decode cX7_text 70 = .ok (.aaload, 1) := by decide +kernel
theorem dX7_text_71 : decode cX7_text 71 = .ok (.dup, 1) := by decide +kernel
theorem dX7_text_72 : decode cX7_text 72 = .ok (.getfield 159, 3) := by decide +kernel
theorem dX7_text_75 : decode cX7_text 75 = .ok (.iconst 1, 1) := by decide +kernel
theorem dX7_text_76 : decode cX7_text 76 = .ok (.iadd, 1) := by decide +kernel
theorem dX7_text_77 : decode cX7_text 77 = .ok (.putfield 159, 3) := by decide +kernel
theorem dX7_text_80 : decode cX7_text 80 = .ok (.aload_n 0, 1) := by decide +kernel
theorem dX7_text_81 : decode cX7_text 81 = .ok (.getfield 21, 3) := by decide +kernel
theorem dX7_text_84 : decode cX7_text 84 = .ok (.getfield 86, 3) := by decide +kernel
theorem dX7_text_87 : decode cX7_text 87 = .ok (.iload_n 2, 1) := by decide +kernel
theorem dX7_text_88 : decode cX7_text 88 = .ok (.aaload, 1) := by decide +kernel
theorem dX7_text_89 : decode cX7_text 89 = .ok (.getfield 159, 3) := by decide +kernel
theorem dX7_text_92 : decode cX7_text 92 = .ok (.ireturn, 1) := by decide +kernel
theorem dX7_forget_0 : decode cX7_forget 0 = .ok (.aload_n 0, 1) := by decide +kernel
theorem dX7_forget_1 : decode cX7_forget 1 = .ok (.getfield 21, 3) := by decide +kernel
theorem dX7_forget_4 : decode cX7_forget 4 = .ok (.invokevirtual 162, 3) := by decide +kernel
theorem dX7_forget_7 : decode cX7_forget 7 = .ok (.ireturn, 1) := by decide +kernel
theorem dX7_pass_0 : decode cX7_pass 0 = .ok (.iload_n 1, 1) := by decide +kernel
theorem dX7_pass_1 : decode cX7_pass 1 = .ok (.iconst 1, 1) := by decide +kernel
theorem dX7_pass_2 : decode cX7_pass 2 = .ok (.bipush 99, 2) := by decide +kernel
theorem dX7_pass_4 : decode cX7_pass 4 = .ok (.invokestatic 35, 3) := by decide +kernel
theorem dX7_pass_7 : decode cX7_pass 7 = .ok (.aload_n 0, 1) := by decide +kernel
theorem dX7_pass_8 : decode cX7_pass 8 = .ok (.getfield 21, 3) := by decide +kernel
theorem dX7_pass_11 : decode cX7_pass 11 = .ok (.iconst 0, 1) := by decide +kernel
theorem dX7_pass_12 : decode cX7_pass 12 = .ok (.invokevirtual 166, 3) := by decide +kernel
theorem dX7_pass_15 : decode cX7_pass 15 = .ok (.istore_n 2, 1) := by decide +kernel
theorem dX7_pass_16 : decode cX7_pass 16 = .ok (.iconst 0, 1) := by decide +kernel
theorem dX7_pass_17 : decode cX7_pass 17 = .ok (.istore_n 3, 1) := by decide +kernel
theorem dX7_pass_18 : decode cX7_pass 18 = .ok (.iload_n 3, 1) := by decide +kernel
theorem dX7_pass_19 : decode cX7_pass 19 = .ok (.iload_n 1, 1) := by decide +kernel
theorem dX7_pass_20 : decode cX7_pass 20 = .ok (.if_icmp .ge 16, 3) := by decide +kernel
theorem dX7_pass_23 : decode cX7_pass 23 = .ok (.aload_n 0, 1) := by decide +kernel
theorem dX7_pass_24 : decode cX7_pass 24 = .ok (.getfield 21, 3) := by decide +kernel
theorem dX7_pass_27 : decode cX7_pass 27 = .ok (.invokevirtual 169, 3) := by decide +kernel
theorem dX7_pass_30 : decode cX7_pass 30 = .ok (.iinc 3 1, 3) := by decide +kernel
theorem dX7_pass_33 : decode cX7_pass 33 = .ok (.goto (-15), 3) := by decide +kernel
theorem dX7_pass_36 : decode cX7_pass 36 = .ok (.iload_n 2, 1) := by decide +kernel
theorem dX7_pass_37 : decode cX7_pass 37 = .ok (.aload_n 0, 1) := by decide +kernel
theorem dX7_pass_38 : decode cX7_pass 38 = .ok (.getfield 21, 3) := by decide +kernel
theorem dX7_pass_41 : decode cX7_pass 41 = .ok (.iconst 0, 1) := by decide +kernel
theorem dX7_pass_42 : decode cX7_pass 42 = .ok (.invokevirtual 166, 3) := by decide +kernel
theorem dX7_pass_45 : decode cX7_pass 45 = .ok (.isub, 1) := by decide +kernel
theorem dX7_pass_46 : decode cX7_pass 46 = .ok (.ireturn, 1) := by decide +kernel
theorem dX7_quality_0 : decode cX7_quality 0 = .ok (.iload_n 1, 1) := by decide +kernel
theorem dX7_quality_1 : decode cX7_quality 1 = .ok (.aload_n 0, 1) := by decide +kernel
theorem dX7_quality_2 : decode cX7_quality 2 = .ok (.getfield 10, 3) := by decide +kernel
theorem dX7_quality_5 : decode cX7_quality 5 = .ok (.getfield 39, 3) := by decide +kernel
theorem dX7_quality_8 : decode cX7_quality 8 = .ok (.invokestatic 103, 3) := by decide +kernel
theorem dX7_quality_11 : decode cX7_quality 11 = .ok (.iload_n 2, 1) := by decide +kernel
theorem dX7_quality_12 : decode cX7_quality 12 = .ok (.iconst 0, 1) := by decide +kernel
theorem dX7_quality_13 : decode cX7_quality 13 = .ok (.bipush 99, 2) := by decide +kernel
theorem dX7_quality_15 : decode cX7_quality 15 = .ok (.invokestatic 35, 3) := by decide +kernel
theorem dX7_quality_18 : decode cX7_quality 18 = .ok (.aload_n 0, 1) := by decide +kernel
theorem dX7_quality_19 : decode cX7_quality 19 = .ok (.getfield 21, 3) := by decide +kernel
theorem dX7_quality_22 : decode cX7_quality 22 = .ok (.iload_n 1, 1) := by decide +kernel
theorem dX7_quality_23 : decode cX7_quality 23 = .ok (.iload_n 2, 1) := by decide +kernel
theorem dX7_quality_24 : decode cX7_quality 24 = .ok (.invokevirtual 172, 3) := by decide +kernel
theorem dX7_quality_27 : decode cX7_quality 27 = .ok (.ireturn, 1) := by decide +kernel
theorem dX7_best_0 : decode cX7_best 0 = .ok (.iload_n 1, 1) := by decide +kernel
theorem dX7_best_1 : decode cX7_best 1 = .ok (.iconst 0, 1) := by decide +kernel
theorem dX7_best_2 : decode cX7_best 2 = .ok (.bipush 99, 2) := by decide +kernel
theorem dX7_best_4 : decode cX7_best 4 = .ok (.invokestatic 35, 3) := by decide +kernel
theorem dX7_best_7 : decode cX7_best 7 = .ok (.aload_n 0, 1) := by decide +kernel
theorem dX7_best_8 : decode cX7_best 8 = .ok (.getfield 21, 3) := by decide +kernel
theorem dX7_best_11 : decode cX7_best 11 = .ok (.iload_n 1, 1) := by decide +kernel
theorem dX7_best_12 : decode cX7_best 12 = .ok (.invokevirtual 175, 3) := by decide +kernel
theorem dX7_best_15 : decode cX7_best 15 = .ok (.ireturn, 1) := by decide +kernel
theorem dX7_ofMast_0 : decode cX7_ofMast 0 = .ok (.iload_n 1, 1) := by decide +kernel
theorem dX7_ofMast_1 : decode cX7_ofMast 1 = .ok (.aload_n 0, 1) := by decide +kernel
theorem dX7_ofMast_2 : decode cX7_ofMast 2 = .ok (.getfield 10, 3) := by decide +kernel
theorem dX7_ofMast_5 : decode cX7_ofMast 5 = .ok (.getfield 39, 3) := by decide +kernel
theorem dX7_ofMast_8 : decode cX7_ofMast 8 = .ok (.invokestatic 103, 3) := by decide +kernel
theorem dX7_ofMast_11 : decode cX7_ofMast 11 = .ok (.iload_n 2, 1) := by decide +kernel
theorem dX7_ofMast_12 : decode cX7_ofMast 12 = .ok (.iconst 0, 1) := by decide +kernel
theorem dX7_ofMast_13 : decode cX7_ofMast 13 = .ok (.bipush 9, 2) := by decide +kernel
theorem dX7_ofMast_15 : decode cX7_ofMast 15 = .ok (.invokestatic 35, 3) := by decide +kernel
theorem dX7_ofMast_18 : decode cX7_ofMast 18 = .ok (.iload_n 2, 1) := by decide +kernel
theorem dX7_ofMast_19 : decode cX7_ofMast 19 = .ok (.tableswitch 54 7 9 #[25, 35, 44], 25) := by decide +kernel
theorem dX7_ofMast_44 : decode cX7_ofMast 44 = .ok (.aload_n 0, 1) := by decide +kernel
theorem dX7_ofMast_45 : decode cX7_ofMast 45 = .ok (.getfield 21, 3) := by decide +kernel
theorem dX7_ofMast_48 : decode cX7_ofMast 48 = .ok (.getfield 111, 3) := by decide +kernel
theorem dX7_ofMast_51 : decode cX7_ofMast 51 = .ok (.iload_n 1, 1) := by decide +kernel
theorem dX7_ofMast_52 : decode cX7_ofMast 52 = .ok (.iaload, 1) := by decide +kernel
theorem dX7_ofMast_53 : decode cX7_ofMast 53 = .ok (.ireturn, 1) := by decide +kernel
theorem dX7_ofMast_54 : decode cX7_ofMast 54 = .ok (.aload_n 0, 1) := by decide +kernel
theorem dX7_ofMast_55 : decode cX7_ofMast 55 = .ok (.getfield 21, 3) := by decide +kernel
theorem dX7_ofMast_58 : decode cX7_ofMast 58 = .ok (.iload_n 1, 1) := by decide +kernel
theorem dX7_ofMast_59 : decode cX7_ofMast 59 = .ok (.invokevirtual 178, 3) := by decide +kernel
theorem dX7_ofMast_62 : decode cX7_ofMast 62 = .ok (.ireturn, 1) := by decide +kernel
theorem dX7_ofMast_63 : decode cX7_ofMast 63 = .ok (.aload_n 0, 1) := by decide +kernel
theorem dX7_ofMast_64 : decode cX7_ofMast 64 = .ok (.getfield 21, 3) := by decide +kernel
theorem dX7_ofMast_67 : decode cX7_ofMast 67 = .ok (.getfield 181, 3) := by decide +kernel
theorem dX7_ofMast_70 : decode cX7_ofMast 70 = .ok (.iload_n 1, 1) := by decide +kernel
theorem dX7_ofMast_71 : decode cX7_ofMast 71 = .ok (.iaload, 1) := by decide +kernel
theorem dX7_ofMast_72 : decode cX7_ofMast 72 = .ok (.ireturn, 1) := by decide +kernel
theorem dX7_ofMast_73 : decode cX7_ofMast 73 = .ok (.aload_n 0, 1) := by decide +kernel
theorem dX7_ofMast_74 : decode cX7_ofMast 74 = .ok (.getfield 10, 3) := by decide +kernel
theorem dX7_ofMast_77 : decode cX7_ofMast 77 = .ok (.getfield 50, 3) := by decide +kernel
theorem dX7_ofMast_80 : decode cX7_ofMast 80 = .ok (.iload_n 1, 1) := by decide +kernel
theorem dX7_ofMast_81 : decode cX7_ofMast 81 = .ok (.aaload, 1) := by decide +kernel
theorem dX7_ofMast_82 : decode cX7_ofMast 82 = .ok (.iload_n 2, 1) := by decide +kernel
theorem dX7_ofMast_83 : decode cX7_ofMast 83 = .ok (.invokevirtual 184, 3) := by decide +kernel
theorem dX7_ofMast_86 : decode cX7_ofMast 86 = .ok (.ireturn, 1) := by decide +kernel
theorem dX7_ofHandset_0 : decode cX7_ofHandset 0 = .ok (.iload_n 1, 1) := by decide +kernel
theorem dX7_ofHandset_1 : decode cX7_ofHandset 1 = .ok (.aload_n 0, 1) := by decide +kernel
theorem dX7_ofHandset_2 : decode cX7_ofHandset 2 = .ok (.getfield 21, 3) := by decide +kernel
theorem dX7_ofHandset_5 : decode cX7_ofHandset 5 = .ok (.getfield 81, 3) := by decide +kernel
theorem dX7_ofHandset_8 : decode cX7_ofHandset 8 = .ok (.invokestatic 103, 3) := by decide +kernel
theorem dX7_ofHandset_11 : decode cX7_ofHandset 11 = .ok (.iload_n 2, 1) := by decide +kernel
theorem dX7_ofHandset_12 : decode cX7_ofHandset 12 = .ok (.iconst 0, 1) := by decide +kernel
theorem dX7_ofHandset_13 : decode cX7_ofHandset 13 = .ok (.bipush 10, 2) := by decide +kernel
theorem dX7_ofHandset_15 : decode cX7_ofHandset 15 = .ok (.invokestatic 35, 3) := by decide +kernel
theorem dX7_ofHandset_18 : decode cX7_ofHandset 18 = .ok (.aload_n 0, 1) := by decide +kernel
theorem dX7_ofHandset_19 : decode cX7_ofHandset 19 = .ok (.getfield 21, 3) := by decide +kernel
theorem dX7_ofHandset_22 : decode cX7_ofHandset 22 = .ok (.getfield 86, 3) := by decide +kernel
theorem dX7_ofHandset_25 : decode cX7_ofHandset 25 = .ok (.iload_n 1, 1) := by decide +kernel
theorem dX7_ofHandset_26 : decode cX7_ofHandset 26 = .ok (.aaload, 1) := by decide +kernel
theorem dX7_ofHandset_27 : decode cX7_ofHandset 27 = .ok (.iload_n 2, 1) := by decide +kernel
theorem dX7_ofHandset_28 : decode cX7_ofHandset 28 = .ok (.invokevirtual 187, 3) := by decide +kernel
theorem dX7_ofHandset_31 : decode cX7_ofHandset 31 = .ok (.ireturn, 1) := by decide +kernel
theorem dX7_ofCall_0 : decode cX7_ofCall 0 = .ok (.iload_n 1, 1) := by decide +kernel
theorem dX7_ofCall_1 : decode cX7_ofCall 1 = .ok (.aload_n 0, 1) := by decide +kernel
theorem dX7_ofCall_2 : decode cX7_ofCall 2 = .ok (.getfield 21, 3) := by decide +kernel
theorem dX7_ofCall_5 : decode cX7_ofCall 5 = .ok (.getfield 133, 3) := by decide +kernel
theorem dX7_ofCall_8 : decode cX7_ofCall 8 = .ok (.invokestatic 103, 3) := by decide +kernel
theorem dX7_ofCall_11 : decode cX7_ofCall 11 = .ok (.iload_n 2, 1) := by decide +kernel
theorem dX7_ofCall_12 : decode cX7_ofCall 12 = .ok (.iconst 0, 1) := by decide +kernel
theorem dX7_ofCall_13 : decode cX7_ofCall 13 = .ok (.bipush 8, 2) := by decide +kernel
theorem dX7_ofCall_15 : decode cX7_ofCall 15 = .ok (.invokestatic 35, 3) := by decide +kernel
theorem dX7_ofCall_18 : decode cX7_ofCall 18 = .ok (.aload_n 0, 1) := by decide +kernel
theorem dX7_ofCall_19 : decode cX7_ofCall 19 = .ok (.getfield 21, 3) := by decide +kernel
theorem dX7_ofCall_22 : decode cX7_ofCall 22 = .ok (.getfield 136, 3) := by decide +kernel
theorem dX7_ofCall_25 : decode cX7_ofCall 25 = .ok (.iload_n 1, 1) := by decide +kernel
theorem dX7_ofCall_26 : decode cX7_ofCall 26 = .ok (.aaload, 1) := by decide +kernel
theorem dX7_ofCall_27 : decode cX7_ofCall 27 = .ok (.iload_n 2, 1) := by decide +kernel
theorem dX7_ofCall_28 : decode cX7_ofCall 28 = .ok (.invokevirtual 188, 3) := by decide +kernel
theorem dX7_ofCall_31 : decode cX7_ofCall 31 = .ok (.ireturn, 1) := by decide +kernel
theorem dX7_many_0 : decode cX7_many 0 = .ok (.iload_n 1, 1) := by decide +kernel
theorem dX7_many_1 : decode cX7_many 1 = .ok (.iconst 0, 1) := by decide +kernel
theorem dX7_many_2 : decode cX7_many 2 = .ok (.bipush 14, 2) := by decide +kernel
theorem dX7_many_4 : decode cX7_many 4 = .ok (.invokestatic 35, 3) := by decide +kernel
theorem dX7_many_7 : decode cX7_many 7 = .ok (.iload_n 1, 1) := by decide +kernel
theorem dX7_many_8 : decode cX7_many 8 = .ok (.tableswitch 193 0 13 #[72, 80, 88, 96, 104, 113, 122, 131, 140, 148, 156, 166, 176, 185], 72) := by decide +kernel
theorem dX7_many_80 : decode cX7_many 80 = .ok (.aload_n 0, 1) := by decide +kernel
theorem dX7_many_81 : decode cX7_many 81 = .ok (.getfield 21, 3) := by decide +kernel
theorem dX7_many_84 : decode cX7_many 84 = .ok (.getfield 189, 3) := by decide +kernel
theorem dX7_many_87 : decode cX7_many 87 = .ok (.ireturn, 1) := by decide +kernel
theorem dX7_many_88 : decode cX7_many 88 = .ok (.aload_n 0, 1) := by decide +kernel
theorem dX7_many_89 : decode cX7_many 89 = .ok (.getfield 10, 3) := by decide +kernel
theorem dX7_many_92 : decode cX7_many 92 = .ok (.getfield 39, 3) := by decide +kernel
theorem dX7_many_95 : decode cX7_many 95 = .ok (.ireturn, 1) := by decide +kernel
theorem dX7_many_96 : decode cX7_many 96 = .ok (.aload_n 0, 1) := by decide +kernel
theorem dX7_many_97 : decode cX7_many 97 = .ok (.getfield 21, 3) := by decide +kernel
theorem dX7_many_100 : decode cX7_many 100 = .ok (.getfield 81, 3) := by decide +kernel
theorem dX7_many_103 : decode cX7_many 103 = .ok (.ireturn, 1) := by decide +kernel
theorem dX7_many_104 : decode cX7_many 104 = .ok (.aload_n 0, 1) := by decide +kernel
theorem dX7_many_105 : decode cX7_many 105 = .ok (.getfield 21, 3) := by decide +kernel
theorem dX7_many_108 : decode cX7_many 108 = .ok (.getfield 133, 3) := by decide +kernel
theorem dX7_many_111 : decode cX7_many 111 = .ok (.ireturn, 1) := by decide +kernel
theorem dX7_many_112 : decode cX7_many 112 = .ok (.aload_n 0, 1) := by decide +kernel
theorem dX7_many_113 : decode cX7_many 113 = .ok (.getfield 21, 3) := by decide +kernel
theorem dX7_many_116 : decode cX7_many 116 = .ok (.iconst 0, 1) := by decide +kernel
theorem dX7_many_117 : decode cX7_many 117 = .ok (.invokevirtual 166, 3) := by decide +kernel
theorem dX7_many_120 : decode cX7_many 120 = .ok (.ireturn, 1) := by decide +kernel
theorem dX7_many_121 : decode cX7_many 121 = .ok (.aload_n 0, 1) := by decide +kernel
theorem dX7_many_122 : decode cX7_many 122 = .ok (.getfield 21, 3) := by decide +kernel
theorem dX7_many_125 : decode cX7_many 125 = .ok (.iconst 2, 1) := by decide +kernel
theorem dX7_many_126 : decode cX7_many 126 = .ok (.invokevirtual 166, 3) := by decide +kernel
theorem dX7_many_129 : decode cX7_many 129 = .ok (.ireturn, 1) := by decide +kernel
theorem dX7_many_130 : decode cX7_many 130 = .ok (.aload_n 0, 1) := by decide +kernel
theorem dX7_many_131 : decode cX7_many 131 = .ok (.getfield 21, 3) := by decide +kernel
theorem dX7_many_134 : decode cX7_many 134 = .ok (.iconst 4, 1) := by decide +kernel
theorem dX7_many_135 : decode cX7_many 135 = .ok (.invokevirtual 192, 3) := by decide +kernel
theorem dX7_many_138 : decode cX7_many 138 = .ok (.ireturn, 1) := by decide +kernel
theorem dX7_many_139 : decode cX7_many 139 = .ok (.aload_n 0, 1) := by decide +kernel
theorem dX7_many_140 : decode cX7_many 140 = .ok (.getfield 21, 3) := by decide +kernel
theorem dX7_many_143 : decode cX7_many 143 = .ok (.iconst 5, 1) := by decide +kernel
theorem dX7_many_144 : decode cX7_many 144 = .ok (.invokevirtual 192, 3) := by decide +kernel
theorem dX7_many_147 : decode cX7_many 147 = .ok (.ireturn, 1) := by decide +kernel
theorem dX7_many_148 : decode cX7_many 148 = .ok (.aload_n 0, 1) := by decide +kernel
theorem dX7_many_149 : decode cX7_many 149 = .ok (.getfield 21, 3) := by decide +kernel
theorem dX7_many_152 : decode cX7_many 152 = .ok (.getfield 195, 3) := by decide +kernel
theorem dX7_many_155 : decode cX7_many 155 = .ok (.ireturn, 1) := by decide +kernel
theorem dX7_many_156 : decode cX7_many 156 = .ok (.aload_n 0, 1) := by decide +kernel
theorem dX7_many_157 : decode cX7_many 157 = .ok (.getfield 21, 3) := by decide +kernel
theorem dX7_many_160 : decode cX7_many 160 = .ok (.getfield 154, 3) := by decide +kernel
theorem dX7_many_163 : decode cX7_many 163 = .ok (.ireturn, 1) := by decide +kernel
theorem dX7_many_164 : decode cX7_many 164 = .ok (.aload_n 0, 1) := by decide +kernel
theorem dX7_many_165 : decode cX7_many 165 = .ok (.getfield 21, 3) := by decide +kernel
theorem dX7_many_168 : decode cX7_many 168 = .ok (.bipush 10, 2) := by decide +kernel
theorem dX7_many_170 : decode cX7_many 170 = .ok (.invokevirtual 198, 3) := by decide +kernel
theorem dX7_many_173 : decode cX7_many 173 = .ok (.ireturn, 1) := by decide +kernel
theorem dX7_many_174 : decode cX7_many 174 = .ok (.aload_n 0, 1) := by decide +kernel
theorem dX7_many_175 : decode cX7_many 175 = .ok (.getfield 21, 3) := by decide +kernel
theorem dX7_many_178 : decode cX7_many 178 = .ok (.bipush 8, 2) := by decide +kernel
theorem dX7_many_180 : decode cX7_many 180 = .ok (.invokevirtual 198, 3) := by decide +kernel
theorem dX7_many_183 : decode cX7_many 183 = .ok (.ireturn, 1) := by decide +kernel
theorem dX7_many_184 : decode cX7_many 184 = .ok (.aload_n 0, 1) := by decide +kernel
theorem dX7_many_185 : decode cX7_many 185 = .ok (.getfield 21, 3) := by decide +kernel
theorem dX7_many_188 : decode cX7_many 188 = .ok (.iconst 3, 1) := by decide +kernel
theorem dX7_many_189 : decode cX7_many 189 = .ok (.invokevirtual 192, 3) := by decide +kernel
theorem dX7_many_192 : decode cX7_many 192 = .ok (.ireturn, 1) := by decide +kernel
theorem dX7_many_193 : decode cX7_many 193 = .ok (.aload_n 0, 1) := by decide +kernel
theorem dX7_many_194 : decode cX7_many 194 = .ok (.getfield 21, 3) := by decide +kernel
theorem dX7_many_197 : decode cX7_many 197 = .ok (.invokevirtual 201, 3) := by decide +kernel
theorem dX7_many_200 : decode cX7_many 200 = .ok (.ireturn, 1) := by decide +kernel
theorem dX7_many_201 : decode cX7_many 201 = .ok (.aload_n 0, 1) := by decide +kernel
theorem dX7_many_202 : decode cX7_many 202 = .ok (.getfield 21, 3) := by decide +kernel
theorem dX7_many_205 : decode cX7_many 205 = .ok (.invokevirtual 204, 3) := by decide +kernel
theorem dX7_many_208 : decode cX7_many 208 = .ok (.ireturn, 1) := by decide +kernel
theorem dX7_meanSeconds_0 : decode cX7_meanSeconds 0 = .ok (.aload_n 0, 1) := by decide +kernel
theorem dX7_meanSeconds_1 : decode cX7_meanSeconds 1 = .ok (.getfield 21, 3) := by decide +kernel
theorem dX7_meanSeconds_4 : decode cX7_meanSeconds 4 = .ok (.getfield 133, 3) := by decide +kernel
theorem dX7_meanSeconds_7 : decode cX7_meanSeconds 7 = .ok (.aload_n 0, 1) := by decide +kernel
theorem dX7_meanSeconds_8 : decode cX7_meanSeconds 8 = .ok (.getfield 21, 3) := by decide +kernel
theorem dX7_meanSeconds_11 : decode cX7_meanSeconds 11 = .ok (.iconst 0, 1) := by decide +kernel
theorem dX7_meanSeconds_12 : decode cX7_meanSeconds 12 = .ok (.invokevirtual 166, 3) := by decide +kernel
theorem dX7_meanSeconds_15 : decode cX7_meanSeconds 15 = .ok (.isub, 1) := by decide +kernel
theorem dX7_meanSeconds_16 : decode cX7_meanSeconds 16 = .ok (.istore_n 1, 1) := by decide +kernel
theorem dX7_meanSeconds_17 : decode cX7_meanSeconds 17 = .ok (.iload_n 1, 1) := by decide +kernel
theorem dX7_meanSeconds_18 : decode cX7_meanSeconds 18 = .ok (.ifCond .gt 5, 3) := by decide +kernel
theorem dX7_meanSeconds_21 : decode cX7_meanSeconds 21 = .ok (.dconst 0, 1) := by decide +kernel
theorem dX7_meanSeconds_22 : decode cX7_meanSeconds 22 = .ok (.dreturn, 1) := by decide +kernel
theorem dX7_meanSeconds_23 : decode cX7_meanSeconds 23 = .ok (.aload_n 0, 1) := by decide +kernel
theorem dX7_meanSeconds_24 : decode cX7_meanSeconds 24 = .ok (.getfield 21, 3) := by decide +kernel
theorem dX7_meanSeconds_27 : decode cX7_meanSeconds 27 = .ok (.invokevirtual 207, 3) := by decide +kernel
theorem dX7_meanSeconds_30 : decode cX7_meanSeconds 30 = .ok (.i2d, 1) := by decide +kernel
theorem dX7_meanSeconds_31 : decode cX7_meanSeconds 31 = .ok (.iload_n 1, 1) := by decide +kernel
theorem dX7_meanSeconds_32 : decode cX7_meanSeconds 32 = .ok (.i2d, 1) := by decide +kernel
theorem dX7_meanSeconds_33 : decode cX7_meanSeconds 33 = .ok (.ddiv, 1) := by decide +kernel
theorem dX7_meanSeconds_34 : decode cX7_meanSeconds 34 = .ok (.dreturn, 1) := by decide +kernel
theorem dX7_endsIn_0 : decode cX7_endsIn 0 = .ok (.iload_n 1, 1) := by decide +kernel
theorem dX7_endsIn_1 : decode cX7_endsIn 1 = .ok (.aload_n 0, 1) := by decide +kernel
theorem dX7_endsIn_2 : decode cX7_endsIn 2 = .ok (.getfield 21, 3) := by decide +kernel
theorem dX7_endsIn_5 : decode cX7_endsIn 5 = .ok (.getfield 133, 3) := by decide +kernel
theorem dX7_endsIn_8 : decode cX7_endsIn 8 = .ok (.invokestatic 103, 3) := by decide +kernel
theorem dX7_endsIn_11 : decode cX7_endsIn 11 = .ok (.iload_n 2, 1) := by decide +kernel
theorem dX7_endsIn_12 : decode cX7_endsIn 12 = .ok (.iconst 1, 1) := by decide +kernel
theorem dX7_endsIn_13 : decode cX7_endsIn 13 = .ok (.bipush 99, 2) := by decide +kernel
theorem dX7_endsIn_15 : decode cX7_endsIn 15 = .ok (.invokestatic 35, 3) := by decide +kernel
theorem dX7_endsIn_18 : decode cX7_endsIn 18 = .ok (.aload_n 0, 1) := by decide +kernel
theorem dX7_endsIn_19 : decode cX7_endsIn 19 = .ok (.getfield 21, 3) := by decide +kernel
theorem dX7_endsIn_22 : decode cX7_endsIn 22 = .ok (.getfield 136, 3) := by decide +kernel
theorem dX7_endsIn_25 : decode cX7_endsIn 25 = .ok (.iload_n 1, 1) := by decide +kernel
theorem dX7_endsIn_26 : decode cX7_endsIn 26 = .ok (.aaload, 1) := by decide +kernel
theorem dX7_endsIn_27 : decode cX7_endsIn 27 = .ok (.getfield 140, 3) := by decide +kernel
theorem dX7_endsIn_30 : decode cX7_endsIn 30 = .ok (.ifCond .eq 5, 3) := by decide +kernel
theorem dX7_endsIn_33 : decode cX7_endsIn 33 = .ok (.iconst 0, 1) := by decide +kernel
theorem dX7_endsIn_34 : decode cX7_endsIn 34 = .ok (.ireturn, 1) := by decide +kernel
theorem dX7_endsIn_35 : decode cX7_endsIn 35 = .ok (.aload_n 0, 1) := by decide +kernel
theorem dX7_endsIn_36 : decode cX7_endsIn 36 = .ok (.getfield 25, 3) := by decide +kernel
theorem dX7_endsIn_39 : decode cX7_endsIn 39 = .ok (.aload_n 0, 1) := by decide +kernel
theorem dX7_endsIn_40 : decode cX7_endsIn 40 = .ok (.getfield 21, 3) := by decide +kernel
theorem dX7_endsIn_43 : decode cX7_endsIn 43 = .ok (.invokevirtual 210, 3) := by decide +kernel
theorem dX7_endsIn_46 : decode cX7_endsIn 46 = .ok (.iconst 1, 1) := by decide +kernel
theorem dX7_endsIn_47 : decode cX7_endsIn 47 = .ok (.istore_n 3, 1) := by decide +kernel
theorem dX7_endsIn_48 : decode cX7_endsIn 48 = .ok (.iload_n 3, 1) := by decide +kernel
theorem dX7_endsIn_49 : decode cX7_endsIn 49 = .ok (.iload_n 2, 1) := by decide +kernel
theorem dX7_endsIn_50 : decode cX7_endsIn 50 = .ok (.if_icmp .gt 33, 3) := by decide +kernel
theorem dX7_endsIn_53 : decode cX7_endsIn 53 = .ok (.aload_n 0, 1) := by decide +kernel
theorem dX7_endsIn_54 : decode cX7_endsIn 54 = .ok (.getfield 25, 3) := by decide +kernel
theorem dX7_endsIn_57 : decode cX7_endsIn 57 = .ok (.invokevirtual 169, 3) := by decide +kernel
theorem dX7_endsIn_60 : decode cX7_endsIn 60 = .ok (.aload_n 0, 1) := by decide +kernel
theorem dX7_endsIn_61 : decode cX7_endsIn 61 = .ok (.getfield 25, 3) := by decide +kernel
theorem dX7_endsIn_64 : decode cX7_endsIn 64 = .ok (.getfield 136, 3) := by decide +kernel
theorem dX7_endsIn_67 : decode cX7_endsIn 67 = .ok (.iload_n 1, 1) := by decide +kernel
theorem dX7_endsIn_68 : decode cX7_endsIn 68 = .ok (.aaload, 1) := by decide +kernel
theorem dX7_endsIn_69 : decode cX7_endsIn 69 = .ok (.getfield 140, 3) := by decide +kernel
theorem dX7_endsIn_72 : decode cX7_endsIn 72 = .ok (.ifCond .eq 5, 3) := by decide +kernel
theorem dX7_endsIn_75 : decode cX7_endsIn 75 = .ok (.iload_n 3, 1) := by decide +kernel
theorem dX7_endsIn_76 : decode cX7_endsIn 76 = .ok (.ireturn, 1) := by decide +kernel
theorem dX7_endsIn_77 : decode cX7_endsIn 77 = .ok (.iinc 3 1, 3) := by decide +kernel
theorem dX7_endsIn_80 : decode cX7_endsIn 80 = .ok (.goto (-32), 3) := by decide +kernel
theorem dX7_endsIn_83 : decode cX7_endsIn 83 = .ok (.iconst (-1), 1) := by decide +kernel
theorem dX7_endsIn_84 : decode cX7_endsIn 84 = .ok (.ireturn, 1) := by decide +kernel
theorem dX7_wouldBeOn_0 : decode cX7_wouldBeOn 0 = .ok (.iload_n 1, 1) := by decide +kernel
theorem dX7_wouldBeOn_1 : decode cX7_wouldBeOn 1 = .ok (.aload_n 0, 1) := by decide +kernel
theorem dX7_wouldBeOn_2 : decode cX7_wouldBeOn 2 = .ok (.getfield 21, 3) := by decide +kernel
theorem dX7_wouldBeOn_5 : decode cX7_wouldBeOn 5 = .ok (.getfield 81, 3) := by decide +kernel
theorem dX7_wouldBeOn_8 : decode cX7_wouldBeOn 8 = .ok (.invokestatic 103, 3) := by decide +kernel
theorem dX7_wouldBeOn_11 : decode cX7_wouldBeOn 11 = .ok (.iload_n 2, 1) := by decide +kernel
theorem dX7_wouldBeOn_12 : decode cX7_wouldBeOn 12 = .ok (.iconst 0, 1) := by decide +kernel
theorem dX7_wouldBeOn_13 : decode cX7_wouldBeOn 13 = .ok (.bipush 99, 2) := by decide +kernel
theorem dX7_wouldBeOn_15 : decode cX7_wouldBeOn 15 = .ok (.invokestatic 35, 3) := by decide +kernel
theorem dX7_wouldBeOn_18 : decode cX7_wouldBeOn 18 = .ok (.aload_n 0, 1) := by decide +kernel
theorem dX7_wouldBeOn_19 : decode cX7_wouldBeOn 19 = .ok (.getfield 25, 3) := by decide +kernel
theorem dX7_wouldBeOn_22 : decode cX7_wouldBeOn 22 = .ok (.aload_n 0, 1) := by decide +kernel
theorem dX7_wouldBeOn_23 : decode cX7_wouldBeOn 23 = .ok (.getfield 21, 3) := by decide +kernel
theorem dX7_wouldBeOn_26 : decode cX7_wouldBeOn 26 = .ok (.invokevirtual 210, 3) := by decide +kernel
theorem dX7_wouldBeOn_29 : decode cX7_wouldBeOn 29 = .ok (.iconst 0, 1) := by decide +kernel
theorem dX7_wouldBeOn_30 : decode cX7_wouldBeOn 30 = .ok (.istore_n 3, 1) := by decide +kernel
theorem dX7_wouldBeOn_31 : decode cX7_wouldBeOn 31 = .ok (.iload_n 3, 1) := by decide +kernel
theorem dX7_wouldBeOn_32 : decode cX7_wouldBeOn 32 = .ok (.iload_n 2, 1) := by decide +kernel
theorem dX7_wouldBeOn_33 : decode cX7_wouldBeOn 33 = .ok (.if_icmp .ge 16, 3) := by decide +kernel
theorem dX7_wouldBeOn_36 : decode cX7_wouldBeOn 36 = .ok (.aload_n 0, 1) := by decide +kernel
theorem dX7_wouldBeOn_37 : decode cX7_wouldBeOn 37 = .ok (.getfield 25, 3) := by decide +kernel
theorem dX7_wouldBeOn_40 : decode cX7_wouldBeOn 40 = .ok (.invokevirtual 169, 3) := by decide +kernel
theorem dX7_wouldBeOn_43 : decode cX7_wouldBeOn 43 = .ok (.iinc 3 1, 3) := by decide +kernel
theorem dX7_wouldBeOn_46 : decode cX7_wouldBeOn 46 = .ok (.goto (-15), 3) := by decide +kernel
theorem dX7_wouldBeOn_49 : decode cX7_wouldBeOn 49 = .ok (.aload_n 0, 1) := by decide +kernel
theorem dX7_wouldBeOn_50 : decode cX7_wouldBeOn 50 = .ok (.getfield 25, 3) := by decide +kernel
theorem dX7_wouldBeOn_53 : decode cX7_wouldBeOn 53 = .ok (.getfield 86, 3) := by decide +kernel
theorem dX7_wouldBeOn_56 : decode cX7_wouldBeOn 56 = .ok (.iload_n 1, 1) := by decide +kernel
theorem dX7_wouldBeOn_57 : decode cX7_wouldBeOn 57 = .ok (.aaload, 1) := by decide +kernel
theorem dX7_wouldBeOn_58 : decode cX7_wouldBeOn 58 = .ok (.getfield 214, 3) := by decide +kernel
theorem dX7_wouldBeOn_61 : decode cX7_wouldBeOn 61 = .ok (.ireturn, 1) := by decide +kernel
theorem dX7_bestPlace_0 : decode cX7_bestPlace 0 = .ok (.iload_n 1, 1) := by decide +kernel
theorem dX7_bestPlace_1 : decode cX7_bestPlace 1 = .ok (.bipush 10, 2) := by decide +kernel
theorem dX7_bestPlace_3 : decode cX7_bestPlace 3 = .ok (.bipush 60, 2) := by decide +kernel
theorem dX7_bestPlace_5 : decode cX7_bestPlace 5 = .ok (.invokestatic 35, 3) := by decide +kernel
theorem dX7_bestPlace_8 : decode cX7_bestPlace 8 = .ok (.iload_n 2, 1) := by decide +kernel
theorem dX7_bestPlace_9 : decode cX7_bestPlace 9 = .ok (.iconst 0, 1) := by decide +kernel
theorem dX7_bestPlace_10 : decode cX7_bestPlace 10 = .ok (.iconst 2, 1) := by decide +kernel
theorem dX7_bestPlace_11 : decode cX7_bestPlace 11 = .ok (.invokestatic 35, 3) := by decide +kernel
theorem dX7_bestPlace_14 : decode cX7_bestPlace 14 = .ok (.aload_n 0, 1) := by decide +kernel
theorem dX7_bestPlace_15 : decode cX7_bestPlace 15 = .ok (.getfield 10, 3) := by decide +kernel
theorem dX7_bestPlace_18 : decode cX7_bestPlace 18 = .ok (.getfield 39, 3) := by decide +kernel
theorem dX7_bestPlace_21 : decode cX7_bestPlace 21 = .ok (.bipush 6, 2) := by decide +kernel
theorem dX7_bestPlace_23 : decode cX7_bestPlace 23 = .ok (.if_icmp .lt 5, 3) := by decide +kernel
theorem dX7_bestPlace_26 : decode cX7_bestPlace 26 = .ok (.iconst (-1), 1) := by decide +kernel
theorem dX7_bestPlace_27 : decode cX7_bestPlace 27 = .ok (.ireturn, 1) := by decide +kernel
theorem dX7_bestPlace_28 : decode cX7_bestPlace 28 = .ok (.aload_n 0, 1) := by decide +kernel
theorem dX7_bestPlace_29 : decode cX7_bestPlace 29 = .ok (.getfield 31, 3) := by decide +kernel
theorem dX7_bestPlace_32 : decode cX7_bestPlace 32 = .ok (.aload_n 0, 1) := by decide +kernel
theorem dX7_bestPlace_33 : decode cX7_bestPlace 33 = .ok (.getfield 21, 3) := by decide +kernel
theorem dX7_bestPlace_36 : decode cX7_bestPlace 36 = .ok (.iload_n 2, 1) := by decide +kernel
theorem dX7_bestPlace_37 : decode cX7_bestPlace 37 = .ok (.invokevirtual 217, 3) := by decide +kernel
theorem dX7_bestPlace_40 : decode cX7_bestPlace 40 = .ok (.aload_n 0, 1) := by decide +kernel
theorem dX7_bestPlace_41 : decode cX7_bestPlace 41 = .ok (.getfield 31, 3) := by decide +kernel
theorem dX7_bestPlace_44 : decode cX7_bestPlace 44 = .ok (.iload_n 1, 1) := by decide +kernel
theorem dX7_bestPlace_45 : decode cX7_bestPlace 45 = .ok (.invokevirtual 221, 3) := by decide +kernel
theorem dX7_bestPlace_48 : decode cX7_bestPlace 48 = .ok (.ireturn, 1) := by decide +kernel
theorem dX7_digest_0 : decode cX7_digest 0 = .ok (.ldc2_w 224, 3) := by decide +kernel
theorem dX7_digest_3 : decode cX7_digest 3 = .ok (.lstore_n 1, 1) := by decide +kernel
theorem dX7_digest_4 : decode cX7_digest 4 = .ok (.iconst 0, 1) := by decide +kernel
theorem dX7_digest_5 : decode cX7_digest 5 = .ok (.istore_n 3, 1) := by decide +kernel
theorem dX7_digest_6 : decode cX7_digest 6 = .ok (.iload_n 3, 1) := by decide +kernel
theorem dX7_digest_7 : decode cX7_digest 7 = .ok (.bipush 14, 2) := by decide +kernel
theorem dX7_digest_9 : decode cX7_digest 9 = .ok (.if_icmp .gt 22, 3) := by decide +kernel
theorem dX7_digest_12 : decode cX7_digest 12 = .ok (.lload_n 1, 1) := by decide +kernel
theorem dX7_digest_13 : decode cX7_digest 13 = .ok (.ldc2_w 226, 3) := by decide +kernel
theorem dX7_digest_16 : decode cX7_digest 16 = .ok (.lmul, 1) := by decide +kernel
theorem dX7_digest_17 : decode cX7_digest 17 = .ok (.aload_n 0, 1) := by decide +kernel
theorem dX7_digest_18 : decode cX7_digest 18 = .ok (.iload_n 3, 1) := by decide +kernel
theorem dX7_digest_19 : decode cX7_digest 19 = .ok (.invokevirtual 228, 3) := by decide +kernel
theorem dX7_digest_22 : decode cX7_digest 22 = .ok (.i2l, 1) := by decide +kernel
theorem dX7_digest_23 : decode cX7_digest 23 = .ok (.ladd, 1) := by decide +kernel
theorem dX7_digest_24 : decode cX7_digest 24 = .ok (.lstore_n 1, 1) := by decide +kernel
theorem dX7_digest_25 : decode cX7_digest 25 = .ok (.iinc 3 1, 3) := by decide +kernel
theorem dX7_digest_28 : decode cX7_digest 28 = .ok (.goto (-22), 3) := by decide +kernel
theorem dX7_digest_31 : decode cX7_digest 31 = .ok (.aload_n 0, 1) := by decide +kernel
theorem dX7_digest_32 : decode cX7_digest 32 = .ok (.lload_n 1, 1) := by decide +kernel
theorem dX7_digest_33 : decode cX7_digest 33 = .ok (.invokevirtual 231, 3) := by decide +kernel
theorem dX7_digest_36 : decode cX7_digest 36 = .ok (.lstore_n 1, 1) := by decide +kernel
theorem dX7_digest_37 : decode cX7_digest 37 = .ok (.aload_n 0, 1) := by decide +kernel
theorem dX7_digest_38 : decode cX7_digest 38 = .ok (.lload_n 1, 1) := by decide +kernel
theorem dX7_digest_39 : decode cX7_digest 39 = .ok (.invokevirtual 235, 3) := by decide +kernel
theorem dX7_digest_42 : decode cX7_digest 42 = .ok (.lstore_n 1, 1) := by decide +kernel
theorem dX7_digest_43 : decode cX7_digest 43 = .ok (.aload_n 0, 1) := by decide +kernel
theorem dX7_digest_44 : decode cX7_digest 44 = .ok (.lload_n 1, 1) := by decide +kernel
theorem dX7_digest_45 : decode cX7_digest 45 = .ok (.invokevirtual 238, 3) := by decide +kernel
theorem dX7_digest_48 : decode cX7_digest 48 = .ok (.lstore_n 1, 1) := by decide +kernel
theorem dX7_digest_49 : decode cX7_digest 49 = .ok (.lload_n 1, 1) := by decide +kernel
theorem dX7_digest_50 : decode cX7_digest 50 = .ok (.ldc2_w 226, 3) := by decide +kernel
theorem dX7_digest_53 : decode cX7_digest 53 = .ok (.lmul, 1) := by decide +kernel
theorem dX7_digest_54 : decode cX7_digest 54 = .ok (.aload_n 0, 1) := by decide +kernel
theorem dX7_digest_55 : decode cX7_digest 55 = .ok (.bipush 33, 2) := by decide +kernel
theorem dX7_digest_57 : decode cX7_digest 57 = .ok (.invokevirtual 241, 3) := by decide +kernel
theorem dX7_digest_60 : decode cX7_digest 60 = .ok (.i2l, 1) := by decide +kernel
theorem dX7_digest_61 : decode cX7_digest 61 = .ok (.ladd, 1) := by decide +kernel
theorem dX7_digest_62 : decode cX7_digest 62 = .ok (.lstore_n 1, 1) := by decide +kernel
theorem dX7_digest_63 : decode cX7_digest 63 = .ok (.lload_n 1, 1) := by decide +kernel
theorem dX7_digest_64 : decode cX7_digest 64 = .ok (.ldc2_w 226, 3) := by decide +kernel
theorem dX7_digest_67 : decode cX7_digest 67 = .ok (.lmul, 1) := by decide +kernel
theorem dX7_digest_68 : decode cX7_digest 68 = .ok (.aload_n 0, 1) := by decide +kernel
theorem dX7_digest_69 : decode cX7_digest 69 = .ok (.bipush 66, 2) := by decide +kernel
theorem dX7_digest_71 : decode cX7_digest 71 = .ok (.invokevirtual 241, 3) := by decide +kernel
theorem dX7_digest_74 : decode cX7_digest 74 = .ok (.i2l, 1) := by decide +kernel
theorem dX7_digest_75 : decode cX7_digest 75 = .ok (.ladd, 1) := by decide +kernel
theorem dX7_digest_76 : decode cX7_digest 76 = .ok (.lstore_n 1, 1) := by decide +kernel
theorem dX7_digest_77 : decode cX7_digest 77 = .ok (.lload_n 1, 1) := by decide +kernel
theorem dX7_digest_78 : decode cX7_digest 78 = .ok (.ldc2_w 226, 3) := by decide +kernel
theorem dX7_digest_81 : decode cX7_digest 81 = .ok (.lmul, 1) := by decide +kernel
theorem dX7_digest_82 : decode cX7_digest 82 = .ok (.aload_n 0, 1) := by decide +kernel
theorem dX7_digest_83 : decode cX7_digest 83 = .ok (.bipush 30, 2) := by decide +kernel
theorem dX7_digest_85 : decode cX7_digest 85 = .ok (.iconst 1, 1) := by decide +kernel
theorem dX7_digest_86 : decode cX7_digest 86 = .ok (.invokevirtual 244, 3) := by decide +kernel
theorem dX7_digest_89 : decode cX7_digest 89 = .ok (.i2l, 1) := by decide +kernel
theorem dX7_digest_90 : decode cX7_digest 90 = .ok (.ladd, 1) := by decide +kernel
theorem dX7_digest_91 : decode cX7_digest 91 = .ok (.lreturn, 1) := by decide +kernel
theorem dX7_addMasts_0 : decode cX7_addMasts 0 = .ok (.lload_n 1, 1) := by decide +kernel
theorem dX7_addMasts_1 : decode cX7_addMasts 1 = .ok (.lstore_n 3, 1) := by decide +kernel
theorem dX7_addMasts_2 : decode cX7_addMasts 2 = .ok (.iconst 0, 1) := by decide +kernel
theorem dX7_addMasts_3 : decode cX7_addMasts 3 = .ok (.istore 5, 2) := by decide +kernel
theorem dX7_addMasts_5 : decode cX7_addMasts 5 = .ok (.iload 5, 2) := by decide +kernel
theorem dX7_addMasts_7 : decode cX7_addMasts 7 = .ok (.aload_n 0, 1) := by decide +kernel
theorem dX7_addMasts_8 : decode cX7_addMasts 8 = .ok (.getfield 10, 3) := by decide +kernel
theorem dX7_addMasts_11 : decode cX7_addMasts 11 = .ok (.getfield 39, 3) := by decide +kernel
theorem dX7_addMasts_14 : decode cX7_addMasts 14 = .ok (.if_icmp .ge 72, 3) := by decide +kernel
theorem dX7_addMasts_17 : decode cX7_addMasts 17 = .ok (.iconst 0, 1) := by decide +kernel
theorem dX7_addMasts_18 : decode cX7_addMasts 18 = .ok (.istore 6, 2) := by decide +kernel
theorem dX7_addMasts_20 : decode cX7_addMasts 20 = .ok (.iload 6, 2) := by decide +kernel
theorem dX7_addMasts_22 : decode cX7_addMasts 22 = .ok (.bipush 9, 2) := by decide +kernel
theorem dX7_addMasts_24 : decode cX7_addMasts 24 = .ok (.if_icmp .gt 25, 3) := by decide +kernel
theorem dX7_addMasts_27 : decode cX7_addMasts 27 = .ok (.lload_n 3, 1) := by decide +kernel
theorem dX7_addMasts_28 : decode cX7_addMasts 28 = .ok (.ldc2_w 226, 3) := by decide +kernel
theorem dX7_addMasts_31 : decode cX7_addMasts 31 = .ok (.lmul, 1) := by decide +kernel
theorem dX7_addMasts_32 : decode cX7_addMasts 32 = .ok (.aload_n 0, 1) := by decide +kernel
theorem dX7_addMasts_33 : decode cX7_addMasts 33 = .ok (.iload 5, 2) := by decide +kernel
theorem dX7_addMasts_35 : decode cX7_addMasts 35 = .ok (.iload 6, 2) := by decide +kernel
theorem dX7_addMasts_37 : decode cX7_addMasts 37 = .ok (.invokevirtual 247, 3) := by decide +kernel
theorem dX7_addMasts_40 : decode cX7_addMasts 40 = .ok (.i2l, 1) := by decide +kernel
theorem dX7_addMasts_41 : decode cX7_addMasts 41 = .ok (.ladd, 1) := by decide +kernel
theorem dX7_addMasts_42 : decode cX7_addMasts 42 = .ok (.lstore_n 3, 1) := by decide +kernel
theorem dX7_addMasts_43 : decode cX7_addMasts 43 = .ok (.iinc 6 1, 3) := by decide +kernel
theorem dX7_addMasts_46 : decode cX7_addMasts 46 = .ok (.goto (-26), 3) := by decide +kernel
theorem dX7_addMasts_49 : decode cX7_addMasts 49 = .ok (.lload_n 3, 1) := by decide +kernel
theorem dX7_addMasts_50 : decode cX7_addMasts 50 = .ok (.ldc2_w 226, 3) := by decide +kernel
theorem dX7_addMasts_53 : decode cX7_addMasts 53 = .ok (.lmul, 1) := by decide +kernel
theorem dX7_addMasts_54 : decode cX7_addMasts 54 = .ok (.aload_n 0, 1) := by decide +kernel
theorem dX7_addMasts_55 : decode cX7_addMasts 55 = .ok (.iload 5, 2) := by decide +kernel
theorem dX7_addMasts_57 : decode cX7_addMasts 57 = .ok (.iconst 0, 1) := by decide +kernel
theorem dX7_addMasts_58 : decode cX7_addMasts 58 = .ok (.invokevirtual 250, 3) := by decide +kernel
theorem dX7_addMasts_61 : decode cX7_addMasts 61 = .ok (.i2l, 1) := by decide +kernel
theorem dX7_addMasts_62 : decode cX7_addMasts 62 = .ok (.ladd, 1) := by decide +kernel
theorem dX7_addMasts_63 : decode cX7_addMasts 63 = .ok (.lstore_n 3, 1) := by decide +kernel
theorem dX7_addMasts_64 : decode cX7_addMasts 64 = .ok (.lload_n 3, 1) := by decide +kernel
theorem dX7_addMasts_65 : decode cX7_addMasts 65 = .ok (.ldc2_w 226, 3) := by decide +kernel
theorem dX7_addMasts_68 : decode cX7_addMasts 68 = .ok (.lmul, 1) := by decide +kernel
theorem dX7_addMasts_69 : decode cX7_addMasts 69 = .ok (.aload_n 0, 1) := by decide +kernel
theorem dX7_addMasts_70 : decode cX7_addMasts 70 = .ok (.iload 5, 2) := by decide +kernel
theorem dX7_addMasts_72 : decode cX7_addMasts 72 = .ok (.bipush 50, 2) := by decide +kernel
theorem dX7_addMasts_74 : decode cX7_addMasts 74 = .ok (.invokevirtual 250, 3) := by decide +kernel
theorem dX7_addMasts_77 : decode cX7_addMasts 77 = .ok (.i2l, 1) := by decide +kernel
theorem dX7_addMasts_78 : decode cX7_addMasts 78 = .ok (.ladd, 1) := by decide +kernel
theorem dX7_addMasts_79 : decode cX7_addMasts 79 = .ok (.lstore_n 3, 1) := by decide +kernel
theorem dX7_addMasts_80 : decode cX7_addMasts 80 = .ok (.iinc 5 1, 3) := by decide +kernel
theorem dX7_addMasts_83 : decode cX7_addMasts 83 = .ok (.goto (-78), 3) := by decide +kernel
theorem dX7_addMasts_86 : decode cX7_addMasts 86 = .ok (.lload_n 3, 1) := by decide +kernel
theorem dX7_addMasts_87 : decode cX7_addMasts 87 = .ok (.lreturn, 1) := by decide +kernel
theorem dX7_addHandsets_0 : decode cX7_addHandsets 0 = .ok (.lload_n 1, 1) := by decide +kernel
theorem dX7_addHandsets_1 : decode cX7_addHandsets 1 = .ok (.lstore_n 3, 1) := by decide +kernel
theorem dX7_addHandsets_2 : decode cX7_addHandsets 2 = .ok (.iconst 0, 1) := by decide +kernel
theorem dX7_addHandsets_3 : decode cX7_addHandsets 3 = .ok (.istore 5, 2) := by decide +kernel
theorem dX7_addHandsets_5 : decode cX7_addHandsets 5 = .ok (.iload 5, 2) := by decide +kernel
theorem dX7_addHandsets_7 : decode cX7_addHandsets 7 = .ok (.aload_n 0, 1) := by decide +kernel
theorem dX7_addHandsets_8 : decode cX7_addHandsets 8 = .ok (.getfield 21, 3) := by decide +kernel
theorem dX7_addHandsets_11 : decode cX7_addHandsets 11 = .ok (.getfield 81, 3) := by decide +kernel
theorem dX7_addHandsets_14 : decode cX7_addHandsets 14 = .ok (.if_icmp .ge 57, 3) := by decide +kernel
theorem dX7_addHandsets_17 : decode cX7_addHandsets 17 = .ok (.iconst 0, 1) := by decide +kernel
theorem dX7_addHandsets_18 : decode cX7_addHandsets 18 = .ok (.istore 6, 2) := by decide +kernel
theorem dX7_addHandsets_20 : decode cX7_addHandsets 20 = .ok (.iload 6, 2) := by decide +kernel
theorem dX7_addHandsets_22 : decode cX7_addHandsets 22 = .ok (.bipush 10, 2) := by decide +kernel
theorem dX7_addHandsets_24 : decode cX7_addHandsets 24 = .ok (.if_icmp .gt 25, 3) := by decide +kernel
theorem dX7_addHandsets_27 : decode cX7_addHandsets 27 = .ok (.lload_n 3, 1) := by decide +kernel
theorem dX7_addHandsets_28 : decode cX7_addHandsets 28 = .ok (.ldc2_w 226, 3) := by decide +kernel
theorem dX7_addHandsets_31 : decode cX7_addHandsets 31 = .ok (.lmul, 1) := by decide +kernel
theorem dX7_addHandsets_32 : decode cX7_addHandsets 32 = .ok (.aload_n 0, 1) := by decide +kernel
theorem dX7_addHandsets_33 : decode cX7_addHandsets 33 = .ok (.iload 5, 2) := by decide +kernel
theorem dX7_addHandsets_35 : decode cX7_addHandsets 35 = .ok (.iload 6, 2) := by decide +kernel
theorem dX7_addHandsets_37 : decode cX7_addHandsets 37 = .ok (.invokevirtual 253, 3) := by decide +kernel
theorem dX7_addHandsets_40 : decode cX7_addHandsets 40 = .ok (.i2l, 1) := by decide +kernel
theorem dX7_addHandsets_41 : decode cX7_addHandsets 41 = .ok (.ladd, 1) := by decide +kernel
theorem dX7_addHandsets_42 : decode cX7_addHandsets 42 = .ok (.lstore_n 3, 1) := by decide +kernel
theorem dX7_addHandsets_43 : decode cX7_addHandsets 43 = .ok (.iinc 6 1, 3) := by decide +kernel
theorem dX7_addHandsets_46 : decode cX7_addHandsets 46 = .ok (.goto (-26), 3) := by decide +kernel
theorem dX7_addHandsets_49 : decode cX7_addHandsets 49 = .ok (.lload_n 3, 1) := by decide +kernel
theorem dX7_addHandsets_50 : decode cX7_addHandsets 50 = .ok (.ldc2_w 226, 3) := by decide +kernel
theorem dX7_addHandsets_53 : decode cX7_addHandsets 53 = .ok (.lmul, 1) := by decide +kernel
theorem dX7_addHandsets_54 : decode cX7_addHandsets 54 = .ok (.aload_n 0, 1) := by decide +kernel
theorem dX7_addHandsets_55 : decode cX7_addHandsets 55 = .ok (.iload 5, 2) := by decide +kernel
theorem dX7_addHandsets_57 : decode cX7_addHandsets 57 = .ok (.bipush 8, 2) := by decide +kernel
theorem dX7_addHandsets_59 : decode cX7_addHandsets 59 = .ok (.invokevirtual 256, 3) := by decide +kernel
theorem dX7_addHandsets_62 : decode cX7_addHandsets 62 = .ok (.i2l, 1) := by decide +kernel
theorem dX7_addHandsets_63 : decode cX7_addHandsets 63 = .ok (.ladd, 1) := by decide +kernel
theorem dX7_addHandsets_64 : decode cX7_addHandsets 64 = .ok (.lstore_n 3, 1) := by decide +kernel
theorem dX7_addHandsets_65 : decode cX7_addHandsets 65 = .ok (.iinc 5 1, 3) := by decide +kernel
theorem dX7_addHandsets_68 : decode cX7_addHandsets 68 = .ok (.goto (-63), 3) := by decide +kernel
theorem dX7_addHandsets_71 : decode cX7_addHandsets 71 = .ok (.lload_n 3, 1) := by decide +kernel
theorem dX7_addHandsets_72 : decode cX7_addHandsets 72 = .ok (.lreturn, 1) := by decide +kernel
theorem dX7_addCalls_0 : decode cX7_addCalls 0 = .ok (.lload_n 1, 1) := by decide +kernel
theorem dX7_addCalls_1 : decode cX7_addCalls 1 = .ok (.lstore_n 3, 1) := by decide +kernel
theorem dX7_addCalls_2 : decode cX7_addCalls 2 = .ok (.iconst 0, 1) := by decide +kernel
theorem dX7_addCalls_3 : decode cX7_addCalls 3 = .ok (.istore 5, 2) := by decide +kernel
theorem dX7_addCalls_5 : decode cX7_addCalls 5 = .ok (.iload 5, 2) := by decide +kernel
theorem dX7_addCalls_7 : decode cX7_addCalls 7 = .ok (.aload_n 0, 1) := by decide +kernel
theorem dX7_addCalls_8 : decode cX7_addCalls 8 = .ok (.getfield 21, 3) := by decide +kernel
theorem dX7_addCalls_11 : decode cX7_addCalls 11 = .ok (.getfield 133, 3) := by decide +kernel
theorem dX7_addCalls_14 : decode cX7_addCalls 14 = .ok (.if_icmp .ge 57, 3) := by decide +kernel
theorem dX7_addCalls_17 : decode cX7_addCalls 17 = .ok (.iconst 0, 1) := by decide +kernel
theorem dX7_addCalls_18 : decode cX7_addCalls 18 = .ok (.istore 6, 2) := by decide +kernel
theorem dX7_addCalls_20 : decode cX7_addCalls 20 = .ok (.iload 6, 2) := by decide +kernel
theorem dX7_addCalls_22 : decode cX7_addCalls 22 = .ok (.bipush 8, 2) := by decide +kernel
theorem dX7_addCalls_24 : decode cX7_addCalls 24 = .ok (.if_icmp .gt 25, 3) := by decide +kernel
theorem dX7_addCalls_27 : decode cX7_addCalls 27 = .ok (.lload_n 3, 1) := by decide +kernel
theorem dX7_addCalls_28 : decode cX7_addCalls 28 = .ok (.ldc2_w 226, 3) := by decide +kernel
theorem dX7_addCalls_31 : decode cX7_addCalls 31 = .ok (.lmul, 1) := by decide +kernel
theorem dX7_addCalls_32 : decode cX7_addCalls 32 = .ok (.aload_n 0, 1) := by decide +kernel
theorem dX7_addCalls_33 : decode cX7_addCalls 33 = .ok (.iload 5, 2) := by decide +kernel
theorem dX7_addCalls_35 : decode cX7_addCalls 35 = .ok (.iload 6, 2) := by decide +kernel
theorem dX7_addCalls_37 : decode cX7_addCalls 37 = .ok (.invokevirtual 259, 3) := by decide +kernel
theorem dX7_addCalls_40 : decode cX7_addCalls 40 = .ok (.i2l, 1) := by decide +kernel
theorem dX7_addCalls_41 : decode cX7_addCalls 41 = .ok (.ladd, 1) := by decide +kernel
theorem dX7_addCalls_42 : decode cX7_addCalls 42 = .ok (.lstore_n 3, 1) := by decide +kernel
theorem dX7_addCalls_43 : decode cX7_addCalls 43 = .ok (.iinc 6 1, 3) := by decide +kernel
theorem dX7_addCalls_46 : decode cX7_addCalls 46 = .ok (.goto (-26), 3) := by decide +kernel
theorem dX7_addCalls_49 : decode cX7_addCalls 49 = .ok (.lload_n 3, 1) := by decide +kernel
theorem dX7_addCalls_50 : decode cX7_addCalls 50 = .ok (.ldc2_w 226, 3) := by decide +kernel
theorem dX7_addCalls_53 : decode cX7_addCalls 53 = .ok (.lmul, 1) := by decide +kernel
theorem dX7_addCalls_54 : decode cX7_addCalls 54 = .ok (.aload_n 0, 1) := by decide +kernel
theorem dX7_addCalls_55 : decode cX7_addCalls 55 = .ok (.iload 5, 2) := by decide +kernel
theorem dX7_addCalls_57 : decode cX7_addCalls 57 = .ok (.bipush 20, 2) := by decide +kernel
theorem dX7_addCalls_59 : decode cX7_addCalls 59 = .ok (.invokevirtual 262, 3) := by decide +kernel
theorem dX7_addCalls_62 : decode cX7_addCalls 62 = .ok (.i2l, 1) := by decide +kernel
theorem dX7_addCalls_63 : decode cX7_addCalls 63 = .ok (.ladd, 1) := by decide +kernel
theorem dX7_addCalls_64 : decode cX7_addCalls 64 = .ok (.lstore_n 3, 1) := by decide +kernel
theorem dX7_addCalls_65 : decode cX7_addCalls 65 = .ok (.iinc 5 1, 3) := by decide +kernel
theorem dX7_addCalls_68 : decode cX7_addCalls 68 = .ok (.goto (-63), 3) := by decide +kernel
theorem dX7_addCalls_71 : decode cX7_addCalls 71 = .ok (.lload_n 3, 1) := by decide +kernel
theorem dX7_addCalls_72 : decode cX7_addCalls 72 = .ok (.lreturn, 1) := by decide +kernel
theorem dX7_demandNumber_0 : decode cX7_demandNumber 0 = .ok (.iload_n 0, 1) := by decide +kernel
theorem dX7_demandNumber_1 : decode cX7_demandNumber 1 = .ok (.ifCond .lt 8, 3) := by decide +kernel
theorem dX7_demandNumber_4 : decode cX7_demandNumber 4 = .ok (.iload_n 0, 1) := by decide +kernel
theorem dX7_demandNumber_5 : decode cX7_demandNumber 5 = .ok (.iload_n 1, 1) := by decide +kernel
theorem dX7_demandNumber_6 : decode cX7_demandNumber 6 = .ok (.if_icmp .lt 14, 3) := by decide +kernel
theorem dX7_demandNumber_9 : decode cX7_demandNumber 9 = .ok (.new 265, 3) := by decide +kernel
theorem dX7_demandNumber_12 : decode cX7_demandNumber 12 = .ok (.dup, 1) := by decide +kernel
theorem dX7_demandNumber_13 : decode cX7_demandNumber 13 = .ok (.ldc_w 267, 3) := by decide +kernel
theorem dX7_demandNumber_16 : decode cX7_demandNumber 16 = .ok (.invokespecial 269, 3) := by decide +kernel
theorem dX7_demandNumber_19 : decode cX7_demandNumber 19 = .ok (.athrow, 1) := by decide +kernel
theorem dX7_demandNumber_20 : decode cX7_demandNumber 20 = .ok (.return_, 1) := by decide +kernel
theorem dX7_demandWithin_0 : decode cX7_demandWithin 0 = .ok (.iload_n 0, 1) := by decide +kernel
theorem dX7_demandWithin_1 : decode cX7_demandWithin 1 = .ok (.iload_n 1, 1) := by decide +kernel
theorem dX7_demandWithin_2 : decode cX7_demandWithin 2 = .ok (.if_icmp .lt 8, 3) := by decide +kernel
theorem dX7_demandWithin_5 : decode cX7_demandWithin 5 = .ok (.iload_n 0, 1) := by decide +kernel
theorem dX7_demandWithin_6 : decode cX7_demandWithin 6 = .ok (.iload_n 2, 1) := by decide +kernel
theorem dX7_demandWithin_7 : decode cX7_demandWithin 7 = .ok (.if_icmp .le 14, 3) := by decide +kernel
theorem dX7_demandWithin_10 : decode cX7_demandWithin 10 = .ok (.new 270, 3) := by decide +kernel
theorem dX7_demandWithin_13 : decode cX7_demandWithin 13 = .ok (.dup, 1) := by decide +kernel
theorem dX7_demandWithin_14 : decode cX7_demandWithin 14 = .ok (.ldc_w 272, 3) := by decide +kernel
theorem dX7_demandWithin_17 : decode cX7_demandWithin 17 = .ok (.invokespecial 274, 3) := by decide +kernel
theorem dX7_demandWithin_20 : decode cX7_demandWithin 20 = .ok (.athrow, 1) := by decide +kernel
theorem dX7_demandWithin_21 : decode cX7_demandWithin 21 = .ok (.return_, 1) := by decide +kernel
theorem dX7_demandOthers_0 : decode cX7_demandOthers 0 = .ok (.iload_n 0, 1) := by decide +kernel
theorem dX7_demandOthers_1 : decode cX7_demandOthers 1 = .ok (.iload_n 1, 1) := by decide +kernel
theorem dX7_demandOthers_2 : decode cX7_demandOthers 2 = .ok (.if_icmp .ne 14, 3) := by decide +kernel
theorem dX7_demandOthers_5 : decode cX7_demandOthers 5 = .ok (.new 270, 3) := by decide +kernel
theorem dX7_demandOthers_8 : decode cX7_demandOthers 8 = .ok (.dup, 1) := by decide +kernel
theorem dX7_demandOthers_9 : decode cX7_demandOthers 9 = .ok (.ldc_w 275, 3) := by decide +kernel
theorem dX7_demandOthers_12 : decode cX7_demandOthers 12 = .ok (.invokespecial 274, 3) := by decide +kernel
theorem dX7_demandOthers_15 : decode cX7_demandOthers 15 = .ok (.athrow, 1) := by decide +kernel
theorem dX7_demandOthers_16 : decode cX7_demandOthers 16 = .ok (.return_, 1) := by decide +kernel
theorem dX7_demandRoomForCall_0 : decode cX7_demandRoomForCall 0 = .ok (.aload_n 0, 1) := by decide +kernel
theorem dX7_demandRoomForCall_1 : decode cX7_demandRoomForCall 1 = .ok (.getfield 21, 3) := by decide +kernel
theorem dX7_demandRoomForCall_4 : decode cX7_demandRoomForCall 4 = .ok (.getfield 133, 3) := by decide +kernel
theorem dX7_demandRoomForCall_7 : decode cX7_demandRoomForCall 7 = .ok (.bipush 24, 2) := by decide +kernel
theorem dX7_demandRoomForCall_9 : decode cX7_demandRoomForCall 9 = .ok (.if_icmp .lt 14, 3) := by decide +kernel
theorem dX7_demandRoomForCall_12 : decode cX7_demandRoomForCall 12 = .ok (.new 43, 3) := by decide +kernel
theorem dX7_demandRoomForCall_15 : decode cX7_demandRoomForCall 15 = .ok (.dup, 1) := by decide +kernel
theorem dX7_demandRoomForCall_16 : decode cX7_demandRoomForCall 16 = .ok (.ldc_w 277, 3) := by decide +kernel
theorem dX7_demandRoomForCall_19 : decode cX7_demandRoomForCall 19 = .ok (.invokespecial 47, 3) := by decide +kernel
theorem dX7_demandRoomForCall_22 : decode cX7_demandRoomForCall 22 = .ok (.athrow, 1) := by decide +kernel
theorem dX7_demandRoomForCall_23 : decode cX7_demandRoomForCall 23 = .ok (.return_, 1) := by decide +kernel
end
section
/-! THE CLASS'S WORLD: 190 cells at fixed places of one list; all that changes in it is whole numbers: hh_M, by cell and field.
    0 Handoverhouse, 1 Masts, 2 Mast[], 3 int[][], 4 Survey, 5 6 7 its rows, 8..13 Mast, 14..19 rows of qualities; then two Roads of 85 cells each:
    +0 Road, +1 load, +2 carried, +3 Handset[], +4 Call[], +5.. Handset (8), +13.. Call (24), +37.. Leg (48) -/
abbrev hh_cl : List vw_C := [(RX0, TX0, 7), (RX1, TX1, 13), (RX2, TX2, 6), (RX3, TX3, 7), (RX4, TX4, 3), (RX5, TX5, 10), (RX6, TX6, 3), (RX7, TX7, 4)]
abbrev hh_M : Type := Nat → Nat → Int32
def hh_up (v : hh_M) (j k : Nat) (x : Int32) : hh_M := fun a b => if a = j ∧ b = k then x else v a b
def hh_mI (i : Nat) : Nat := 8 + i
def hh_bI (i : Nat) : Nat := 14 + i
def hh_rI (r : Nat) : Nat := 20 + 85 * r
def hh_lI (r : Nat) : Nat := 21 + 85 * r
def hh_kI (r : Nat) : Nat := 22 + 85 * r
def hh_HI (r : Nat) : Nat := 23 + 85 * r
def hh_CI (r : Nat) : Nat := 24 + 85 * r
def hh_hI (r i : Nat) : Nat := 25 + 85 * r + i
def hh_cI (r i : Nat) : Nat := 33 + 85 * r + i
def hh_gI (r i g : Nat) : Nat := 57 + 85 * r + 2 * i + g
/-- the kind of a cell -/
def hh_kd (j : Nat) : Nat := if j < 20 then (if j < 8 then j else if j < 14 then 8 else 9) else if (j - 20) % 85 < 5 then 10 + (j - 20) % 85 else if (j - 20) % 85 < 13 then 15 else if (j - 20) % 85 < 37 then 16 else 17
def hh_rd (j : Nat) : Nat := (j - 20) / 85
/-- what a cell holds -/
def hh_E (K : Nat → ClassId) (ad : Nat → Nat) (v : hh_M) (j : Nat) : va_E := match hh_kd j with
  | 0 => .inr (7, [.ref (ad 1), .ref (ad (hh_rI 0)), .ref (ad (hh_rI 1)), .ref (ad 4)])
  | 1 => .inr (4, [.ref (ad 2), .ref (ad 3), .int (v j 2)])
  | 2 => .inl (K 2, 6, .inr (.inr (.inr (.inr (fun i => some (ad (hh_mI i)))))))
  | 3 => .inl (K 1, 6, .inr (.inr (.inr (.inr (fun i => some (ad (hh_bI i)))))))
  | 4 => .inr (6, [.ref (ad 5), .ref (ad 6), .ref (ad 7)])
  | 8 => .inr (3, [.int (v j 0), .int (v j 1), .int (v j 2), .int (v j 3), .int (v j 4), .int (v j 5), .int (v j 6)])
  | 10 => .inr (5, [.ref (ad 1), .ref (ad (hh_lI (hh_rd j))), .ref (ad (hh_kI (hh_rd j))), .ref (ad (hh_HI (hh_rd j))), .ref (ad (hh_CI (hh_rd j))), .int (v j 5), .int (v j 6), .int (v j 7), .int (v j 8), .int (v j 9)])
  | 11 => .inl (K 0, 6, .inl (v j))
  | 12 => .inl (K 0, 6, .inl (v j))
  | 13 => .inl (K 3, 8, .inr (.inr (.inr (.inr (fun i => some (ad (hh_hI (hh_rd j) i)))))))
  | 14 => .inl (K 4, 24, .inr (.inr (.inr (.inr (fun i => some (ad (hh_cI (hh_rd j) i)))))))
  | 15 => .inr (1, [.int (v j 0), .int (v j 1), .int (v j 2), .int (v j 3), .int (v j 4), .int (v j 5), .int (v j 6), .int (v j 7), .int (v j 8), .int (v j 9), .int (v j 10), .int (v j 11), .int (v j 12)])
  | 16 => .inr (0, [.ref (ad (hh_gI (hh_rd j) ((j - 20) % 85 - 13) 0)), .ref (ad (hh_gI (hh_rd j) ((j - 20) % 85 - 13) 1)), .int (v j 2), .int (v j 3), .int (v j 4), .int (v j 5), .int (v j 6)])
  | 17 => .inr (2, [.int (v j 0), .int (v j 1), .int (v j 2), .int (v j 3), .int (v j 4), .int (v j 5)])
  | _ => .inl (K 0, 100, .inl (v j))
def hh_W (K : Nat → ClassId) (ad : Nat → Nat) (v : hh_M) : va_W := (List.range 190).map (fun j => (ad j, hh_E K ad v j))
def hh_ty (K : Nat → ClassId) : List (ClassId × FieldType) := [(K 0, .int), (K 1, .array .int), (K 2, .object RX3), (K 3, .object RX1), (K 4, .object RX0)]
theorem hh_W_at {K : Nat → ClassId} {ad : Nat → Nat} {v : hh_M} {j : Nat} (h : j < 190) : (hh_W K ad v)[j]? = some (ad j, hh_E K ad v j) := by
  unfold hh_W
  rw [List.getElem?_map, List.getElem?_range h]
  rfl
theorem hh_E_congr {K : Nat → ClassId} {ad : Nat → Nat} {v w : hh_M} {j : Nat} (h : v j = w j) : hh_E K ad v j = hh_E K ad w j := by
  unfold hh_E
  rw [h]
theorem hh_up_ne {v : hh_M} {j k i : Nat} {x : Int32} (h : i ≠ j) : hh_up v j k x i = v i := by
  funext b
  simp [hh_up, h]
theorem hh_up_self {v : hh_M} {j k : Nat} {x : Int32} : hh_up v j k x j = upd (v j) k x := by
  funext b
  simp [hh_up, upd]
theorem hh_W_set {K : Nat → ClassId} {ad : Nat → Nat} {v : hh_M} {j k : Nat} {x : Int32} (h : j < 190) : (hh_W K ad v).set j (ad j, hh_E K ad (hh_up v j k x) j) = hh_W K ad (hh_up v j k x) := by
  apply List.ext_getElem?
  intro i
  by_cases hi : i < 190
  · rw [hh_W_at hi]
    by_cases e : i = j
    · subst e
      rw [List.getElem?_set_self (by simpa [hh_W] using h)]
    · rw [List.getElem?_set_ne (Ne.symm e), hh_W_at hi, hh_E_congr (hh_up_ne e)]
  · have h1 : (hh_W K ad (hh_up v j k x))[i]? = none := List.getElem?_eq_none (by simp [hh_W]; omega)
    rw [h1]
    exact List.getElem?_eq_none (by simp [hh_W]; omega)
theorem hh_kd_m {i : Nat} (h : i < 6) : hh_kd (hh_mI i) = 8 := by unfold hh_kd hh_mI; rw [if_pos (by omega), if_neg (by omega), if_pos (by omega)]
theorem hh_kd_b {i : Nat} (h : i < 6) : hh_kd (hh_bI i) = 9 := by unfold hh_kd hh_bI; rw [if_pos (by omega), if_neg (by omega), if_neg (by omega)]
theorem hh_rd_o {r o : Nat} (h : o < 85) : hh_rd (20 + 85 * r + o) = r := by unfold hh_rd; omega
theorem hh_md_o {r o : Nat} (h : o < 85) : (20 + 85 * r + o - 20) % 85 = o := by omega
theorem hh_kd_o {r o : Nat} (h : o < 85) : hh_kd (20 + 85 * r + o) = if o < 5 then 10 + o else if o < 13 then 15 else if o < 37 then 16 else 17 := by
  unfold hh_kd
  rw [hh_md_o h, if_neg (by omega)]
theorem hh_kd_r (r : Nat) : hh_kd (hh_rI r) = 10 := hh_kd_o (o := 0) (by omega)
theorem hh_kd_l (r : Nat) : hh_kd (hh_lI r) = 11 := by have := hh_kd_o (r := r) (o := 1) (by omega); unfold hh_lI; rw [show 21 + 85 * r = 20 + 85 * r + 1 by omega]; exact this
theorem hh_kd_k (r : Nat) : hh_kd (hh_kI r) = 12 := by have := hh_kd_o (r := r) (o := 2) (by omega); unfold hh_kI; rw [show 22 + 85 * r = 20 + 85 * r + 2 by omega]; exact this
theorem hh_kd_H (r : Nat) : hh_kd (hh_HI r) = 13 := by have := hh_kd_o (r := r) (o := 3) (by omega); unfold hh_HI; rw [show 23 + 85 * r = 20 + 85 * r + 3 by omega]; exact this
theorem hh_kd_C (r : Nat) : hh_kd (hh_CI r) = 14 := by have := hh_kd_o (r := r) (o := 4) (by omega); unfold hh_CI; rw [show 24 + 85 * r = 20 + 85 * r + 4 by omega]; exact this
theorem hh_kd_h (r : Nat) {i : Nat} (h : i < 8) : hh_kd (hh_hI r i) = 15 := by have := hh_kd_o (r := r) (o := 5 + i) (by omega); unfold hh_hI; rw [show 25 + 85 * r + i = 20 + 85 * r + (5 + i) by omega, this, if_neg (by omega), if_pos (by omega)]
theorem hh_kd_c (r : Nat) {i : Nat} (h : i < 24) : hh_kd (hh_cI r i) = 16 := by have := hh_kd_o (r := r) (o := 13 + i) (by omega); unfold hh_cI; rw [show 33 + 85 * r + i = 20 + 85 * r + (13 + i) by omega, this, if_neg (by omega), if_neg (by omega), if_pos (by omega)]
theorem hh_kd_g (r : Nat) {i g : Nat} (h : i < 24) (hg : g < 2) : hh_kd (hh_gI r i g) = 17 := by have := hh_kd_o (r := r) (o := 37 + 2 * i + g) (by omega); unfold hh_gI; rw [show 57 + 85 * r + 2 * i + g = 20 + 85 * r + (37 + 2 * i + g) by omega, this, if_neg (by omega), if_neg (by omega), if_neg (by omega)]
theorem hh_rd_r (r : Nat) : hh_rd (hh_rI r) = r := hh_rd_o (o := 0) (by omega)
theorem hh_rd_H (r : Nat) : hh_rd (hh_HI r) = r := by have := hh_rd_o (r := r) (o := 3) (by omega); unfold hh_HI; rw [show 23 + 85 * r = 20 + 85 * r + 3 by omega]; exact this
theorem hh_rd_C (r : Nat) : hh_rd (hh_CI r) = r := by have := hh_rd_o (r := r) (o := 4) (by omega); unfold hh_CI; rw [show 24 + 85 * r = 20 + 85 * r + 4 by omega]; exact this
theorem hh_rd_h (r : Nat) {i : Nat} (h : i < 8) : hh_rd (hh_hI r i) = r := by unfold hh_rd hh_hI; omega
theorem hh_rd_c (r : Nat) {i : Nat} (h : i < 24) : hh_rd (hh_cI r i) = r := by unfold hh_rd hh_cI; omega
theorem hh_rd_g (r : Nat) {i g : Nat} (h : i < 24) (hg : g < 2) : hh_rd (hh_gI r i g) = r := by unfold hh_rd hh_gI; omega
theorem hh_ix_c (r : Nat) {i : Nat} (h : i < 24) : (hh_cI r i - 20) % 85 - 13 = i := by unfold hh_cI; omega
/-- the world at a moment: the cells stand, apart and in A; nothing old outside A was written -/
def hh_H (D : va_G) (K : Nat → ClassId) (ad : Nat → Nat) (A : Nat → Prop) (H0 : Heap) (v : hh_M) (H : Heap) (locs : List Loc) : Prop := va_P D hh_cl (hh_W K ad v) H ∧ va_D A (hh_W K ad v) ∧ va_S A H0 H locs
/-- what a walk of a method has at hand -/
def hh_C (p : Program) (s : State) (m : MethodId) (args : Array Value) (meth : Method) (c : Code) (D : va_G) (K : Nat → ClassId) (cc : ByteArray) (nL : Nat) (ret : Option FieldType) (own : String) (A : Nat → Prop) : Prop :=
  p.tables.exec = Jvm.exec ∧ c.code = cc ∧ meth.sig.returnType = ret ∧ c.maxLocals = nL ∧ s.vm.findClass own = some m.cls ∧ (∀ w ∈ hh_wa, w.before args s = true) ∧ va_K D hh_cl (hh_ty K) s ∧ meth.locks = false ∧ (∀ q, s.heap.size ≤ q → A q)
end
section
/-! rows over the class's world: written by wip/gen/mk03.py -/
theorem hh_E_0 {K : Nat → ClassId} {ad : Nat → Nat} {v : hh_M} : hh_E K ad v 0 = .inr (7, [.ref (ad 1), .ref (ad (hh_rI 0)), .ref (ad (hh_rI 1)), .ref (ad 4)]) := rfl
theorem hh_E_1 {K : Nat → ClassId} {ad : Nat → Nat} {v : hh_M} : hh_E K ad v 1 = .inr (4, [.ref (ad 2), .ref (ad 3), .int (v 1 2)]) := rfl
theorem hh_E_2 {K : Nat → ClassId} {ad : Nat → Nat} {v : hh_M} : hh_E K ad v 2 = .inl (K 2, 6, .inr (.inr (.inr (.inr (fun i => some (ad (hh_mI i))))))) := rfl
theorem hh_E_3 {K : Nat → ClassId} {ad : Nat → Nat} {v : hh_M} : hh_E K ad v 3 = .inl (K 1, 6, .inr (.inr (.inr (.inr (fun i => some (ad (hh_bI i))))))) := rfl
theorem hh_E_4 {K : Nat → ClassId} {ad : Nat → Nat} {v : hh_M} : hh_E K ad v 4 = .inr (6, [.ref (ad 5), .ref (ad 6), .ref (ad 7)]) := rfl
theorem hh_E_5 {K : Nat → ClassId} {ad : Nat → Nat} {v : hh_M} : hh_E K ad v 5 = .inl (K 0, 100, .inl (v 5)) := rfl
theorem hh_E_6 {K : Nat → ClassId} {ad : Nat → Nat} {v : hh_M} : hh_E K ad v 6 = .inl (K 0, 100, .inl (v 6)) := rfl
theorem hh_E_7 {K : Nat → ClassId} {ad : Nat → Nat} {v : hh_M} : hh_E K ad v 7 = .inl (K 0, 100, .inl (v 7)) := rfl
theorem hh_E_m {K : Nat → ClassId} {ad : Nat → Nat} {v : hh_M} {i : Nat} (h : i < 6) : hh_E K ad v (hh_mI i) = .inr (3, [.int (v (hh_mI i) 0), .int (v (hh_mI i) 1), .int (v (hh_mI i) 2), .int (v (hh_mI i) 3), .int (v (hh_mI i) 4), .int (v (hh_mI i) 5), .int (v (hh_mI i) 6)]) := by unfold hh_E; rw [hh_kd_m h] <;> rfl
theorem hh_E_b {K : Nat → ClassId} {ad : Nat → Nat} {v : hh_M} {i : Nat} (h : i < 6) : hh_E K ad v (hh_bI i) = .inl (K 0, 100, .inl (v (hh_bI i))) := by unfold hh_E; rw [hh_kd_b h] <;> rfl
theorem hh_E_r {K : Nat → ClassId} {ad : Nat → Nat} {v : hh_M} (r : Nat) : hh_E K ad v (hh_rI r) = .inr (5, [.ref (ad 1), .ref (ad (hh_lI r)), .ref (ad (hh_kI r)), .ref (ad (hh_HI r)), .ref (ad (hh_CI r)), .int (v (hh_rI r) 5), .int (v (hh_rI r) 6), .int (v (hh_rI r) 7), .int (v (hh_rI r) 8), .int (v (hh_rI r) 9)]) := by unfold hh_E; rw [hh_kd_r r, hh_rd_r r] <;> rfl
theorem hh_E_l {K : Nat → ClassId} {ad : Nat → Nat} {v : hh_M} (r : Nat) : hh_E K ad v (hh_lI r) = .inl (K 0, 6, .inl (v (hh_lI r))) := by unfold hh_E; rw [hh_kd_l r] <;> rfl
theorem hh_E_k {K : Nat → ClassId} {ad : Nat → Nat} {v : hh_M} (r : Nat) : hh_E K ad v (hh_kI r) = .inl (K 0, 6, .inl (v (hh_kI r))) := by unfold hh_E; rw [hh_kd_k r] <;> rfl
theorem hh_E_H {K : Nat → ClassId} {ad : Nat → Nat} {v : hh_M} (r : Nat) : hh_E K ad v (hh_HI r) = .inl (K 3, 8, .inr (.inr (.inr (.inr (fun i => some (ad (hh_hI r i))))))) := by unfold hh_E; rw [hh_kd_H r, hh_rd_H r] <;> rfl
theorem hh_E_C {K : Nat → ClassId} {ad : Nat → Nat} {v : hh_M} (r : Nat) : hh_E K ad v (hh_CI r) = .inl (K 4, 24, .inr (.inr (.inr (.inr (fun i => some (ad (hh_cI r i))))))) := by unfold hh_E; rw [hh_kd_C r, hh_rd_C r] <;> rfl
theorem hh_E_h {K : Nat → ClassId} {ad : Nat → Nat} {v : hh_M} (r : Nat) {i : Nat} (h : i < 8) : hh_E K ad v (hh_hI r i) = .inr (1, [.int (v (hh_hI r i) 0), .int (v (hh_hI r i) 1), .int (v (hh_hI r i) 2), .int (v (hh_hI r i) 3), .int (v (hh_hI r i) 4), .int (v (hh_hI r i) 5), .int (v (hh_hI r i) 6), .int (v (hh_hI r i) 7), .int (v (hh_hI r i) 8), .int (v (hh_hI r i) 9), .int (v (hh_hI r i) 10), .int (v (hh_hI r i) 11), .int (v (hh_hI r i) 12)]) := by unfold hh_E; rw [hh_kd_h r h] <;> rfl
theorem hh_E_c {K : Nat → ClassId} {ad : Nat → Nat} {v : hh_M} (r : Nat) {i : Nat} (h : i < 24) : hh_E K ad v (hh_cI r i) = .inr (0, [.ref (ad (hh_gI r i 0)), .ref (ad (hh_gI r i 1)), .int (v (hh_cI r i) 2), .int (v (hh_cI r i) 3), .int (v (hh_cI r i) 4), .int (v (hh_cI r i) 5), .int (v (hh_cI r i) 6)]) := by unfold hh_E; rw [hh_kd_c r h, hh_rd_c r h, hh_ix_c r h] <;> rfl
theorem hh_E_g {K : Nat → ClassId} {ad : Nat → Nat} {v : hh_M} (r : Nat) {i g : Nat} (h : i < 24) (hg : g < 2) : hh_E K ad v (hh_gI r i g) = .inr (2, [.int (v (hh_gI r i g) 0), .int (v (hh_gI r i g) 1), .int (v (hh_gI r i g) 2), .int (v (hh_gI r i g) 3), .int (v (hh_gI r i g) 4), .int (v (hh_gI r i g) 5)]) := by unfold hh_E; rw [hh_kd_g r h hg] <;> rfl
theorem hh_b_m {i : Nat} (h : i < 6) : hh_mI i < 190 := by unfold hh_mI; omega
theorem hh_b_b {i : Nat} (h : i < 6) : hh_bI i < 190 := by unfold hh_bI; omega
theorem hh_b_r {r : Nat} (h : r < 2) : hh_rI r < 190 := by unfold hh_rI; omega
theorem hh_b_l {r : Nat} (h : r < 2) : hh_lI r < 190 := by unfold hh_lI; omega
theorem hh_b_k {r : Nat} (h : r < 2) : hh_kI r < 190 := by unfold hh_kI; omega
theorem hh_b_H {r : Nat} (h : r < 2) : hh_HI r < 190 := by unfold hh_HI; omega
theorem hh_b_C {r : Nat} (h : r < 2) : hh_CI r < 190 := by unfold hh_CI; omega
theorem hh_b_h {r i : Nat} (hr : r < 2) (h : i < 8) : hh_hI r i < 190 := by unfold hh_hI; omega
theorem hh_b_c {r i : Nat} (hr : r < 2) (h : i < 24) : hh_cI r i < 190 := by unfold hh_cI; omega
theorem hh_b_g {r i g : Nat} (hr : r < 2) (h : i < 24) (hg : g < 2) : hh_gI r i g < 190 := by unfold hh_gI; omega
theorem hh_pm0 {K : Nat → ClassId} {ad : Nat → Nat} {v : hh_M} {i : Nat} (h : i < 6) {x : Int32} : hh_E K ad (hh_up v (hh_mI i) 0 x) (hh_mI i) = .inr (3, [.int x, .int (v (hh_mI i) 1), .int (v (hh_mI i) 2), .int (v (hh_mI i) 3), .int (v (hh_mI i) 4), .int (v (hh_mI i) 5), .int (v (hh_mI i) 6)]) := by rw [hh_E_m h]; simp [hh_up]
theorem hh_pm1 {K : Nat → ClassId} {ad : Nat → Nat} {v : hh_M} {i : Nat} (h : i < 6) {x : Int32} : hh_E K ad (hh_up v (hh_mI i) 1 x) (hh_mI i) = .inr (3, [.int (v (hh_mI i) 0), .int x, .int (v (hh_mI i) 2), .int (v (hh_mI i) 3), .int (v (hh_mI i) 4), .int (v (hh_mI i) 5), .int (v (hh_mI i) 6)]) := by rw [hh_E_m h]; simp [hh_up]
theorem hh_pm2 {K : Nat → ClassId} {ad : Nat → Nat} {v : hh_M} {i : Nat} (h : i < 6) {x : Int32} : hh_E K ad (hh_up v (hh_mI i) 2 x) (hh_mI i) = .inr (3, [.int (v (hh_mI i) 0), .int (v (hh_mI i) 1), .int x, .int (v (hh_mI i) 3), .int (v (hh_mI i) 4), .int (v (hh_mI i) 5), .int (v (hh_mI i) 6)]) := by rw [hh_E_m h]; simp [hh_up]
theorem hh_pm3 {K : Nat → ClassId} {ad : Nat → Nat} {v : hh_M} {i : Nat} (h : i < 6) {x : Int32} : hh_E K ad (hh_up v (hh_mI i) 3 x) (hh_mI i) = .inr (3, [.int (v (hh_mI i) 0), .int (v (hh_mI i) 1), .int (v (hh_mI i) 2), .int x, .int (v (hh_mI i) 4), .int (v (hh_mI i) 5), .int (v (hh_mI i) 6)]) := by rw [hh_E_m h]; simp [hh_up]
theorem hh_pm4 {K : Nat → ClassId} {ad : Nat → Nat} {v : hh_M} {i : Nat} (h : i < 6) {x : Int32} : hh_E K ad (hh_up v (hh_mI i) 4 x) (hh_mI i) = .inr (3, [.int (v (hh_mI i) 0), .int (v (hh_mI i) 1), .int (v (hh_mI i) 2), .int (v (hh_mI i) 3), .int x, .int (v (hh_mI i) 5), .int (v (hh_mI i) 6)]) := by rw [hh_E_m h]; simp [hh_up]
theorem hh_pm5 {K : Nat → ClassId} {ad : Nat → Nat} {v : hh_M} {i : Nat} (h : i < 6) {x : Int32} : hh_E K ad (hh_up v (hh_mI i) 5 x) (hh_mI i) = .inr (3, [.int (v (hh_mI i) 0), .int (v (hh_mI i) 1), .int (v (hh_mI i) 2), .int (v (hh_mI i) 3), .int (v (hh_mI i) 4), .int x, .int (v (hh_mI i) 6)]) := by rw [hh_E_m h]; simp [hh_up]
theorem hh_pm6 {K : Nat → ClassId} {ad : Nat → Nat} {v : hh_M} {i : Nat} (h : i < 6) {x : Int32} : hh_E K ad (hh_up v (hh_mI i) 6 x) (hh_mI i) = .inr (3, [.int (v (hh_mI i) 0), .int (v (hh_mI i) 1), .int (v (hh_mI i) 2), .int (v (hh_mI i) 3), .int (v (hh_mI i) 4), .int (v (hh_mI i) 5), .int x]) := by rw [hh_E_m h]; simp [hh_up]
theorem hh_pM2 {K : Nat → ClassId} {ad : Nat → Nat} {v : hh_M} {x : Int32} : hh_E K ad (hh_up v 1 2 x) 1 = .inr (4, [.ref (ad 2), .ref (ad 3), .int x]) := by rw [hh_E_1]; simp [hh_up]
theorem hh_pr5 {K : Nat → ClassId} {ad : Nat → Nat} {v : hh_M} (r : Nat) {x : Int32} : hh_E K ad (hh_up v (hh_rI r) 5 x) (hh_rI r) = .inr (5, [.ref (ad 1), .ref (ad (hh_lI r)), .ref (ad (hh_kI r)), .ref (ad (hh_HI r)), .ref (ad (hh_CI r)), .int x, .int (v (hh_rI r) 6), .int (v (hh_rI r) 7), .int (v (hh_rI r) 8), .int (v (hh_rI r) 9)]) := by rw [hh_E_r r]; simp [hh_up]
theorem hh_pr6 {K : Nat → ClassId} {ad : Nat → Nat} {v : hh_M} (r : Nat) {x : Int32} : hh_E K ad (hh_up v (hh_rI r) 6 x) (hh_rI r) = .inr (5, [.ref (ad 1), .ref (ad (hh_lI r)), .ref (ad (hh_kI r)), .ref (ad (hh_HI r)), .ref (ad (hh_CI r)), .int (v (hh_rI r) 5), .int x, .int (v (hh_rI r) 7), .int (v (hh_rI r) 8), .int (v (hh_rI r) 9)]) := by rw [hh_E_r r]; simp [hh_up]
theorem hh_pr7 {K : Nat → ClassId} {ad : Nat → Nat} {v : hh_M} (r : Nat) {x : Int32} : hh_E K ad (hh_up v (hh_rI r) 7 x) (hh_rI r) = .inr (5, [.ref (ad 1), .ref (ad (hh_lI r)), .ref (ad (hh_kI r)), .ref (ad (hh_HI r)), .ref (ad (hh_CI r)), .int (v (hh_rI r) 5), .int (v (hh_rI r) 6), .int x, .int (v (hh_rI r) 8), .int (v (hh_rI r) 9)]) := by rw [hh_E_r r]; simp [hh_up]
theorem hh_pr8 {K : Nat → ClassId} {ad : Nat → Nat} {v : hh_M} (r : Nat) {x : Int32} : hh_E K ad (hh_up v (hh_rI r) 8 x) (hh_rI r) = .inr (5, [.ref (ad 1), .ref (ad (hh_lI r)), .ref (ad (hh_kI r)), .ref (ad (hh_HI r)), .ref (ad (hh_CI r)), .int (v (hh_rI r) 5), .int (v (hh_rI r) 6), .int (v (hh_rI r) 7), .int x, .int (v (hh_rI r) 9)]) := by rw [hh_E_r r]; simp [hh_up]
theorem hh_pr9 {K : Nat → ClassId} {ad : Nat → Nat} {v : hh_M} (r : Nat) {x : Int32} : hh_E K ad (hh_up v (hh_rI r) 9 x) (hh_rI r) = .inr (5, [.ref (ad 1), .ref (ad (hh_lI r)), .ref (ad (hh_kI r)), .ref (ad (hh_HI r)), .ref (ad (hh_CI r)), .int (v (hh_rI r) 5), .int (v (hh_rI r) 6), .int (v (hh_rI r) 7), .int (v (hh_rI r) 8), .int x]) := by rw [hh_E_r r]; simp [hh_up]
theorem hh_ph0 {K : Nat → ClassId} {ad : Nat → Nat} {v : hh_M} (r : Nat) {i : Nat} (h : i < 8) {x : Int32} : hh_E K ad (hh_up v (hh_hI r i) 0 x) (hh_hI r i) = .inr (1, [.int x, .int (v (hh_hI r i) 1), .int (v (hh_hI r i) 2), .int (v (hh_hI r i) 3), .int (v (hh_hI r i) 4), .int (v (hh_hI r i) 5), .int (v (hh_hI r i) 6), .int (v (hh_hI r i) 7), .int (v (hh_hI r i) 8), .int (v (hh_hI r i) 9), .int (v (hh_hI r i) 10), .int (v (hh_hI r i) 11), .int (v (hh_hI r i) 12)]) := by rw [hh_E_h r h]; simp [hh_up]
theorem hh_ph1 {K : Nat → ClassId} {ad : Nat → Nat} {v : hh_M} (r : Nat) {i : Nat} (h : i < 8) {x : Int32} : hh_E K ad (hh_up v (hh_hI r i) 1 x) (hh_hI r i) = .inr (1, [.int (v (hh_hI r i) 0), .int x, .int (v (hh_hI r i) 2), .int (v (hh_hI r i) 3), .int (v (hh_hI r i) 4), .int (v (hh_hI r i) 5), .int (v (hh_hI r i) 6), .int (v (hh_hI r i) 7), .int (v (hh_hI r i) 8), .int (v (hh_hI r i) 9), .int (v (hh_hI r i) 10), .int (v (hh_hI r i) 11), .int (v (hh_hI r i) 12)]) := by rw [hh_E_h r h]; simp [hh_up]
theorem hh_ph2 {K : Nat → ClassId} {ad : Nat → Nat} {v : hh_M} (r : Nat) {i : Nat} (h : i < 8) {x : Int32} : hh_E K ad (hh_up v (hh_hI r i) 2 x) (hh_hI r i) = .inr (1, [.int (v (hh_hI r i) 0), .int (v (hh_hI r i) 1), .int x, .int (v (hh_hI r i) 3), .int (v (hh_hI r i) 4), .int (v (hh_hI r i) 5), .int (v (hh_hI r i) 6), .int (v (hh_hI r i) 7), .int (v (hh_hI r i) 8), .int (v (hh_hI r i) 9), .int (v (hh_hI r i) 10), .int (v (hh_hI r i) 11), .int (v (hh_hI r i) 12)]) := by rw [hh_E_h r h]; simp [hh_up]
theorem hh_ph3 {K : Nat → ClassId} {ad : Nat → Nat} {v : hh_M} (r : Nat) {i : Nat} (h : i < 8) {x : Int32} : hh_E K ad (hh_up v (hh_hI r i) 3 x) (hh_hI r i) = .inr (1, [.int (v (hh_hI r i) 0), .int (v (hh_hI r i) 1), .int (v (hh_hI r i) 2), .int x, .int (v (hh_hI r i) 4), .int (v (hh_hI r i) 5), .int (v (hh_hI r i) 6), .int (v (hh_hI r i) 7), .int (v (hh_hI r i) 8), .int (v (hh_hI r i) 9), .int (v (hh_hI r i) 10), .int (v (hh_hI r i) 11), .int (v (hh_hI r i) 12)]) := by rw [hh_E_h r h]; simp [hh_up]
theorem hh_ph4 {K : Nat → ClassId} {ad : Nat → Nat} {v : hh_M} (r : Nat) {i : Nat} (h : i < 8) {x : Int32} : hh_E K ad (hh_up v (hh_hI r i) 4 x) (hh_hI r i) = .inr (1, [.int (v (hh_hI r i) 0), .int (v (hh_hI r i) 1), .int (v (hh_hI r i) 2), .int (v (hh_hI r i) 3), .int x, .int (v (hh_hI r i) 5), .int (v (hh_hI r i) 6), .int (v (hh_hI r i) 7), .int (v (hh_hI r i) 8), .int (v (hh_hI r i) 9), .int (v (hh_hI r i) 10), .int (v (hh_hI r i) 11), .int (v (hh_hI r i) 12)]) := by rw [hh_E_h r h]; simp [hh_up]
theorem hh_ph5 {K : Nat → ClassId} {ad : Nat → Nat} {v : hh_M} (r : Nat) {i : Nat} (h : i < 8) {x : Int32} : hh_E K ad (hh_up v (hh_hI r i) 5 x) (hh_hI r i) = .inr (1, [.int (v (hh_hI r i) 0), .int (v (hh_hI r i) 1), .int (v (hh_hI r i) 2), .int (v (hh_hI r i) 3), .int (v (hh_hI r i) 4), .int x, .int (v (hh_hI r i) 6), .int (v (hh_hI r i) 7), .int (v (hh_hI r i) 8), .int (v (hh_hI r i) 9), .int (v (hh_hI r i) 10), .int (v (hh_hI r i) 11), .int (v (hh_hI r i) 12)]) := by rw [hh_E_h r h]; simp [hh_up]
theorem hh_ph6 {K : Nat → ClassId} {ad : Nat → Nat} {v : hh_M} (r : Nat) {i : Nat} (h : i < 8) {x : Int32} : hh_E K ad (hh_up v (hh_hI r i) 6 x) (hh_hI r i) = .inr (1, [.int (v (hh_hI r i) 0), .int (v (hh_hI r i) 1), .int (v (hh_hI r i) 2), .int (v (hh_hI r i) 3), .int (v (hh_hI r i) 4), .int (v (hh_hI r i) 5), .int x, .int (v (hh_hI r i) 7), .int (v (hh_hI r i) 8), .int (v (hh_hI r i) 9), .int (v (hh_hI r i) 10), .int (v (hh_hI r i) 11), .int (v (hh_hI r i) 12)]) := by rw [hh_E_h r h]; simp [hh_up]
theorem hh_ph7 {K : Nat → ClassId} {ad : Nat → Nat} {v : hh_M} (r : Nat) {i : Nat} (h : i < 8) {x : Int32} : hh_E K ad (hh_up v (hh_hI r i) 7 x) (hh_hI r i) = .inr (1, [.int (v (hh_hI r i) 0), .int (v (hh_hI r i) 1), .int (v (hh_hI r i) 2), .int (v (hh_hI r i) 3), .int (v (hh_hI r i) 4), .int (v (hh_hI r i) 5), .int (v (hh_hI r i) 6), .int x, .int (v (hh_hI r i) 8), .int (v (hh_hI r i) 9), .int (v (hh_hI r i) 10), .int (v (hh_hI r i) 11), .int (v (hh_hI r i) 12)]) := by rw [hh_E_h r h]; simp [hh_up]
theorem hh_ph8 {K : Nat → ClassId} {ad : Nat → Nat} {v : hh_M} (r : Nat) {i : Nat} (h : i < 8) {x : Int32} : hh_E K ad (hh_up v (hh_hI r i) 8 x) (hh_hI r i) = .inr (1, [.int (v (hh_hI r i) 0), .int (v (hh_hI r i) 1), .int (v (hh_hI r i) 2), .int (v (hh_hI r i) 3), .int (v (hh_hI r i) 4), .int (v (hh_hI r i) 5), .int (v (hh_hI r i) 6), .int (v (hh_hI r i) 7), .int x, .int (v (hh_hI r i) 9), .int (v (hh_hI r i) 10), .int (v (hh_hI r i) 11), .int (v (hh_hI r i) 12)]) := by rw [hh_E_h r h]; simp [hh_up]
theorem hh_ph9 {K : Nat → ClassId} {ad : Nat → Nat} {v : hh_M} (r : Nat) {i : Nat} (h : i < 8) {x : Int32} : hh_E K ad (hh_up v (hh_hI r i) 9 x) (hh_hI r i) = .inr (1, [.int (v (hh_hI r i) 0), .int (v (hh_hI r i) 1), .int (v (hh_hI r i) 2), .int (v (hh_hI r i) 3), .int (v (hh_hI r i) 4), .int (v (hh_hI r i) 5), .int (v (hh_hI r i) 6), .int (v (hh_hI r i) 7), .int (v (hh_hI r i) 8), .int x, .int (v (hh_hI r i) 10), .int (v (hh_hI r i) 11), .int (v (hh_hI r i) 12)]) := by rw [hh_E_h r h]; simp [hh_up]
theorem hh_ph10 {K : Nat → ClassId} {ad : Nat → Nat} {v : hh_M} (r : Nat) {i : Nat} (h : i < 8) {x : Int32} : hh_E K ad (hh_up v (hh_hI r i) 10 x) (hh_hI r i) = .inr (1, [.int (v (hh_hI r i) 0), .int (v (hh_hI r i) 1), .int (v (hh_hI r i) 2), .int (v (hh_hI r i) 3), .int (v (hh_hI r i) 4), .int (v (hh_hI r i) 5), .int (v (hh_hI r i) 6), .int (v (hh_hI r i) 7), .int (v (hh_hI r i) 8), .int (v (hh_hI r i) 9), .int x, .int (v (hh_hI r i) 11), .int (v (hh_hI r i) 12)]) := by rw [hh_E_h r h]; simp [hh_up]
theorem hh_ph11 {K : Nat → ClassId} {ad : Nat → Nat} {v : hh_M} (r : Nat) {i : Nat} (h : i < 8) {x : Int32} : hh_E K ad (hh_up v (hh_hI r i) 11 x) (hh_hI r i) = .inr (1, [.int (v (hh_hI r i) 0), .int (v (hh_hI r i) 1), .int (v (hh_hI r i) 2), .int (v (hh_hI r i) 3), .int (v (hh_hI r i) 4), .int (v (hh_hI r i) 5), .int (v (hh_hI r i) 6), .int (v (hh_hI r i) 7), .int (v (hh_hI r i) 8), .int (v (hh_hI r i) 9), .int (v (hh_hI r i) 10), .int x, .int (v (hh_hI r i) 12)]) := by rw [hh_E_h r h]; simp [hh_up]
theorem hh_ph12 {K : Nat → ClassId} {ad : Nat → Nat} {v : hh_M} (r : Nat) {i : Nat} (h : i < 8) {x : Int32} : hh_E K ad (hh_up v (hh_hI r i) 12 x) (hh_hI r i) = .inr (1, [.int (v (hh_hI r i) 0), .int (v (hh_hI r i) 1), .int (v (hh_hI r i) 2), .int (v (hh_hI r i) 3), .int (v (hh_hI r i) 4), .int (v (hh_hI r i) 5), .int (v (hh_hI r i) 6), .int (v (hh_hI r i) 7), .int (v (hh_hI r i) 8), .int (v (hh_hI r i) 9), .int (v (hh_hI r i) 10), .int (v (hh_hI r i) 11), .int x]) := by rw [hh_E_h r h]; simp [hh_up]
theorem hh_pc2 {K : Nat → ClassId} {ad : Nat → Nat} {v : hh_M} (r : Nat) {i : Nat} (h : i < 24) {x : Int32} : hh_E K ad (hh_up v (hh_cI r i) 2 x) (hh_cI r i) = .inr (0, [.ref (ad (hh_gI r i 0)), .ref (ad (hh_gI r i 1)), .int x, .int (v (hh_cI r i) 3), .int (v (hh_cI r i) 4), .int (v (hh_cI r i) 5), .int (v (hh_cI r i) 6)]) := by rw [hh_E_c r h]; simp [hh_up]
theorem hh_pc3 {K : Nat → ClassId} {ad : Nat → Nat} {v : hh_M} (r : Nat) {i : Nat} (h : i < 24) {x : Int32} : hh_E K ad (hh_up v (hh_cI r i) 3 x) (hh_cI r i) = .inr (0, [.ref (ad (hh_gI r i 0)), .ref (ad (hh_gI r i 1)), .int (v (hh_cI r i) 2), .int x, .int (v (hh_cI r i) 4), .int (v (hh_cI r i) 5), .int (v (hh_cI r i) 6)]) := by rw [hh_E_c r h]; simp [hh_up]
theorem hh_pc4 {K : Nat → ClassId} {ad : Nat → Nat} {v : hh_M} (r : Nat) {i : Nat} (h : i < 24) {x : Int32} : hh_E K ad (hh_up v (hh_cI r i) 4 x) (hh_cI r i) = .inr (0, [.ref (ad (hh_gI r i 0)), .ref (ad (hh_gI r i 1)), .int (v (hh_cI r i) 2), .int (v (hh_cI r i) 3), .int x, .int (v (hh_cI r i) 5), .int (v (hh_cI r i) 6)]) := by rw [hh_E_c r h]; simp [hh_up]
theorem hh_pc5 {K : Nat → ClassId} {ad : Nat → Nat} {v : hh_M} (r : Nat) {i : Nat} (h : i < 24) {x : Int32} : hh_E K ad (hh_up v (hh_cI r i) 5 x) (hh_cI r i) = .inr (0, [.ref (ad (hh_gI r i 0)), .ref (ad (hh_gI r i 1)), .int (v (hh_cI r i) 2), .int (v (hh_cI r i) 3), .int (v (hh_cI r i) 4), .int x, .int (v (hh_cI r i) 6)]) := by rw [hh_E_c r h]; simp [hh_up]
theorem hh_pc6 {K : Nat → ClassId} {ad : Nat → Nat} {v : hh_M} (r : Nat) {i : Nat} (h : i < 24) {x : Int32} : hh_E K ad (hh_up v (hh_cI r i) 6 x) (hh_cI r i) = .inr (0, [.ref (ad (hh_gI r i 0)), .ref (ad (hh_gI r i 1)), .int (v (hh_cI r i) 2), .int (v (hh_cI r i) 3), .int (v (hh_cI r i) 4), .int (v (hh_cI r i) 5), .int x]) := by rw [hh_E_c r h]; simp [hh_up]
theorem hh_pg0 {K : Nat → ClassId} {ad : Nat → Nat} {v : hh_M} (r : Nat) {i g : Nat} (h : i < 24) (hg : g < 2) {x : Int32} : hh_E K ad (hh_up v (hh_gI r i g) 0 x) (hh_gI r i g) = .inr (2, [.int x, .int (v (hh_gI r i g) 1), .int (v (hh_gI r i g) 2), .int (v (hh_gI r i g) 3), .int (v (hh_gI r i g) 4), .int (v (hh_gI r i g) 5)]) := by rw [hh_E_g r h hg]; simp [hh_up]
theorem hh_pg1 {K : Nat → ClassId} {ad : Nat → Nat} {v : hh_M} (r : Nat) {i g : Nat} (h : i < 24) (hg : g < 2) {x : Int32} : hh_E K ad (hh_up v (hh_gI r i g) 1 x) (hh_gI r i g) = .inr (2, [.int (v (hh_gI r i g) 0), .int x, .int (v (hh_gI r i g) 2), .int (v (hh_gI r i g) 3), .int (v (hh_gI r i g) 4), .int (v (hh_gI r i g) 5)]) := by rw [hh_E_g r h hg]; simp [hh_up]
theorem hh_pg2 {K : Nat → ClassId} {ad : Nat → Nat} {v : hh_M} (r : Nat) {i g : Nat} (h : i < 24) (hg : g < 2) {x : Int32} : hh_E K ad (hh_up v (hh_gI r i g) 2 x) (hh_gI r i g) = .inr (2, [.int (v (hh_gI r i g) 0), .int (v (hh_gI r i g) 1), .int x, .int (v (hh_gI r i g) 3), .int (v (hh_gI r i g) 4), .int (v (hh_gI r i g) 5)]) := by rw [hh_E_g r h hg]; simp [hh_up]
theorem hh_pg3 {K : Nat → ClassId} {ad : Nat → Nat} {v : hh_M} (r : Nat) {i g : Nat} (h : i < 24) (hg : g < 2) {x : Int32} : hh_E K ad (hh_up v (hh_gI r i g) 3 x) (hh_gI r i g) = .inr (2, [.int (v (hh_gI r i g) 0), .int (v (hh_gI r i g) 1), .int (v (hh_gI r i g) 2), .int x, .int (v (hh_gI r i g) 4), .int (v (hh_gI r i g) 5)]) := by rw [hh_E_g r h hg]; simp [hh_up]
theorem hh_pg4 {K : Nat → ClassId} {ad : Nat → Nat} {v : hh_M} (r : Nat) {i g : Nat} (h : i < 24) (hg : g < 2) {x : Int32} : hh_E K ad (hh_up v (hh_gI r i g) 4 x) (hh_gI r i g) = .inr (2, [.int (v (hh_gI r i g) 0), .int (v (hh_gI r i g) 1), .int (v (hh_gI r i g) 2), .int (v (hh_gI r i g) 3), .int x, .int (v (hh_gI r i g) 5)]) := by rw [hh_E_g r h hg]; simp [hh_up]
theorem hh_pg5 {K : Nat → ClassId} {ad : Nat → Nat} {v : hh_M} (r : Nat) {i g : Nat} (h : i < 24) (hg : g < 2) {x : Int32} : hh_E K ad (hh_up v (hh_gI r i g) 5 x) (hh_gI r i g) = .inr (2, [.int (v (hh_gI r i g) 0), .int (v (hh_gI r i g) 1), .int (v (hh_gI r i g) 2), .int (v (hh_gI r i g) 3), .int (v (hh_gI r i g) 4), .int x]) := by rw [hh_E_g r h hg]; simp [hh_up]

section HHR
variable {p : Program} {l : Launch} {e : Env} {R : Room} {s : State} {m : MethodId} {args : Array Value} {below : List Frame} {meth : Method} {c : Code} {H : Heap} {locs : List Loc} {cells slots : Nat} {Q : State → Prop}
variable {cc : ByteArray} {pc nL : Nat} {ls : Array Slot} {rest : List Value} {D : va_G} {K : Nat → ClassId} {ad : Nat → Nat} {A : Nat → Prop} {v : hh_M} {ret : Option FieldType} {own : String}
/-- a field is read -/
theorem hh_get (C0 : hh_C p s m args meth c D K cc nL ret own A) (hp : hh_H D K ad A s.heap v H locs) {j ci N index : Nat} {C : String} {T : u_T} {fs : List Value} (hj : j < 190) (he : hh_E K ad v j = .inr (ci, fs)) (hc : hh_cl[ci]? = some (C, T, N)) (hin : ∀ w ∈ u_ws C T N, w ∈ hh_wa) (k : Nat) (hk : k < N) (hw : Cond.fieldLink own index C (T k).2.1 (T k).2.2.1 ∈ hh_wa) (hsame : (T k).1 = C) {x : Value} (hv : fs[k]? = some x) (hdg : decode cc pc = .ok (.getfield index, 3))
    (kk : W p l e R s m args below meth c H locs cells slots Q (F0 m (pc + 3) ls (x :: rest))) : W p l e R s m args below meth c H locs cells slots Q (F0 m pc ls (.ref (ad j) :: rest)) := by
  obtain ⟨hx, hb, hr, hml, hown, hts, hK, hlk, hA⟩ := C0
  exact va_get (D := D) (cl := hh_cl) (ws := hh_W K ad v) hx hb hts hin hown hK hp.1 j (by rw [hh_W_at hj, he]) hc k hk (hts _ hw) (by rw [hsame]; exact fun _ h => h) hv hdg kk
/-- a field of whole numbers is written -/
theorem hh_put (C0 : hh_C p s m args meth c D K cc nL ret own A) (hp : hh_H D K ad A s.heap v H locs) {j ci N index : Nat} {C : String} {T : u_T} {ty0 : Nat → FieldType} {fs : List Value} {x : Int32} {k : Nat} (hj : j < 190) (he : hh_E K ad v j = .inr (ci, fs)) (he2 : hh_E K ad (hh_up v j k x) j = .inr (ci, fs.set k (.int x))) (hc : hh_cl[ci]? = some (C, T, N)) (hin : ∀ w ∈ u_ws C T N, w ∈ hh_wa) (hty : ∀ k, k < N → parseFieldDescriptor (T k).2.2.1 = some (ty0 k)) (hnm : ∀ a, a < N → ∀ b, b < N → a ≠ b → (T a).2.1 ≠ (T b).2.1) (hk : k < N) (hw : Cond.fieldLink own index C (T k).2.1 (T k).2.2.1 ∈ hh_wa) (hsame : (T k).1 = C) (hfin : (T k).2.2.2 = false) {ty : FieldType} (hd : parseFieldDescriptor (T k).2.2.1 = some ty) (hn : narrow ty (.int x) = .int x) (hfit : fits ty (.int x) = true) (hl : k < fs.length) (hdg : decode cc pc = .ok (.putfield index, 3))
    (kk : ∀ (H1 : Heap) (locs1 : List Loc), hh_H D K ad A s.heap (hh_up v j k x) H1 locs1 → W p l e R s m args below meth c H1 locs1 cells slots Q (F0 m (pc + 3) ls rest)) : W p l e R s m args below meth c H locs cells slots Q (F0 m pc ls (.int x :: .ref (ad j) :: rest)) := by
  obtain ⟨hx, hb, hr, hml, hown, hts, hK, hlk, hA⟩ := C0
  refine va_put (D := D) (cl := hh_cl) (ws := hh_W K ad v) hx hb hts hin ty0 hty hnm hown hK hp.1 hp.2.1 hp.2.2 j (by rw [hh_W_at hj, he]) hc k hk (hts _ hw) (by rw [hsame]; exact fun _ h => h) hfin hd hn hfit hl hdg (fun H1 locs1 hP hD hS => kk H1 locs1 ?_)
  rw [← he2, hh_W_set hj] at hP hD
  exact ⟨hP, hD, hS⟩
/-- a place of a row of whole numbers is read -/
theorem hh_ial (C0 : hh_C p s m args meth c D K cc nL ret own A) (hp : hh_H D K ad A s.heap v H locs) {j n : Nat} (hj : j < 190) (he : hh_E K ad v j = .inl (K 0, n, .inl (v j))) {i : Int32} {k' : Nat} (hin : vp_in i n) (hk : i.toNatClampNeg = k') (hdg : decode cc pc = .ok (.iaload, 1))
    (kk : W p l e R s m args below meth c H locs cells slots Q (F0 m (pc + 1) ls (.int (v j k') :: rest))) : W p l e R s m args below meth c H locs cells slots Q (F0 m pc ls (.int i :: .ref (ad j) :: rest)) := by
  obtain ⟨hx, hb, hr, hml, hown, hts, hK, hlk, hA⟩ := C0
  subst hk
  exact va_iald (D := D) (cl := hh_cl) (tys := hh_ty K) (ws := hh_W K ad v) (f := v j) hx hb hK hp.1 j 0 (by rw [hh_W_at hj, he]) rfl hin hdg kk
/-- a place of a row of whole numbers is written -/
theorem hh_ias (C0 : hh_C p s m args meth c D K cc nL ret own A) (hp : hh_H D K ad A s.heap v H locs) {j n : Nat} (hj : j < 190) {i x : Int32} {k' : Nat} (he : ∀ w : hh_M, hh_E K ad w j = .inl (K 0, n, .inl (w j))) (hin : vp_in i n) (hk : i.toNatClampNeg = k') (hdg : decode cc pc = .ok (.iastore, 1))
    (kk : ∀ (H1 : Heap) (locs1 : List Loc), hh_H D K ad A s.heap (hh_up v j k' x) H1 locs1 → W p l e R s m args below meth c H1 locs1 cells slots Q (F0 m (pc + 1) ls rest)) : W p l e R s m args below meth c H locs cells slots Q (F0 m pc ls (.int x :: .int i :: .ref (ad j) :: rest)) := by
  obtain ⟨hx, hb, hr, hml, hown, hts, hK, hlk, hA⟩ := C0
  subst hk
  refine va_iast (D := D) (cl := hh_cl) (tys := hh_ty K) (ws := hh_W K ad v) (f := v j) hx hb hK hp.1 hp.2.1 hp.2.2 j 0 (by rw [hh_W_at hj, he]) rfl hin hdg (fun H1 locs1 hP hD hS => kk H1 locs1 ?_)
  have e : (Sum.inl (K 0, n, .inl (upd (v j) i.toNatClampNeg x)) : va_E) = hh_E K ad (hh_up v j i.toNatClampNeg x) j := by rw [he, hh_up_self]
  rw [e, hh_W_set hj] at hP hD
  exact ⟨hP, hD, hS⟩
/-- a place of a row of references is read -/
theorem hh_aal (C0 : hh_C p s m args meth c D K cc nL ret own A) (hp : hh_H D K ad A s.heap v H locs) {j n t0 : Nat} {f : Nat → Nat} {cA : ClassId} {ty : FieldType} (hj : j < 190) (he : hh_E K ad v j = .inl (cA, n, .inr (.inr (.inr (.inr (fun i => some (ad (f i)))))))) (ht : (hh_ty K)[t0]? = some (cA, ty)) (hr : ty.isReference = true) {i : Int32} {k' : Nat} (hin : vp_in i n) (hk : i.toNatClampNeg = k') (hdg : decode cc pc = .ok (.aaload, 1))
    (kk : W p l e R s m args below meth c H locs cells slots Q (F0 m (pc + 1) ls (.ref (ad (f k')) :: rest))) : W p l e R s m args below meth c H locs cells slots Q (F0 m pc ls (.int i :: .ref (ad j) :: rest)) := by
  obtain ⟨hx, hb, -, hml, hown, hts, hK, hlk, hA⟩ := C0
  subst hk
  have hlt : i.toNatClampNeg < n := Nat.not_le.mp fun q => hin (Or.inr q)
  exact W.aald (v := va_rf (some (ad (f i.toNatClampNeg)))) (ty := ty) hx hb (hp.1 j (ad j, .inl (cA, n, .inr (.inr (.inr (.inr (fun i => some (ad (f i)))))))) (by rw [hh_W_at hj, he])) ((hK.2 t0 _ ht).1 n (fun i => va_rf (some (ad (f i))))) hr (fun q => by cases q) (by show ¬ (i < 0 ∨ (arrV _ _ _).slots.size ≤ _); rw [arrV_size]; exact hin) (by show (arrV _ _ _).slots[_]? = _; rw [arrV_read _ _ hlt]) rfl rfl hdg kk
end HHR
/-- CONTRACTS over the world: a method's answer and the numbers behind it -/
def hh_Pc (D : va_G) (K : Nat → ClassId) (ad : Nat → Nat) (As : List Value) (v : hh_M) (sz : Nat) : Array Value → State → Prop := va_Pc As (fun U => U.heap.size = sz ∧ va_P D hh_cl (hh_W K ad v) U.heap ∧ va_K D hh_cl (hh_ty K) U ∧ va_D (fun _ => True) (hh_W K ad v))
def hh_B (D : va_G) (K : Nat → ClassId) (ad : Nat → Nat) (A : Nat → Prop) (v : hh_M) (t : State) : Prop := va_P D hh_cl (hh_W K ad v) t.heap ∧ va_K D hh_cl (hh_ty K) t ∧ va_D A (hh_W K ad v)
def hh_Ki (l : Launch) (D : va_G) (K : Nat → ClassId) (ad : Nat → Nat) (y : MethodName) (ws : List Cond) (rm : Room) (As : List Value) (v : hh_M) (φ : Int32 → hh_M → Prop) : Prop := ∀ sz : Nat, Met l y ws rm (hh_Pc D K ad As v sz) (va_Qi φ (hh_B D K ad (va_A (hh_W K ad v) sz)) (va_A (hh_W K ad v) sz)) 0 0 (va_A (hh_W K ad v) sz)
def hh_Kv (l : Launch) (D : va_G) (K : Nat → ClassId) (ad : Nat → Nat) (y : MethodName) (ws : List Cond) (rm : Room) (As : List Value) (v : hh_M) (φ : hh_M → Prop) : Prop := ∀ sz : Nat, Met l y ws rm (hh_Pc D K ad As v sz) (va_Qv φ (hh_B D K ad (va_A (hh_W K ad v) sz)) (va_A (hh_W K ad v) sz)) 0 0 (va_A (hh_W K ad v) sz)
def hh_Kl (l : Launch) (D : va_G) (K : Nat → ClassId) (ad : Nat → Nat) (y : MethodName) (ws : List Cond) (rm : Room) (As : List Value) (v : hh_M) (φ : Int64 → hh_M → Prop) : Prop := ∀ sz : Nat, Met l y ws rm (hh_Pc D K ad As v sz) (va_Ql φ (hh_B D K ad (va_A (hh_W K ad v) sz)) (va_A (hh_W K ad v) sz)) 0 0 (va_A (hh_W K ad v) sz)
abbrev hh_wm (y : MethodName) (cc : ByteArray) (nL : Nat) (ret : Option FieldType) : List Cond := Cond.code y cc nL ret :: hh_wa
section HHM
variable {l : Launch} {D : va_G} {K : Nat → ClassId} {ad : Nat → Nat} {y : MethodName} {cc : ByteArray} {nL : Nat} {ret : Option FieldType} {rm : Room} {As : List Value} {v : hh_M}
theorem hh_enter {Qc : Array Value → State → Outcome → State → Prop} {sz : Nat} (hy : plainName y.cls = true) (hn : (lg_sl As).length ≤ nL)
    (body : ∀ (p : Program) (e : Env) (s : State) (m : MethodId) (args : Array Value) (below : List Frame) (meth : Method) (c : Code) (ls : Array Slot) (A : Nat → Prop), s.heap.size = sz → A = va_A (hh_W K ad v) sz → hh_C p s m args meth c D K cc nL ret y.cls A → hh_H D K ad A s.heap v s.heap [] → lv_has ls nL (lv_args 0 As) → W p l e rm s m args below meth c s.heap [] 0 0 (MQ below Qc args s 0 0 A) (F0 m 0 ls [])) :
    Met l y (hh_wm y cc nL ret) rm (hh_Pc D K ad As v sz) Qc 0 0 (va_A (hh_W K ad v) sz) := by
  refine Met.ofW (cc := cc) (maxL := nL) (ret := ret) hy rfl ?_
  intro p e s m args below meth c s₁ B hml hv
  obtain ⟨rfl, hsz, hP, hK, hD0⟩ := hv
  have hts := atoms_spec (ws := hh_wm y cc nL ret) B.pre
  subst hsz
  have hl := lv_entry As (n := nL) hn
  rw [lg_entry_eq]
  exact body p e s m _ below meth c _ _ rfl rfl ⟨B.exec, B.bytes, B.returns, hml, findClass_of_methodNamed B.named, fun w hw => hts w (List.mem_cons_of_mem _ hw), hK, B.notSynchronized, fun q h => Or.inr h⟩ ⟨hP, hD0.self, va_S.rf⟩ hl
theorem hh_Ki_of {φ : Int32 → hh_M → Prop} (hy : plainName y.cls = true) (hn : (lg_sl As).length ≤ nL)
    (body : ∀ (p : Program) (e : Env) (s : State) (m : MethodId) (args : Array Value) (below : List Frame) (meth : Method) (c : Code) (ls : Array Slot) (A : Nat → Prop), hh_C p s m args meth c D K cc nL ret y.cls A → hh_H D K ad A s.heap v s.heap [] → lv_has ls nL (lv_args 0 As) → W p l e rm s m args below meth c s.heap [] 0 0 (MQ below (va_Qi φ (hh_B D K ad A) A) args s 0 0 A) (F0 m 0 ls [])) : hh_Ki l D K ad y (hh_wm y cc nL ret) rm As v φ := by
  intro sz
  refine hh_enter hy hn ?_
  intro p e s m args below meth c ls A _ hA C0 hp hl
  subst hA
  exact body p e s m args below meth c ls _ C0 hp hl
theorem hh_Kv_of {φ : hh_M → Prop} (hy : plainName y.cls = true) (hn : (lg_sl As).length ≤ nL)
    (body : ∀ (p : Program) (e : Env) (s : State) (m : MethodId) (args : Array Value) (below : List Frame) (meth : Method) (c : Code) (ls : Array Slot) (A : Nat → Prop), hh_C p s m args meth c D K cc nL ret y.cls A → hh_H D K ad A s.heap v s.heap [] → lv_has ls nL (lv_args 0 As) → W p l e rm s m args below meth c s.heap [] 0 0 (MQ below (va_Qv φ (hh_B D K ad A) A) args s 0 0 A) (F0 m 0 ls [])) : hh_Kv l D K ad y (hh_wm y cc nL ret) rm As v φ := by
  intro sz
  refine hh_enter hy hn ?_
  intro p e s m args below meth c ls A _ hA C0 hp hl
  subst hA
  exact body p e s m args below meth c ls _ C0 hp hl
theorem hh_Kl_of {φ : Int64 → hh_M → Prop} (hy : plainName y.cls = true) (hn : (lg_sl As).length ≤ nL)
    (body : ∀ (p : Program) (e : Env) (s : State) (m : MethodId) (args : Array Value) (below : List Frame) (meth : Method) (c : Code) (ls : Array Slot) (A : Nat → Prop), hh_C p s m args meth c D K cc nL ret y.cls A → hh_H D K ad A s.heap v s.heap [] → lv_has ls nL (lv_args 0 As) → W p l e rm s m args below meth c s.heap [] 0 0 (MQ below (va_Ql φ (hh_B D K ad A) A) args s 0 0 A) (F0 m 0 ls [])) : hh_Kl l D K ad y (hh_wm y cc nL ret) rm As v φ := by
  intro sz
  refine hh_enter hy hn ?_
  intro p e s m args below meth c ls A _ hA C0 hp hl
  subst hA
  exact body p e s m args below meth c ls _ C0 hp hl
end HHM
section HHE
variable {p : Program} {l : Launch} {e : Env} {R : Room} {s : State} {m : MethodId} {args : Array Value} {below : List Frame} {meth : Method} {c : Code} {H : Heap} {locs : List Loc}
variable {cc : ByteArray} {pc nL : Nat} {ls : Array Slot} {D : va_G} {K : Nat → ClassId} {ad : Nat → Nat} {A : Nat → Prop} {v : hh_M} {ret : Option FieldType} {own : String}
/-- the ends -/
theorem hh_iret {φ : Int32 → hh_M → Prop} {x : Int32} (C0 : hh_C p s m args meth c D K cc nL (some .int) own A) (hp : hh_H D K ad A s.heap v H locs) (hdg : decode cc pc = .ok (.ireturn, 1)) (hφ : φ x v) : W p l e R s m args below meth c H locs 0 0 (MQ below (va_Qi φ (hh_B D K ad A) A) args s 0 0 A) (F0 m pc ls [.int x]) := by
  obtain ⟨hx, hb, hr, hml, hown, hts, hK, hlk, hA⟩ := C0
  exact W.iret hx hb hr (fun t ht hW => ⟨⟨x, v, rfl, hφ, by rw [ht]; exact hp.1, va_K.moved hW.alike hK, hp.2.1⟩, hp.2.2.F ht⟩) hp.2.2.2.2 hdg hlk
theorem hh_zret {φ : Int32 → hh_M → Prop} {x : Int32} (C0 : hh_C p s m args meth c D K cc nL (some .boolean) own A) (hp : hh_H D K ad A s.heap v H locs) (hdg : decode cc pc = .ok (.ireturn, 1)) (h01 : x = 0 ∨ x = 1) (hφ : φ x v) : W p l e R s m args below meth c H locs 0 0 (MQ below (va_Qi φ (hh_B D K ad A) A) args s 0 0 A) (F0 m pc ls [.int x]) := by
  obtain ⟨hx, hb, hr, hml, hown, hts, hK, hlk, hA⟩ := C0
  exact W.zret hx hb hr (by rcases h01 with rfl | rfl <;> rfl) (fun t ht hW => ⟨⟨x, v, rfl, hφ, by rw [ht]; exact hp.1, va_K.moved hW.alike hK, hp.2.1⟩, hp.2.2.F ht⟩) hp.2.2.2.2 hdg hlk
theorem hh_lret {φ : Int64 → hh_M → Prop} {x : Int64} (C0 : hh_C p s m args meth c D K cc nL (some .long) own A) (hp : hh_H D K ad A s.heap v H locs) (hdg : decode cc pc = .ok (.lreturn, 1)) (hφ : φ x v) : W p l e R s m args below meth c H locs 0 0 (MQ below (va_Ql φ (hh_B D K ad A) A) args s 0 0 A) (F0 m pc ls [.long x]) := by
  obtain ⟨hx, hb, hr, hml, hown, hts, hK, hlk, hA⟩ := C0
  exact W.lret hx hb hr (fun t ht hW => ⟨⟨x, v, rfl, hφ, by rw [ht]; exact hp.1, va_K.moved hW.alike hK, hp.2.1⟩, hp.2.2.F ht⟩) hp.2.2.2.2 hdg hlk
theorem hh_vret {φ : hh_M → Prop} (C0 : hh_C p s m args meth c D K cc nL none own A) (hp : hh_H D K ad A s.heap v H locs) (hdg : decode cc pc = .ok (.return_, 1)) (hφ : φ v) : W p l e R s m args below meth c H locs 0 0 (MQ below (va_Qv φ (hh_B D K ad A) A) args s 0 0 A) (F0 m pc ls []) := by
  obtain ⟨hx, hb, hr, hml, hown, hts, hK, hlk, hA⟩ := C0
  exact W.vret hx hb hr (fun t ht hW => ⟨⟨v, rfl, hφ, by rw [ht]; exact hp.1, va_K.moved hW.alike hK, hp.2.1⟩, hp.2.2.F ht⟩) hp.2.2.2.2 hdg hlk
end HHE
/-- a callee's words -/
theorem hh_gV {own C : String} {index nL : Nat} {y : MethodName} {bytes : ByteArray} {ret : Option FieldType} (h1 : Cond.methodLink own index y ∈ hh_wa) (h2 : Cond.instanceMethod y ∈ hh_wa) (h3 : Cond.selects C y y ∈ hh_wa) (h4 : Cond.initialized C ∈ hh_wa) (h5 : Cond.code y bytes nL ret ∈ hh_wa) : GoodIn hh_wa (wsV own index C y (hh_wm y bytes nL ret)) := by
  intro w hw
  unfold wsV at hw
  rcases List.mem_append.mp hw with hw | hw
  · simp only [List.mem_cons, List.not_mem_nil, or_false] at hw
    rcases hw with rfl | rfl | rfl | rfl
    · exact hh_good _ h1
    · exact hh_good _ h2
    · exact hh_good _ h3
    · exact hh_good _ h4
  · rcases List.mem_cons.mp hw with rfl | hw
    · exact hh_good _ h5
    · exact hh_good _ hw
theorem hh_gS {own : String} {index nL : Nat} {y : MethodName} {bytes : ByteArray} {ret : Option FieldType} (h1 : Cond.methodLink own index y ∈ hh_wa) (h2 : Cond.static y ∈ hh_wa) (h4 : Cond.initialized own ∈ hh_wa) (h5 : Cond.code y bytes nL ret ∈ hh_wa) : GoodIn hh_wa (wsS own index y (hh_wm y bytes nL ret)) := by
  intro w hw
  unfold wsS at hw
  rcases List.mem_append.mp hw with hw | hw
  · simp only [List.mem_cons, List.not_mem_nil, or_false] at hw
    rcases hw with rfl | rfl | rfl
    · exact hh_good _ h1
    · exact hh_good _ h2
    · exact hh_good _ h4
  · rcases List.mem_cons.mp hw with rfl | hw
    · exact hh_good _ h5
    · exact hh_good _ hw
theorem hh_blind {D : va_G} {K : Nat → ClassId} {ad : Nat → Nat} {As : List Value} {v : hh_M} {sz : Nat} : FrameBlind (hh_Pc D K ad As v sz) := by
  intro a U g mk q
  obtain ⟨q0, q1, qP, qK, qD⟩ := q
  exact ⟨q0, q1, qP, va_K.moved (u := U) (U := U.calling g mk a) (Vm.Alike.refl U.vm) qK, qD⟩
section HHC
variable {p : Program} {l : Launch} {e : Env} {R : Room} {s : State} {m : MethodId} {args : Array Value} {below : List Frame} {meth : Method} {c : Code} {H : Heap} {locs : List Loc} {cells slots : Nat} {Q : State → Prop}
variable {cc : ByteArray} {pc nL : Nat} {ls : Array Slot} {rest st0 : List Value} {D : va_G} {K : Nat → ClassId} {ad : Nat → Nat} {A : Nat → Prop} {v : hh_M} {ret : Option FieldType} {own : String}
variable {C : String} {T : u_T} {N j ci index maxL n : Nat} {y : MethodName} {bytes : ByteArray} {ret' : Option FieldType} {rm : Room} {As : List Value} {fs : List Value}
theorem hh_free (hp : hh_H D K ad A s.heap v H locs) (hA : ∀ q, s.heap.size ≤ q → A q) : ∀ q, va_A (hh_W K ad v) H.size q → A q := by
  intro q hq
  rcases hq with ⟨k, e', he⟩ | hq
  · exact hp.2.1.2 k (q, e') he
  · exact hA q (Nat.le_trans hp.2.2.1 hq)
/-- an own method of an object is called (invokevirtual): it answers a whole number -/
theorem hh_cVi {φ : Int32 → hh_M → Prop} (C0 : hh_C p s m args meth c D K cc nL ret own A) (hp : hh_H D K ad A s.heap v H locs) (M : hh_Ki l D K ad y (hh_wm y bytes maxL ret') rm (.ref (ad j) :: As) v φ) (hc : hh_cl[ci]? = some (C, T, N)) (hj : j < 190) (he : hh_E K ad v j = .inr (ci, fs)) (g : GoodIn hh_wa (wsV own index C y (hh_wm y bytes maxL ret'))) (hrm : rm.cells = 0 ∧ rm.slots = 0)
    (hd : y.cls = C ∧ y.cls ≠ "java/lang/invoke/MethodHandle" ∧ y.cls ≠ "java/lang/invoke/VarHandle" ∧ (parseMethodDescriptor y.desc).map (fun d => d.parameters.length) = some n) (hR : rm.frames + 1 ≤ R.frames ∧ 8 + (maxL + 11) + rm.locals ≤ R.locals) (hf : cells ≤ R.cells ∧ slots ≤ R.slots) (hsz : ls.size = nL) (hn : As.length = n) (hst0 : st0 = As.reverse ++ .ref (ad j) :: rest) (hst : (rest.map fun v => v.category).sum ≤ 8) (hdg : decode cc pc = .ok (.invokevirtual index, 3))
    (kk : ∀ (q : Int32) (v1 : hh_M) (H1 : Heap) (locs1 : List Loc), φ q v1 → hh_H D K ad A s.heap v1 H1 locs1 → W p l e R s m args below meth c H1 locs1 cells slots Q (F0 m (pc + 3) ls (.int q :: rest))) : W p l e R s m args below meth c H locs cells slots Q (F0 m pc ls st0) := by
  subst hst0
  obtain ⟨hx, hb, hr, hml, hown, hts, hK, hlk, hA⟩ := C0
  have hF := hh_free hp hA
  refine va_calli (va_runV (As := As) (rest := rest) ⟨hx, hb, hml, hown, hts⟩ (M H.size) (cwV n hts g rfl hrm.1 hrm.2 hd hR) ⟨hh_blind, va_recv (q := (C, T, N)) hK hp.1 hc (by rw [hh_W_at hj, he]), fun U hU hW => ⟨rfl, by rw [hU], by rw [hU]; exact hp.1, va_K.moved hW.alike hK, hp.2.1.weaken (fun _ _ _ _ => trivial)⟩⟩ rfl hn hsz rfl (lv_room hst) hdg ⟨hf.1, hf.2⟩) hp.2.2 (fun q _ h => hF q h) hF (fun q v1 t H1 locs1 ht hvm hw hB hz1 hk1 hS1 => ?_)
  obtain ⟨hP1, hK1, hD1⟩ := hB
  rw [ht] at hP1
  exact kk q v1 H1 locs1 hw ⟨hP1, hD1.weaken (fun k q _ h => hF _ h), hS1⟩
/-- the same, with no answer -/
theorem hh_cVv {φ : hh_M → Prop} (C0 : hh_C p s m args meth c D K cc nL ret own A) (hp : hh_H D K ad A s.heap v H locs) (M : hh_Kv l D K ad y (hh_wm y bytes maxL ret') rm (.ref (ad j) :: As) v φ) (hc : hh_cl[ci]? = some (C, T, N)) (hj : j < 190) (he : hh_E K ad v j = .inr (ci, fs)) (g : GoodIn hh_wa (wsV own index C y (hh_wm y bytes maxL ret'))) (hrm : rm.cells = 0 ∧ rm.slots = 0)
    (hd : y.cls = C ∧ y.cls ≠ "java/lang/invoke/MethodHandle" ∧ y.cls ≠ "java/lang/invoke/VarHandle" ∧ (parseMethodDescriptor y.desc).map (fun d => d.parameters.length) = some n) (hR : rm.frames + 1 ≤ R.frames ∧ 8 + (maxL + 11) + rm.locals ≤ R.locals) (hf : cells ≤ R.cells ∧ slots ≤ R.slots) (hsz : ls.size = nL) (hn : As.length = n) (hst0 : st0 = As.reverse ++ .ref (ad j) :: rest) (hst : (rest.map fun v => v.category).sum ≤ 8) (hdg : decode cc pc = .ok (.invokevirtual index, 3))
    (kk : ∀ (v1 : hh_M) (H1 : Heap) (locs1 : List Loc), φ v1 → hh_H D K ad A s.heap v1 H1 locs1 → W p l e R s m args below meth c H1 locs1 cells slots Q (F0 m (pc + 3) ls rest)) : W p l e R s m args below meth c H locs cells slots Q (F0 m pc ls st0) := by
  subst hst0
  obtain ⟨hx, hb, hr, hml, hown, hts, hK, hlk, hA⟩ := C0
  have hF := hh_free hp hA
  refine va_callv (va_runV (As := As) (rest := rest) ⟨hx, hb, hml, hown, hts⟩ (M H.size) (cwV n hts g rfl hrm.1 hrm.2 hd hR) ⟨hh_blind, va_recv (q := (C, T, N)) hK hp.1 hc (by rw [hh_W_at hj, he]), fun U hU hW => ⟨rfl, by rw [hU], by rw [hU]; exact hp.1, va_K.moved hW.alike hK, hp.2.1.weaken (fun _ _ _ _ => trivial)⟩⟩ rfl hn hsz rfl (lv_room hst) hdg ⟨hf.1, hf.2⟩) hp.2.2 (fun q _ h => hF q h) hF (fun v1 t H1 locs1 ht hvm hw hB hz1 hk1 hS1 => ?_)
  obtain ⟨hP1, hK1, hD1⟩ := hB
  rw [ht] at hP1
  exact kk v1 H1 locs1 hw ⟨hP1, hD1.weaken (fun k q _ h => hF _ h), hS1⟩
/-- the same, with a long answer -/
theorem hh_cVl {φ : Int64 → hh_M → Prop} (C0 : hh_C p s m args meth c D K cc nL ret own A) (hp : hh_H D K ad A s.heap v H locs) (M : hh_Kl l D K ad y (hh_wm y bytes maxL ret') rm (.ref (ad j) :: As) v φ) (hc : hh_cl[ci]? = some (C, T, N)) (hj : j < 190) (he : hh_E K ad v j = .inr (ci, fs)) (g : GoodIn hh_wa (wsV own index C y (hh_wm y bytes maxL ret'))) (hrm : rm.cells = 0 ∧ rm.slots = 0)
    (hd : y.cls = C ∧ y.cls ≠ "java/lang/invoke/MethodHandle" ∧ y.cls ≠ "java/lang/invoke/VarHandle" ∧ (parseMethodDescriptor y.desc).map (fun d => d.parameters.length) = some n) (hR : rm.frames + 1 ≤ R.frames ∧ 8 + (maxL + 11) + rm.locals ≤ R.locals) (hf : cells ≤ R.cells ∧ slots ≤ R.slots) (hsz : ls.size = nL) (hn : As.length = n) (hst0 : st0 = As.reverse ++ .ref (ad j) :: rest) (hst : (rest.map fun v => v.category).sum ≤ 8) (hdg : decode cc pc = .ok (.invokevirtual index, 3))
    (kk : ∀ (q : Int64) (v1 : hh_M) (H1 : Heap) (locs1 : List Loc), φ q v1 → hh_H D K ad A s.heap v1 H1 locs1 → W p l e R s m args below meth c H1 locs1 cells slots Q (F0 m (pc + 3) ls (.long q :: rest))) : W p l e R s m args below meth c H locs cells slots Q (F0 m pc ls st0) := by
  subst hst0
  obtain ⟨hx, hb, hr, hml, hown, hts, hK, hlk, hA⟩ := C0
  have hF := hh_free hp hA
  refine va_calll (va_runV (As := As) (rest := rest) ⟨hx, hb, hml, hown, hts⟩ (M H.size) (cwV n hts g rfl hrm.1 hrm.2 hd hR) ⟨hh_blind, va_recv (q := (C, T, N)) hK hp.1 hc (by rw [hh_W_at hj, he]), fun U hU hW => ⟨rfl, by rw [hU], by rw [hU]; exact hp.1, va_K.moved hW.alike hK, hp.2.1.weaken (fun _ _ _ _ => trivial)⟩⟩ rfl hn hsz rfl (lv_room hst) hdg ⟨hf.1, hf.2⟩) hp.2.2 (fun q _ h => hF q h) hF (fun q v1 t H1 locs1 ht hvm hw hB hz1 hk1 hS1 => ?_)
  obtain ⟨hP1, hK1, hD1⟩ := hB
  rw [ht] at hP1
  exact kk q v1 H1 locs1 hw ⟨hP1, hD1.weaken (fun k q _ h => hF _ h), hS1⟩
/-- a static method that answers nothing -/
theorem hh_cSv {φ : hh_M → Prop} (C0 : hh_C p s m args meth c D K cc nL ret own A) (hp : hh_H D K ad A s.heap v H locs) (M : hh_Kv l D K ad y (hh_wm y bytes maxL ret') rm As v φ) (g : GoodIn hh_wa (wsS own index y (hh_wm y bytes maxL ret'))) (hrm : rm.cells = 0 ∧ rm.slots = 0)
    (hd : y.cls = own ∧ y.cls ≠ "java/lang/invoke/MethodHandle" ∧ y.cls ≠ "java/lang/invoke/VarHandle" ∧ (parseMethodDescriptor y.desc).map (fun d => d.parameters.length) = some n) (hR : rm.frames + 1 ≤ R.frames ∧ 8 + (maxL + 11) + rm.locals ≤ R.locals) (hf : cells ≤ R.cells ∧ slots ≤ R.slots) (hsz : ls.size = nL) (hn : As.length = n) (hst0 : st0 = As.reverse ++ rest) (hst : (rest.map fun v => v.category).sum ≤ 8) (hdg : decode cc pc = .ok (.invokestatic index, 3))
    (kk : ∀ (v1 : hh_M) (H1 : Heap) (locs1 : List Loc), φ v1 → hh_H D K ad A s.heap v1 H1 locs1 → W p l e R s m args below meth c H1 locs1 cells slots Q (F0 m (pc + 3) ls rest)) : W p l e R s m args below meth c H locs cells slots Q (F0 m pc ls st0) := by
  subst hst0
  obtain ⟨hx, hb, hr, hml, hown, hts, hK, hlk, hA⟩ := C0
  have hF := hh_free hp hA
  refine va_callv (va_runS (As := As) (rest := rest) ⟨hx, hb, hml, hown, hts⟩ (M H.size) (cwS n hts g rfl hrm.1 hrm.2 hd hR) ⟨hh_blind, fun U hU hW => ⟨rfl, by rw [hU], by rw [hU]; exact hp.1, va_K.moved hW.alike hK, hp.2.1.weaken (fun _ _ _ _ => trivial)⟩⟩ rfl hn hsz rfl (lv_room hst) hdg ⟨hf.1, hf.2⟩) hp.2.2 (fun q _ h => hF q h) hF (fun v1 t H1 locs1 ht hvm hw hB hz1 hk1 hS1 => ?_)
  obtain ⟨hP1, hK1, hD1⟩ := hB
  rw [ht] at hP1
  exact kk v1 H1 locs1 hw ⟨hP1, hD1.weaken (fun k q _ h => hF _ h), hS1⟩
end HHC
end
section
/-! WHAT EVERY NUMBER OF THE WORLD KEEPS TO (its range): enough for every access of every method. nm: masts told; nh r, nc r: handsets, calls of road r -/
def hh_R (nm : Nat) (nh nc : Nat → Nat) (j k : Nat) (x : Int32) : Prop := match hh_kd j, k with
  | 1, 2 => x = nI nm
  | 8, 6 => x = 0 ∨ x = 1
  | 10, 5 => x = nI (nh (hh_rd j))
  | 10, 6 => x = nI (nc (hh_rd j))
  | 15, 1 => 0 ≤ x ∧ x ≤ 99
  | 15, 2 => -3 ≤ x ∧ x ≤ 3
  | 15, 4 => x = 0 ∨ x = 1
  | 15, 5 => -1 ≤ x ∧ x < nI nm
  | 15, 6 => -1 ≤ x ∧ x < nI 24
  | 17, 0 => -1 ≤ x ∧ x < nI 8
  | 17, 1 => -1 ≤ x ∧ x < nI nm
  | _, _ => True
def hh_T (nm : Nat) (nh nc : Nat → Nat) (v : hh_M) : Prop := nm ≤ 6 ∧ (∀ r, nh r ≤ 8) ∧ (∀ r, nc r ≤ 24) ∧ ∀ j k, hh_R nm nh nc j k (v j k)
section HHT
variable {nm : Nat} {nh nc : Nat → Nat} {v : hh_M}
theorem hh_T_up (hT : hh_T nm nh nc v) {j k : Nat} {x : Int32} (h : hh_R nm nh nc j k x) : hh_T nm nh nc (hh_up v j k x) := by
  refine ⟨hT.1, hT.2.1, hT.2.2.1, fun a b => ?_⟩
  unfold hh_up
  by_cases e : a = j ∧ b = k
  · rw [if_pos e, e.1, e.2]; exact h
  · rw [if_neg e]; exact hT.2.2.2 a b
theorem hh_T_M (hT : hh_T nm nh nc v) : v 1 2 = nI nm := hT.2.2.2 1 2
theorem hh_T_r5 (hT : hh_T nm nh nc v) (r : Nat) : v (hh_rI r) 5 = nI (nh r) := by have h := hT.2.2.2 (hh_rI r) 5; simp only [hh_R, hh_kd_r, hh_rd_r] at h; exact h
theorem hh_T_r6 (hT : hh_T nm nh nc v) (r : Nat) : v (hh_rI r) 6 = nI (nc r) := by have h := hT.2.2.2 (hh_rI r) 6; simp only [hh_R, hh_kd_r, hh_rd_r] at h; exact h
theorem hh_T_m6 (hT : hh_T nm nh nc v) {i : Nat} (hi : i < 6) : v (hh_mI i) 6 = 0 ∨ v (hh_mI i) 6 = 1 := by have h := hT.2.2.2 (hh_mI i) 6; simp only [hh_R, hh_kd_m hi] at h; exact h
theorem hh_T_h1 (hT : hh_T nm nh nc v) (r : Nat) {i : Nat} (hi : i < 8) : 0 ≤ v (hh_hI r i) 1 ∧ v (hh_hI r i) 1 ≤ 99 := by have h := hT.2.2.2 (hh_hI r i) 1; simp only [hh_R, hh_kd_h r hi] at h; exact h
theorem hh_T_h2 (hT : hh_T nm nh nc v) (r : Nat) {i : Nat} (hi : i < 8) : -3 ≤ v (hh_hI r i) 2 ∧ v (hh_hI r i) 2 ≤ 3 := by have h := hT.2.2.2 (hh_hI r i) 2; simp only [hh_R, hh_kd_h r hi] at h; exact h
theorem hh_T_h4 (hT : hh_T nm nh nc v) (r : Nat) {i : Nat} (hi : i < 8) : v (hh_hI r i) 4 = 0 ∨ v (hh_hI r i) 4 = 1 := by have h := hT.2.2.2 (hh_hI r i) 4; simp only [hh_R, hh_kd_h r hi] at h; exact h
theorem hh_T_h5 (hT : hh_T nm nh nc v) (r : Nat) {i : Nat} (hi : i < 8) : -1 ≤ v (hh_hI r i) 5 ∧ v (hh_hI r i) 5 < nI nm := by have h := hT.2.2.2 (hh_hI r i) 5; simp only [hh_R, hh_kd_h r hi] at h; exact h
theorem hh_T_h6 (hT : hh_T nm nh nc v) (r : Nat) {i : Nat} (hi : i < 8) : -1 ≤ v (hh_hI r i) 6 ∧ v (hh_hI r i) 6 < nI 24 := by have h := hT.2.2.2 (hh_hI r i) 6; simp only [hh_R, hh_kd_h r hi] at h; exact h
theorem hh_T_g0 (hT : hh_T nm nh nc v) (r : Nat) {i g : Nat} (hi : i < 24) (hg : g < 2) : -1 ≤ v (hh_gI r i g) 0 ∧ v (hh_gI r i g) 0 < nI 8 := by have h := hT.2.2.2 (hh_gI r i g) 0; simp only [hh_R, hh_kd_g r hi hg] at h; exact h
theorem hh_T_g1 (hT : hh_T nm nh nc v) (r : Nat) {i g : Nat} (hi : i < 24) (hg : g < 2) : -1 ≤ v (hh_gI r i g) 1 ∧ v (hh_gI r i g) 1 < nI nm := by have h := hT.2.2.2 (hh_gI r i g) 1; simp only [hh_R, hh_kd_g r hi hg] at h; exact h
/-- a number that is in its range and not NONE is a place -/
theorem hh_in {x : Int32} {n M : Nat} (h : -1 ≤ x ∧ x < nI n) (hne : ¬ x = -1) (hM : n ≤ M) (hM2 : M < 2 ^ 31) : vp_in x M := by
  have h1 := Int32.le_iff_toInt_le.mp h.1
  have h2 := Int32.lt_iff_toInt_lt.mp h.2
  rw [nI_toInt (by omega)] at h2
  have h3 : x.toInt ≠ -1 := fun e => hne (Int32.toInt_inj.mp e)
  rw [vp_in_iff]
  have h4 : (-1 : Int32).toInt = -1 := rfl
  rw [h4] at h1
  omega
theorem hh_inZ {x : Int32} {n M : Nat} (h0 : 0 ≤ x) (h : x < nI n) (hM : n ≤ M) (hM2 : M < 2 ^ 31) : vp_in x M := by
  have h1 := Int32.le_iff_toInt_le.mp h0
  have h2 := Int32.lt_iff_toInt_lt.mp h
  rw [nI_toInt (by omega)] at h2
  rw [vp_in_iff]
  have h4 : (0 : Int32).toInt = 0 := rfl
  rw [h4] at h1
  omega
theorem hh_in99 {x : Int32} (h : 0 ≤ x ∧ x ≤ 99) : vp_in x 100 := by
  have h1 := Int32.le_iff_toInt_le.mp h.1
  have h2 := Int32.le_iff_toInt_le.mp h.2
  rw [vp_in_iff]
  have h4 : (0 : Int32).toInt = 0 := rfl
  have h5 : (99 : Int32).toInt = 99 := rfl
  rw [h4] at h1
  rw [h5] at h2
  omega
theorem hh_lt {x : Int32} {n : Nat} (h : vp_in x n) : x.toNatClampNeg < n := Nat.not_le.mp fun q => h (Or.inr q)
end HHT
def hh_fld {σ : Type} (f : Nat → σ → σ) : Nat → σ → σ
  | 0, s => s
  | n + 1, s => f n (hh_fld f n s)
theorem hh_sw {x : Int32} {n : Nat} (h : ∀ k, k < n → ¬ x = nI k) (hn : n < 2 ^ 31) : x.toInt < 0 ∨ (n : Int) - 1 < x.toInt := by
  by_cases h0 : x.toInt < 0
  · exact Or.inl h0
  · refine Or.inr (Int.not_le.mp fun q => ?_)
    refine h x.toInt.toNat (by omega) (Int32.toInt_inj.mp ?_)
    rw [nI_toInt (by omega)]
    omega
theorem hh_nz {x : Int32} (h : x = 0 ∨ x = 1) : narrow .boolean (.int x) = .int x := by rcases h with rfl | rfl <;> rfl
theorem hh_fz {x : Int32} (h : x = 0 ∨ x = 1) : fits .boolean (.int x) = true := by rcases h with rfl | rfl <;> rfl
theorem hh_sw2 {x : Int32} (h7 : ¬ x = 7) (h8 : ¬ x = 8) (h9 : ¬ x = 9) : x.toInt < 7 ∨ 9 < x.toInt := by
  have e7 : x.toInt ≠ 7 := fun e => h7 (Int32.toInt_inj.mp e)
  have e8 : x.toInt ≠ 8 := fun e => h8 (Int32.toInt_inj.mp e)
  have e9 : x.toInt ≠ 9 := fun e => h9 (Int32.toInt_inj.mp e)
  omega
section HHQ
variable {nm : Nat} {nh nc : Nat → Nat} {x : Int32} {r i g k : Nat}
theorem hh_Rt_h (_ : r < 2) (hi : i < 8) (hk : k ≠ 1 ∧ k ≠ 2 ∧ k ≠ 4 ∧ k ≠ 5 ∧ k ≠ 6) : hh_R nm nh nc (hh_hI r i) k x := by
  unfold hh_R
  rw [hh_kd_h r hi]
  split <;> simp_all
theorem hh_Rt_c (_ : r < 2) (hi : i < 24) (_ : k < 7) : hh_R nm nh nc (hh_cI r i) k x := by
  unfold hh_R
  rw [hh_kd_c r hi]
  split <;> simp_all
theorem hh_Rt_g (_ : r < 2) (hi : i < 24) (hg : g < 2) (hk : k ≠ 0 ∧ k ≠ 1) : hh_R nm nh nc (hh_gI r i g) k x := by
  unfold hh_R
  rw [hh_kd_g r hi hg]
  split <;> simp_all
theorem hh_Rt_m (hi : i < 6) (hk : k ≠ 6) : hh_R nm nh nc (hh_mI i) k x := by
  unfold hh_R
  rw [hh_kd_m hi]
  split <;> simp_all
theorem hh_Rt_r (_ : r < 2) (hk : k ≠ 5 ∧ k ≠ 6) : hh_R nm nh nc (hh_rI r) k x := by
  unfold hh_R
  rw [hh_kd_r r]
  split <;> simp_all
theorem hh_Rt_l (_ : r < 2) : hh_R nm nh nc (hh_lI r) k x := by
  unfold hh_R
  rw [hh_kd_l r]
  split <;> simp_all
theorem hh_Rt_k (_ : r < 2) : hh_R nm nh nc (hh_kI r) k x := by
  unfold hh_R
  rw [hh_kd_k r]
  split <;> simp_all
theorem hh_Rt_b (hi : i < 6) : hh_R nm nh nc (hh_bI i) k x := by
  unfold hh_R
  rw [hh_kd_b hi]
  split <;> simp_all
theorem hh_Rt_sU : hh_R nm nh nc 5 k x := by
  unfold hh_R
  split <;> simp_all [hh_kd]
theorem hh_Rt_sD : hh_R nm nh nc 6 k x := by
  unfold hh_R
  split <;> simp_all [hh_kd]
theorem hh_Rt_sN : hh_R nm nh nc 7 k x := by
  unfold hh_R
  split <;> simp_all [hh_kd]
theorem hh_R_h1 (_ : r < 2) (hi : i < 8) (h : 0 ≤ x ∧ x ≤ 99) : hh_R nm nh nc (hh_hI r i) 1 x := by unfold hh_R; rw [hh_kd_h r hi]; exact h
theorem hh_R_h2 (_ : r < 2) (hi : i < 8) (h : -3 ≤ x ∧ x ≤ 3) : hh_R nm nh nc (hh_hI r i) 2 x := by unfold hh_R; rw [hh_kd_h r hi]; exact h
theorem hh_R_h4 (_ : r < 2) (hi : i < 8) (h : x = 0 ∨ x = 1) : hh_R nm nh nc (hh_hI r i) 4 x := by unfold hh_R; rw [hh_kd_h r hi]; exact h
theorem hh_R_h5 (_ : r < 2) (hi : i < 8) (h : -1 ≤ x ∧ x < nI nm) : hh_R nm nh nc (hh_hI r i) 5 x := by unfold hh_R; rw [hh_kd_h r hi]; exact h
theorem hh_R_h6 (_ : r < 2) (hi : i < 8) (h : -1 ≤ x ∧ x < nI 24) : hh_R nm nh nc (hh_hI r i) 6 x := by unfold hh_R; rw [hh_kd_h r hi]; exact h
theorem hh_R_g0 (_ : r < 2) (hi : i < 24) (hg : g < 2) (h : -1 ≤ x ∧ x < nI 8) : hh_R nm nh nc (hh_gI r i g) 0 x := by unfold hh_R; rw [hh_kd_g r hi hg]; exact h
theorem hh_R_g1 (_ : r < 2) (hi : i < 24) (hg : g < 2) (h : -1 ≤ x ∧ x < nI nm) : hh_R nm nh nc (hh_gI r i g) 1 x := by unfold hh_R; rw [hh_kd_g r hi hg]; exact h
theorem hh_R_m6 (hi : i < 6) (h : x = 0 ∨ x = 1) : hh_R nm nh nc (hh_mI i) 6 x := by unfold hh_R; rw [hh_kd_m hi]; exact h
end HHQ
theorem hh_rg {i n : Nat} (h : i < n) (hn : n < 2 ^ 30) : -1 ≤ nI i ∧ nI i < nI n := by
  refine ⟨Int32.le_iff_toInt_le.mpr ?_, nI_lt h (by omega)⟩
  rw [nI_toInt (by omega), show (-1 : Int32).toInt = -1 from rfl]
  omega
theorem hh_rg0 {n : Nat} (hn : n < 2 ^ 30) : (-1 : Int32) ≤ -1 ∧ (-1 : Int32) < nI n := by
  refine ⟨Int32.le_iff_toInt_le.mpr (by decide), Int32.lt_iff_toInt_lt.mpr ?_⟩
  rw [nI_toInt (by omega), show (-1 : Int32).toInt = -1 from rfl]
  omega
theorem hh_upk {v : hh_M} {j k k' : Nat} {x : Int32} (h : k' ≠ k) : hh_up v j k x j k' = v j k' := by simp [hh_up, h]
theorem hh_upj {v : hh_M} {j j' k k' : Nat} {x : Int32} (h : j' ≠ j) : hh_up v j k x j' k' = v j' k' := by simp [hh_up, h]
theorem hh_ups {v : hh_M} {j k : Nat} {x : Int32} : hh_up v j k x j k = x := by simp [hh_up]
/-- sums of small numbers -/
theorem hh_add {x y : Int32} (h : -1000000000 ≤ x.toInt + y.toInt ∧ x.toInt + y.toInt ≤ 1000000000) : (x + y).toInt = x.toInt + y.toInt := by
  rw [Int32.toInt_add]
  exact Int.bmod_eq_of_le (by omega) (by omega)
theorem hh_sub {x y : Int32} (h : -1000000000 ≤ x.toInt - y.toInt ∧ x.toInt - y.toInt ≤ 1000000000) : (x - y).toInt = x.toInt - y.toInt := by
  rw [Int32.toInt_sub]
  exact Int.bmod_eq_of_le (by omega) (by omega)
theorem hh_neg {x : Int32} (h : -1000000000 ≤ x.toInt ∧ x.toInt ≤ 1000000000) : (-x).toInt = -x.toInt := by
  rw [Int32.toInt_neg]
  exact Int.bmod_eq_of_le (by omega) (by omega)

theorem hh_uu {v : hh_M} {j k : Nat} {x y : Int32} : hh_up (hh_up v j k x) j k y = hh_up v j k y := by
  funext a b
  simp only [hh_up]
  split <;> rfl
def hh_fu (f : Nat → Nat) (r n : Nat) : Nat → Nat := fun q => if q = r then n else f q
theorem hh_fu_s {f : Nat → Nat} {r n : Nat} : hh_fu f r n r = n := by simp [hh_fu]
theorem hh_fu_n {f : Nat → Nat} {r n q : Nat} (h : q ≠ r) : hh_fu f r n q = f q := by simp [hh_fu, h]
theorem hh_fu_i {f : Nat → Nat} {r : Nat} : hh_fu f r (f r) = f := by funext q; simp only [hh_fu]; split <;> simp_all
section HHU
variable {nm : Nat} {nh nc : Nat → Nat} {v : hh_M}
/-- of a road the numbers of handsets or calls change -/
theorem hh_T_nh (hT : hh_T nm nh nc v) {r n : Nat} {x : Int32} (hr : r < 2) (hn : n ≤ 8) (hx : x = nI n) : hh_T nm (hh_fu nh r n) nc (hh_up v (hh_rI r) 5 x) := by
  refine ⟨hT.1, fun q => ?_, hT.2.2.1, fun a b => ?_⟩
  · unfold hh_fu; split; exact hn; exact hT.2.1 q
  · by_cases e : a = hh_rI r ∧ b = 5
    · obtain ⟨rfl, rfl⟩ := e
      rw [hh_ups]
      unfold hh_R
      rw [hh_kd_r, hh_rd_r, hh_fu_s]
      exact hx
    · have h := hT.2.2.2 a b
      have e2 : hh_up v (hh_rI r) 5 x a b = v a b := by unfold hh_up; rw [if_neg e]
      rw [e2]
      unfold hh_R at h ⊢
      split at h
      all_goals try exact h
      rename_i h1 
      have : hh_rd a ≠ r := by
        intro e3
        refine e ⟨?_, rfl⟩
        unfold hh_kd at h1
        unfold hh_rd at e3
        unfold hh_rI
        split at h1
        · split at h1 <;> (try split at h1) <;> omega
        · split at h1 <;> (try split at h1) <;> (try split at h1) <;> omega
      rw [hh_fu_n this]
      exact h
theorem hh_T_nc (hT : hh_T nm nh nc v) {r n : Nat} {x : Int32} (hr : r < 2) (hn : n ≤ 24) (hx : x = nI n) : hh_T nm nh (hh_fu nc r n) (hh_up v (hh_rI r) 6 x) := by
  refine ⟨hT.1, hT.2.1, fun q => ?_, fun a b => ?_⟩
  · unfold hh_fu; split; exact hn; exact hT.2.2.1 q
  · by_cases e : a = hh_rI r ∧ b = 6
    · obtain ⟨rfl, rfl⟩ := e
      rw [hh_ups]
      unfold hh_R
      rw [hh_kd_r, hh_rd_r, hh_fu_s]
      exact hx
    · have h := hT.2.2.2 a b
      have e2 : hh_up v (hh_rI r) 6 x a b = v a b := by unfold hh_up; rw [if_neg e]
      rw [e2]
      unfold hh_R at h ⊢
      split at h
      all_goals try exact h
      rename_i h1
      have : hh_rd a ≠ r := by
        intro e3
        refine e ⟨?_, rfl⟩
        unfold hh_kd at h1
        unfold hh_rd at e3
        unfold hh_rI
        split at h1
        · split at h1 <;> (try split at h1) <;> omega
        · split at h1 <;> (try split at h1) <;> (try split at h1) <;> omega
      rw [hh_fu_n this]
      exact h
/-- a mast more -/
theorem hh_T_nm (hT : hh_T nm nh nc v) {n : Nat} {x : Int32} (hn : n ≤ 6) (hm : nm ≤ n) (hx : x = nI n) : hh_T n nh nc (hh_up v 1 2 x) := by
  refine ⟨hn, hT.2.1, hT.2.2.1, fun a b => ?_⟩
  by_cases e : a = 1 ∧ b = 2
  · obtain ⟨rfl, rfl⟩ := e
    rw [hh_ups]
    exact hx
  · have h := hT.2.2.2 a b
    have e2 : hh_up v 1 2 x a b = v a b := by unfold hh_up; rw [if_neg e]
    rw [e2]
    have hlt : ∀ y : Int32, y < nI nm → y < nI n := fun y hy => by
      rw [Int32.lt_iff_toInt_lt] at hy ⊢
      have h6 := hT.1
      rw [nI_toInt (by omega)] at hy ⊢
      omega
    unfold hh_R at h ⊢
    split at h
    all_goals first | exact h | exact ⟨h.1, hlt _ h.2⟩ | skip
    rename_i h1
    exfalso
    refine e ⟨?_, rfl⟩
    unfold hh_kd at h1
    split at h1
    · split at h1 <;> (try split at h1) <;> omega
    · split at h1 <;> (try split at h1) <;> (try split at h1) <;> omega
end HHU
theorem hh_upx {v : hh_M} {j j' k k' : Nat} {x : Int32} (h : k' ≠ k) : hh_up v j k x j' k' = v j' k' := by simp [hh_up, h]
theorem hh_ne_hr {r q i : Nat} (hr : r < 2) (hq : q < 2) (h : i < 8) : hh_hI r i ≠ hh_rI q := by unfold hh_hI hh_rI; rcases (show r = 0 ∨ r = 1 by omega) with rfl | rfl <;> rcases (show q = 0 ∨ q = 1 by omega) with rfl | rfl <;> omega
theorem hh_ne_hl {r q i : Nat} (hr : r < 2) (hq : q < 2) (h : i < 8) : hh_hI r i ≠ hh_lI q := by unfold hh_hI hh_lI; rcases (show r = 0 ∨ r = 1 by omega) with rfl | rfl <;> rcases (show q = 0 ∨ q = 1 by omega) with rfl | rfl <;> omega
theorem hh_ne_gl {r q i g : Nat} (hr : r < 2) (hq : q < 2) (h : i < 24) (hg : g < 2) : hh_gI r i g ≠ hh_lI q := by unfold hh_gI hh_lI; rcases (show r = 0 ∨ r = 1 by omega) with rfl | rfl <;> rcases (show q = 0 ∨ q = 1 by omega) with rfl | rfl <;> omega
theorem hh_ne_gc {r q i g c : Nat} (hr : r < 2) (hq : q < 2) (h : i < 24) (hg : g < 2) (hc : c < 24) : hh_gI r i g ≠ hh_cI q c := by unfold hh_gI hh_cI; rcases (show r = 0 ∨ r = 1 by omega) with rfl | rfl <;> rcases (show q = 0 ∨ q = 1 by omega) with rfl | rfl <;> omega
theorem hh_ne_hg {r q i h g : Nat} (hr : r < 2) (hq : q < 2) (hi : i < 8) (hh : h < 24) (hg : g < 2) : hh_hI r i ≠ hh_gI q h g := by unfold hh_hI hh_gI; rcases (show r = 0 ∨ r = 1 by omega) with rfl | rfl <;> rcases (show q = 0 ∨ q = 1 by omega) with rfl | rfl <;> omega
theorem hh_of_in {x : Int32} {n : Nat} (h : vp_in x n) (hn : n < 2 ^ 31) : -1 ≤ x ∧ x < nI n := by
  rw [vp_in_iff] at h
  rw [Int32.le_iff_toInt_le, Int32.lt_iff_toInt_lt, nI_toInt hn, show (-1 : Int32).toInt = -1 from rfl]
  omega
def hh_let {α β : Type} (a : α) (f : α → β) : β := f a
theorem hh_let_eq {α β : Type} {a q : α} {f : α → β} (h : q = a) : hh_let a f = f q := by rw [h]; rfl
theorem hh_nat {x : Int32} (h : 0 ≤ x) : x = nI x.toNatClampNeg := by
  obtain ⟨j, hj, rfl⟩ := nI_of (Int32.not_lt.mpr h)
  rw [nI_clamp hj]
theorem hh_nat_le {x : Int32} {n : Nat} (h0 : 0 ≤ x) (h : x ≤ nI n) (hn : n < 2 ^ 31) : x.toNatClampNeg ≤ n := by
  obtain ⟨j, hj, rfl⟩ := nI_of (Int32.not_lt.mpr h0)
  rw [nI_clamp hj]
  exact (nI_leI hj hn).mp h
end
section
/-! 10.leaves: laid by program (wip/gen/mk10.py) -/
def hf_X1_isIdle (v : hh_M) (r : Nat) (i : Nat) : Int32 := (if (v (hh_hI r i) 4) = 0 then 0 else (if (v (hh_hI r i) 6) = (-1) then 1 else 0))
set_option maxHeartbeats 4000000 in
set_option maxRecDepth 100000 in
theorem hk_X1_isIdle (l : Launch) (D : va_G) (K : Nat → ClassId) (ad : Nat → Nat) {nm : Nat} {nh nc : Nat → Nat} {v : hh_M} (hT : hh_T nm nh nc v) (r : Nat) (i : Nat) (hr : r < 2) (hi : i < 8) : hh_Ki l D K ad yX1_isIdle (hh_wm yX1_isIdle cX1_isIdle 1 (some .boolean)) { frames := 0, cells := 0, slots := 0, locals := 0 } [.ref (ad (hh_hI r i))] v (fun (q : Int32) (v1 : hh_M) => q = hf_X1_isIdle v r i ∧ v1 = v) := by
  refine hh_Ki_of (by decide) (Nat.le_of_ble_eq_true rfl) ?_
  intro p e s m args below meth c ls A C0 hp hl
  obtain ⟨hx, hb, hr9, hml, hown, hts, hK, hlk, hA⟩ := id C0
  have hnm := hT.1
  have hnh := hT.2.1
  have hnc := hT.2.2.1
  have hbHr := hnh r
  have hbCr := hnc r
  have hl : lv_has ls 1 [(0, .ref (ad (hh_hI r i)))] := hl
  refine lv_aload_n hx hb dX1_isIdle_0 rfl (lv_at hl 0 rfl) ?_
  refine hh_get C0 hp (C := RX1) (T := TX1) (N := 13) (ci := 1) (hh_b_h hr hi) (hh_E_h r hi) rfl hh_uX1 4 (by decide) hm_39 rfl rfl dX1_isIdle_1 ?_
  refine lv_if_eq (tgt := 19) hx hb dX1_isIdle_4 (by decide) (fun c_4 => ?_) (fun c_4 => ?_)
  · refine lv_iconst (v := 0) hx hb dX1_isIdle_19 (by decide) ?_
    exact hh_zret C0 hp dX1_isIdle_20 (Or.inl rfl) ⟨(by unfold hf_X1_isIdle; rw [if_pos c_4]), rfl⟩
  · refine lv_aload_n hx hb dX1_isIdle_7 rfl (lv_at hl 0 rfl) ?_
    refine hh_get C0 hp (C := RX1) (T := TX1) (N := 13) (ci := 1) (hh_b_h hr hi) (hh_E_h r hi) rfl hh_uX1 6 (by decide) hm_35 rfl rfl dX1_isIdle_8 ?_
    refine lv_iconst (v := (-1)) hx hb dX1_isIdle_11 (by decide) ?_
    refine lv_icmp_ne (tgt := 19) hx hb dX1_isIdle_12 (by decide) (fun c_12 => ?_) (fun c_12 => ?_)
    · refine lv_iconst (v := 0) hx hb dX1_isIdle_19 (by decide) ?_
      exact hh_zret C0 hp dX1_isIdle_20 (Or.inl rfl) ⟨(by unfold hf_X1_isIdle; rw [if_neg c_4, if_neg c_12]), rfl⟩
    · refine lv_iconst (v := 1) hx hb dX1_isIdle_15 (by decide) ?_
      refine lv_goto (tgt := 20) hx hb dX1_isIdle_16 (by decide) ?_
      exact hh_zret C0 hp dX1_isIdle_20 (Or.inr rfl) ⟨(by unfold hf_X1_isIdle; rw [if_neg c_4, if_pos c_12]), rfl⟩
def hf_X1_fact (v : hh_M) (r : Nat) (i : Nat) (what : Int32) : Int32 := (if what = 0 then (v (hh_hI r i) 1) else (if what = 1 then (v (hh_hI r i) 2) else (if what = 2 then (if (v (hh_hI r i) 4) = 0 then 0 else 1) else (if what = 3 then (v (hh_hI r i) 5) else (if what = 4 then (v (hh_hI r i) 3) else (if what = 5 then (v (hh_hI r i) 7) else (if what = 6 then (v (hh_hI r i) 8) else (if what = 7 then (v (hh_hI r i) 6) else (if what = 8 then (v (hh_hI r i) 10) else (if what = 9 then (v (hh_hI r i) 11) else (v (hh_hI r i) 12)))))))))))
set_option maxHeartbeats 4000000 in
set_option maxRecDepth 100000 in
theorem hk_X1_fact (l : Launch) (D : va_G) (K : Nat → ClassId) (ad : Nat → Nat) {nm : Nat} {nh nc : Nat → Nat} {v : hh_M} (hT : hh_T nm nh nc v) (r : Nat) (i : Nat) (what : Int32) (hr : r < 2) (hi : i < 8) : hh_Ki l D K ad yX1_fact (hh_wm yX1_fact cX1_fact 2 (some .int)) { frames := 0, cells := 0, slots := 0, locals := 0 } [.ref (ad (hh_hI r i)), .int what] v (fun (q : Int32) (v1 : hh_M) => q = hf_X1_fact v r i what ∧ v1 = v) := by
  refine hh_Ki_of (by decide) (Nat.le_of_ble_eq_true rfl) ?_
  intro p e s m args below meth c ls A C0 hp hl
  obtain ⟨hx, hb, hr9, hml, hown, hts, hK, hlk, hA⟩ := id C0
  have hnm := hT.1
  have hnh := hT.2.1
  have hnc := hT.2.2.1
  have hbHr := hnh r
  have hbCr := hnc r
  have hl : lv_has ls 2 [(0, .ref (ad (hh_hI r i))), (1, .int what)] := hl
  refine lv_iload_n hx hb dX1_fact_0 rfl (lv_at hl 1 rfl) ?_
  by_cases c_1_0 : what = 0
  · refine lv_tableIn (off := 55) (tgt := 56) hx hb dX1_fact_1 (by rw [c_1_0]; decide) (by rw [c_1_0]; decide) (by rw [c_1_0]; rfl) (by decide) ?_
    refine lv_aload_n hx hb dX1_fact_56 rfl (lv_at hl 0 rfl) ?_
    refine hh_get C0 hp (C := RX1) (T := TX1) (N := 13) (ci := 1) (hh_b_h hr hi) (hh_E_h r hi) rfl hh_uX1 1 (by decide) hm_41 rfl rfl dX1_fact_57 ?_
    exact hh_iret C0 hp dX1_fact_60 ⟨(by unfold hf_X1_fact; rw [if_pos c_1_0]), rfl⟩
  by_cases c_1_1 : what = 1
  · refine lv_tableIn (off := 60) (tgt := 61) hx hb dX1_fact_1 (by rw [c_1_1]; decide) (by rw [c_1_1]; decide) (by rw [c_1_1]; rfl) (by decide) ?_
    refine lv_aload_n hx hb dX1_fact_61 rfl (lv_at hl 0 rfl) ?_
    refine hh_get C0 hp (C := RX1) (T := TX1) (N := 13) (ci := 1) (hh_b_h hr hi) (hh_E_h r hi) rfl hh_uX1 2 (by decide) hm_42 rfl rfl dX1_fact_62 ?_
    exact hh_iret C0 hp dX1_fact_65 ⟨(by unfold hf_X1_fact; rw [if_neg c_1_0, if_pos c_1_1]), rfl⟩
  by_cases c_1_2 : what = 2
  · refine lv_tableIn (off := 65) (tgt := 66) hx hb dX1_fact_1 (by rw [c_1_2]; decide) (by rw [c_1_2]; decide) (by rw [c_1_2]; rfl) (by decide) ?_
    refine lv_aload_n hx hb dX1_fact_66 rfl (lv_at hl 0 rfl) ?_
    refine hh_get C0 hp (C := RX1) (T := TX1) (N := 13) (ci := 1) (hh_b_h hr hi) (hh_E_h r hi) rfl hh_uX1 4 (by decide) hm_39 rfl rfl dX1_fact_67 ?_
    refine lv_if_eq (tgt := 77) hx hb dX1_fact_70 (by decide) (fun c_70 => ?_) (fun c_70 => ?_)
    · refine lv_iconst (v := 0) hx hb dX1_fact_77 (by decide) ?_
      exact hh_iret C0 hp dX1_fact_78 ⟨(by unfold hf_X1_fact; rw [if_neg c_1_0, if_neg c_1_1, if_pos c_1_2, if_pos c_70]), rfl⟩
    · refine lv_iconst (v := 1) hx hb dX1_fact_73 (by decide) ?_
      refine lv_goto (tgt := 78) hx hb dX1_fact_74 (by decide) ?_
      exact hh_iret C0 hp dX1_fact_78 ⟨(by unfold hf_X1_fact; rw [if_neg c_1_0, if_neg c_1_1, if_pos c_1_2, if_neg c_70]), rfl⟩
  by_cases c_1_3 : what = 3
  · refine lv_tableIn (off := 78) (tgt := 79) hx hb dX1_fact_1 (by rw [c_1_3]; decide) (by rw [c_1_3]; decide) (by rw [c_1_3]; rfl) (by decide) ?_
    refine lv_aload_n hx hb dX1_fact_79 rfl (lv_at hl 0 rfl) ?_
    refine hh_get C0 hp (C := RX1) (T := TX1) (N := 13) (ci := 1) (hh_b_h hr hi) (hh_E_h r hi) rfl hh_uX1 5 (by decide) hm_34 rfl rfl dX1_fact_80 ?_
    exact hh_iret C0 hp dX1_fact_83 ⟨(by unfold hf_X1_fact; rw [if_neg c_1_0, if_neg c_1_1, if_neg c_1_2, if_pos c_1_3]), rfl⟩
  by_cases c_1_4 : what = 4
  · refine lv_tableIn (off := 83) (tgt := 84) hx hb dX1_fact_1 (by rw [c_1_4]; decide) (by rw [c_1_4]; decide) (by rw [c_1_4]; rfl) (by decide) ?_
    refine lv_aload_n hx hb dX1_fact_84 rfl (lv_at hl 0 rfl) ?_
    refine hh_get C0 hp (C := RX1) (T := TX1) (N := 13) (ci := 1) (hh_b_h hr hi) (hh_E_h r hi) rfl hh_uX1 3 (by decide) hm_48 rfl rfl dX1_fact_85 ?_
    exact hh_iret C0 hp dX1_fact_88 ⟨(by unfold hf_X1_fact; rw [if_neg c_1_0, if_neg c_1_1, if_neg c_1_2, if_neg c_1_3, if_pos c_1_4]), rfl⟩
  by_cases c_1_5 : what = 5
  · refine lv_tableIn (off := 88) (tgt := 89) hx hb dX1_fact_1 (by rw [c_1_5]; decide) (by rw [c_1_5]; decide) (by rw [c_1_5]; rfl) (by decide) ?_
    refine lv_aload_n hx hb dX1_fact_89 rfl (lv_at hl 0 rfl) ?_
    refine hh_get C0 hp (C := RX1) (T := TX1) (N := 13) (ci := 1) (hh_b_h hr hi) (hh_E_h r hi) rfl hh_uX1 7 (by decide) hm_36 rfl rfl dX1_fact_90 ?_
    exact hh_iret C0 hp dX1_fact_93 ⟨(by unfold hf_X1_fact; rw [if_neg c_1_0, if_neg c_1_1, if_neg c_1_2, if_neg c_1_3, if_neg c_1_4, if_pos c_1_5]), rfl⟩
  by_cases c_1_6 : what = 6
  · refine lv_tableIn (off := 93) (tgt := 94) hx hb dX1_fact_1 (by rw [c_1_6]; decide) (by rw [c_1_6]; decide) (by rw [c_1_6]; rfl) (by decide) ?_
    refine lv_aload_n hx hb dX1_fact_94 rfl (lv_at hl 0 rfl) ?_
    refine hh_get C0 hp (C := RX1) (T := TX1) (N := 13) (ci := 1) (hh_b_h hr hi) (hh_E_h r hi) rfl hh_uX1 8 (by decide) hm_37 rfl rfl dX1_fact_95 ?_
    exact hh_iret C0 hp dX1_fact_98 ⟨(by unfold hf_X1_fact; rw [if_neg c_1_0, if_neg c_1_1, if_neg c_1_2, if_neg c_1_3, if_neg c_1_4, if_neg c_1_5, if_pos c_1_6]), rfl⟩
  by_cases c_1_7 : what = 7
  · refine lv_tableIn (off := 98) (tgt := 99) hx hb dX1_fact_1 (by rw [c_1_7]; decide) (by rw [c_1_7]; decide) (by rw [c_1_7]; rfl) (by decide) ?_
    refine lv_aload_n hx hb dX1_fact_99 rfl (lv_at hl 0 rfl) ?_
    refine hh_get C0 hp (C := RX1) (T := TX1) (N := 13) (ci := 1) (hh_b_h hr hi) (hh_E_h r hi) rfl hh_uX1 6 (by decide) hm_35 rfl rfl dX1_fact_100 ?_
    exact hh_iret C0 hp dX1_fact_103 ⟨(by unfold hf_X1_fact; rw [if_neg c_1_0, if_neg c_1_1, if_neg c_1_2, if_neg c_1_3, if_neg c_1_4, if_neg c_1_5, if_neg c_1_6, if_pos c_1_7]), rfl⟩
  by_cases c_1_8 : what = 8
  · refine lv_tableIn (off := 103) (tgt := 104) hx hb dX1_fact_1 (by rw [c_1_8]; decide) (by rw [c_1_8]; decide) (by rw [c_1_8]; rfl) (by decide) ?_
    refine lv_aload_n hx hb dX1_fact_104 rfl (lv_at hl 0 rfl) ?_
    refine hh_get C0 hp (C := RX1) (T := TX1) (N := 13) (ci := 1) (hh_b_h hr hi) (hh_E_h r hi) rfl hh_uX1 10 (by decide) hm_45 rfl rfl dX1_fact_105 ?_
    exact hh_iret C0 hp dX1_fact_108 ⟨(by unfold hf_X1_fact; rw [if_neg c_1_0, if_neg c_1_1, if_neg c_1_2, if_neg c_1_3, if_neg c_1_4, if_neg c_1_5, if_neg c_1_6, if_neg c_1_7, if_pos c_1_8]), rfl⟩
  by_cases c_1_9 : what = 9
  · refine lv_tableIn (off := 108) (tgt := 109) hx hb dX1_fact_1 (by rw [c_1_9]; decide) (by rw [c_1_9]; decide) (by rw [c_1_9]; rfl) (by decide) ?_
    refine lv_aload_n hx hb dX1_fact_109 rfl (lv_at hl 0 rfl) ?_
    refine hh_get C0 hp (C := RX1) (T := TX1) (N := 13) (ci := 1) (hh_b_h hr hi) (hh_E_h r hi) rfl hh_uX1 11 (by decide) hm_49 rfl rfl dX1_fact_110 ?_
    exact hh_iret C0 hp dX1_fact_113 ⟨(by unfold hf_X1_fact; rw [if_neg c_1_0, if_neg c_1_1, if_neg c_1_2, if_neg c_1_3, if_neg c_1_4, if_neg c_1_5, if_neg c_1_6, if_neg c_1_7, if_neg c_1_8, if_pos c_1_9]), rfl⟩
  refine lv_tableOut (tgt := 114) hx hb dX1_fact_1 (hh_sw (n := 10) (fun k hk => (match k, hk with | 0, _ => c_1_0 | 1, _ => c_1_1 | 2, _ => c_1_2 | 3, _ => c_1_3 | 4, _ => c_1_4 | 5, _ => c_1_5 | 6, _ => c_1_6 | 7, _ => c_1_7 | 8, _ => c_1_8 | 9, _ => c_1_9 | k + 10, hk => absurd hk (by omega))) (by decide)) (by decide) ?_
  refine lv_aload_n hx hb dX1_fact_114 rfl (lv_at hl 0 rfl) ?_
  refine hh_get C0 hp (C := RX1) (T := TX1) (N := 13) (ci := 1) (hh_b_h hr hi) (hh_E_h r hi) rfl hh_uX1 12 (by decide) hm_50 rfl rfl dX1_fact_115 ?_
  exact hh_iret C0 hp dX1_fact_118 ⟨(by unfold hf_X1_fact; rw [if_neg c_1_0, if_neg c_1_1, if_neg c_1_2, if_neg c_1_3, if_neg c_1_4, if_neg c_1_5, if_neg c_1_6, if_neg c_1_7, if_neg c_1_8, if_neg c_1_9]), rfl⟩
def hf_X2_isUsed (v : hh_M) (r : Nat) (i : Nat) (g : Nat) : Int32 := (if (v (hh_gI r i g) 0) = (-1) then 0 else (if (v (hh_gI r i g) 1) = (-1) then 0 else 1))
set_option maxHeartbeats 4000000 in
set_option maxRecDepth 100000 in
theorem hk_X2_isUsed (l : Launch) (D : va_G) (K : Nat → ClassId) (ad : Nat → Nat) {nm : Nat} {nh nc : Nat → Nat} {v : hh_M} (hT : hh_T nm nh nc v) (r : Nat) (i : Nat) (g : Nat) (hr : r < 2) (hi : i < 24) (hg : g < 2) : hh_Ki l D K ad yX2_isUsed (hh_wm yX2_isUsed cX2_isUsed 1 (some .boolean)) { frames := 0, cells := 0, slots := 0, locals := 0 } [.ref (ad (hh_gI r i g))] v (fun (q : Int32) (v1 : hh_M) => q = hf_X2_isUsed v r i g ∧ v1 = v ∧ (q = 0 ∨ (¬ v (hh_gI r i g) 0 = -1 ∧ ¬ v (hh_gI r i g) 1 = -1))) := by
  refine hh_Ki_of (by decide) (Nat.le_of_ble_eq_true rfl) ?_
  intro p e s m args below meth c ls A C0 hp hl
  obtain ⟨hx, hb, hr9, hml, hown, hts, hK, hlk, hA⟩ := id C0
  have hnm := hT.1
  have hnh := hT.2.1
  have hnc := hT.2.2.1
  have hbHr := hnh r
  have hbCr := hnc r
  have hl : lv_has ls 1 [(0, .ref (ad (hh_gI r i g)))] := hl
  refine lv_aload_n hx hb dX2_isUsed_0 rfl (lv_at hl 0 rfl) ?_
  refine hh_get C0 hp (C := RX2) (T := TX2) (N := 6) (ci := 2) (hh_b_g hr hi hg) (hh_E_g r hi hg) rfl hh_uX2 0 (by decide) hm_13 rfl rfl dX2_isUsed_1 ?_
  refine lv_iconst (v := (-1)) hx hb dX2_isUsed_4 (by decide) ?_
  refine lv_icmp_eq (tgt := 20) hx hb dX2_isUsed_5 (by decide) (fun c_5 => ?_) (fun c_5 => ?_)
  · refine lv_iconst (v := 0) hx hb dX2_isUsed_20 (by decide) ?_
    exact hh_zret C0 hp dX2_isUsed_21 (Or.inl rfl) ⟨(by unfold hf_X2_isUsed; rw [if_pos c_5]), rfl, (by first | exact Or.inl rfl | exact Or.inr ⟨by assumption, by assumption⟩)⟩
  · refine lv_aload_n hx hb dX2_isUsed_8 rfl (lv_at hl 0 rfl) ?_
    refine hh_get C0 hp (C := RX2) (T := TX2) (N := 6) (ci := 2) (hh_b_g hr hi hg) (hh_E_g r hi hg) rfl hh_uX2 1 (by decide) hm_14 rfl rfl dX2_isUsed_9 ?_
    refine lv_iconst (v := (-1)) hx hb dX2_isUsed_12 (by decide) ?_
    refine lv_icmp_eq (tgt := 20) hx hb dX2_isUsed_13 (by decide) (fun c_13 => ?_) (fun c_13 => ?_)
    · refine lv_iconst (v := 0) hx hb dX2_isUsed_20 (by decide) ?_
      exact hh_zret C0 hp dX2_isUsed_21 (Or.inl rfl) ⟨(by unfold hf_X2_isUsed; rw [if_neg c_5, if_pos c_13]), rfl, (by first | exact Or.inl rfl | exact Or.inr ⟨by assumption, by assumption⟩)⟩
    · refine lv_iconst (v := 1) hx hb dX2_isUsed_16 (by decide) ?_
      refine lv_goto (tgt := 21) hx hb dX2_isUsed_17 (by decide) ?_
      exact hh_zret C0 hp dX2_isUsed_21 (Or.inr rfl) ⟨(by unfold hf_X2_isUsed; rw [if_neg c_5, if_neg c_13]), rfl, (by first | exact Or.inl rfl | exact Or.inr ⟨by assumption, by assumption⟩)⟩
def hf_X3_distanceTo (v : hh_M) (i : Nat) (from_ : Int32) : Int32 := (if from_ ≤ (v (hh_mI i) 0) then ((v (hh_mI i) 0) - from_) else (from_ - (v (hh_mI i) 0)))
set_option maxHeartbeats 4000000 in
set_option maxRecDepth 100000 in
theorem hk_X3_distanceTo (l : Launch) (D : va_G) (K : Nat → ClassId) (ad : Nat → Nat) {nm : Nat} {nh nc : Nat → Nat} {v : hh_M} (hT : hh_T nm nh nc v) (i : Nat) (from_ : Int32) (hi : i < 6) : hh_Ki l D K ad yX3_distanceTo (hh_wm yX3_distanceTo cX3_distanceTo 2 (some .int)) { frames := 0, cells := 0, slots := 0, locals := 0 } [.ref (ad (hh_mI i)), .int from_] v (fun (q : Int32) (v1 : hh_M) => q = hf_X3_distanceTo v i from_ ∧ v1 = v) := by
  refine hh_Ki_of (by decide) (Nat.le_of_ble_eq_true rfl) ?_
  intro p e s m args below meth c ls A C0 hp hl
  obtain ⟨hx, hb, hr9, hml, hown, hts, hK, hlk, hA⟩ := id C0
  have hnm := hT.1
  have hnh := hT.2.1
  have hnc := hT.2.2.1
  have hl : lv_has ls 2 [(0, .ref (ad (hh_mI i))), (1, .int from_)] := hl
  refine lv_aload_n hx hb dX3_distanceTo_0 rfl (lv_at hl 0 rfl) ?_
  refine hh_get C0 hp (C := RX3) (T := TX3) (N := 7) (ci := 3) (hh_b_m hi) (hh_E_m hi) rfl hh_uX3 0 (by decide) hm_56 rfl rfl dX3_distanceTo_1 ?_
  refine lv_iload_n hx hb dX3_distanceTo_4 rfl (lv_at hl 1 rfl) ?_
  refine lv_icmp_ge (tgt := 17) hx hb dX3_distanceTo_5 (by decide) (fun c_5 => ?_) (fun c_5 => ?_)
  · refine lv_aload_n hx hb dX3_distanceTo_17 rfl (lv_at hl 0 rfl) ?_
    refine hh_get C0 hp (C := RX3) (T := TX3) (N := 7) (ci := 3) (hh_b_m hi) (hh_E_m hi) rfl hh_uX3 0 (by decide) hm_56 rfl rfl dX3_distanceTo_18 ?_
    refine lv_iload_n hx hb dX3_distanceTo_21 rfl (lv_at hl 1 rfl) ?_
    refine lv_isub hx hb dX3_distanceTo_22 ?_
    exact hh_iret C0 hp dX3_distanceTo_23 ⟨(by unfold hf_X3_distanceTo; rw [if_pos c_5]), rfl⟩
  · refine lv_iload_n hx hb dX3_distanceTo_8 rfl (lv_at hl 1 rfl) ?_
    refine lv_aload_n hx hb dX3_distanceTo_9 rfl (lv_at hl 0 rfl) ?_
    refine hh_get C0 hp (C := RX3) (T := TX3) (N := 7) (ci := 3) (hh_b_m hi) (hh_E_m hi) rfl hh_uX3 0 (by decide) hm_56 rfl rfl dX3_distanceTo_10 ?_
    refine lv_isub hx hb dX3_distanceTo_13 ?_
    refine lv_goto (tgt := 23) hx hb dX3_distanceTo_14 (by decide) ?_
    exact hh_iret C0 hp dX3_distanceTo_23 ⟨(by unfold hf_X3_distanceTo; rw [if_neg c_5]), rfl⟩
def hf_X3_noiseAt (v : hh_M) (i : Nat) (where_ : Int32) : Int32 := (hh_let (hf_X3_distanceTo v i where_ : Int32) (fun (q_6 : Int32) => (hh_let (((v (hh_mI i) 1) - q_6) : Int32) (fun (x_10 : Int32) => (if (v (hh_mI i) 6) = 0 then 0 else (if x_10 ≤ 0 then 0 else (x_10 / 3)))))))
set_option maxHeartbeats 4000000 in
set_option maxRecDepth 100000 in
theorem hk_X3_noiseAt (l : Launch) (D : va_G) (K : Nat → ClassId) (ad : Nat → Nat) {nm : Nat} {nh nc : Nat → Nat} {v : hh_M} (hT : hh_T nm nh nc v) (i : Nat) (where_ : Int32) (hi : i < 6) : hh_Ki l D K ad yX3_noiseAt (hh_wm yX3_noiseAt cX3_noiseAt 3 (some .int)) { frames := 1, cells := 0, slots := 0, locals := 21 } [.ref (ad (hh_mI i)), .int where_] v (fun (q : Int32) (v1 : hh_M) => q = hf_X3_noiseAt v i where_ ∧ v1 = v) := by
  refine hh_Ki_of (by decide) (Nat.le_of_ble_eq_true rfl) ?_
  intro p e s m args below meth c ls A C0 hp hl
  obtain ⟨hx, hb, hr9, hml, hown, hts, hK, hlk, hA⟩ := id C0
  have hnm := hT.1
  have hnh := hT.2.1
  have hnc := hT.2.2.1
  have hl : lv_has ls 3 [(0, .ref (ad (hh_mI i))), (1, .int where_)] := hl
  refine lv_aload_n hx hb dX3_noiseAt_0 rfl (lv_at hl 0 rfl) ?_
  refine hh_get C0 hp (C := RX3) (T := TX3) (N := 7) (ci := 3) (hh_b_m hi) (hh_E_m hi) rfl hh_uX3 1 (by decide) hm_58 rfl rfl dX3_noiseAt_1 ?_
  refine lv_aload_n hx hb dX3_noiseAt_4 rfl (lv_at hl 0 rfl) ?_
  refine lv_iload_n hx hb dX3_noiseAt_5 rfl (lv_at hl 1 rfl) ?_
  refine hh_cVi C0 hp (As := [.int where_]) (rest := [.int (v (hh_mI i) 1)]) (C := RX3) (T := TX3) (N := 7) (ci := 3) (n := 1) (hk_X3_distanceTo l D K ad hT i where_ hi) rfl (hh_b_m hi) (hh_E_m hi) (hh_gV hm_60 hm_61 hm_62 hm_63 hm_55) ⟨rfl, rfl⟩ (by decide +kernel) ⟨Nat.le_of_ble_eq_true rfl, Nat.le_of_ble_eq_true rfl⟩ ⟨Nat.zero_le _, Nat.zero_le _⟩ hl.1 rfl rfl (Nat.le_of_ble_eq_true rfl) dX3_noiseAt_6 (fun q_6 v_6 H locs hv_6 hp => ?_)
  obtain ⟨eq_6, hv9⟩ := hv_6
  rw [hv9] at hp; clear hv9
  refine lv_isub hx hb dX3_noiseAt_9 ?_
  refine lv_topi (fun x_10 ex_10 => ?_)
  refine lv_istore_n (lv' := [(2, .int x_10), (0, .ref (ad (hh_mI i))), (1, .int where_)]) hx hb dX3_noiseAt_10 rfl hl (by decide) rfl (fun ls hl => ?_)
  refine lv_aload_n hx hb dX3_noiseAt_11 rfl (lv_at hl 1 rfl) ?_
  refine hh_get C0 hp (C := RX3) (T := TX3) (N := 7) (ci := 3) (hh_b_m hi) (hh_E_m hi) rfl hh_uX3 6 (by decide) hm_59 rfl rfl dX3_noiseAt_12 ?_
  refine lv_if_eq (tgt := 28) hx hb dX3_noiseAt_15 (by decide) (fun c_15 => ?_) (fun c_15 => ?_)
  · refine lv_iconst (v := 0) hx hb dX3_noiseAt_28 (by decide) ?_
    exact hh_iret C0 hp dX3_noiseAt_29 ⟨(by unfold hf_X3_noiseAt; rw [hh_let_eq eq_6, hh_let_eq ex_10, if_pos c_15]), rfl⟩
  · refine lv_iload_n hx hb dX3_noiseAt_18 rfl (lv_at hl 0 rfl) ?_
    refine lv_if_le (tgt := 28) hx hb dX3_noiseAt_19 (by decide) (fun c_19 => ?_) (fun c_19 => ?_)
    · refine lv_iconst (v := 0) hx hb dX3_noiseAt_28 (by decide) ?_
      exact hh_iret C0 hp dX3_noiseAt_29 ⟨(by unfold hf_X3_noiseAt; rw [hh_let_eq eq_6, hh_let_eq ex_10, if_neg c_15, if_pos c_19]), rfl⟩
    · refine lv_iload_n hx hb dX3_noiseAt_22 rfl (lv_at hl 0 rfl) ?_
      refine lv_iconst (v := 3) hx hb dX3_noiseAt_23 (by decide) ?_
      refine lv_idiv hx hb dX3_noiseAt_24 (by decide) ?_
      refine lv_goto (tgt := 29) hx hb dX3_noiseAt_25 (by decide) ?_
      exact hh_iret C0 hp dX3_noiseAt_29 ⟨(by unfold hf_X3_noiseAt; rw [hh_let_eq eq_6, hh_let_eq ex_10, if_neg c_15, if_neg c_19]), rfl⟩
def hf_X3_fact (v : hh_M) (i : Nat) (what : Int32) : Int32 := (if what = 0 then (v (hh_mI i) 0) else (if what = 1 then (v (hh_mI i) 1) else (if what = 2 then (v (hh_mI i) 2) else (if what = 3 then (v (hh_mI i) 3) else (if what = 4 then (v (hh_mI i) 4) else (if what = 5 then (v (hh_mI i) 5) else (if (v (hh_mI i) 6) = 0 then 0 else 1)))))))
set_option maxHeartbeats 4000000 in
set_option maxRecDepth 100000 in
theorem hk_X3_fact (l : Launch) (D : va_G) (K : Nat → ClassId) (ad : Nat → Nat) {nm : Nat} {nh nc : Nat → Nat} {v : hh_M} (hT : hh_T nm nh nc v) (i : Nat) (what : Int32) (hi : i < 6) : hh_Ki l D K ad yX3_fact (hh_wm yX3_fact cX3_fact 2 (some .int)) { frames := 0, cells := 0, slots := 0, locals := 0 } [.ref (ad (hh_mI i)), .int what] v (fun (q : Int32) (v1 : hh_M) => q = hf_X3_fact v i what ∧ v1 = v) := by
  refine hh_Ki_of (by decide) (Nat.le_of_ble_eq_true rfl) ?_
  intro p e s m args below meth c ls A C0 hp hl
  obtain ⟨hx, hb, hr9, hml, hown, hts, hK, hlk, hA⟩ := id C0
  have hnm := hT.1
  have hnh := hT.2.1
  have hnc := hT.2.2.1
  have hl : lv_has ls 2 [(0, .ref (ad (hh_mI i))), (1, .int what)] := hl
  refine lv_iload_n hx hb dX3_fact_0 rfl (lv_at hl 1 rfl) ?_
  by_cases c_1_0 : what = 0
  · refine lv_tableIn (off := 39) (tgt := 40) hx hb dX3_fact_1 (by rw [c_1_0]; decide) (by rw [c_1_0]; decide) (by rw [c_1_0]; rfl) (by decide) ?_
    refine lv_aload_n hx hb dX3_fact_40 rfl (lv_at hl 0 rfl) ?_
    refine hh_get C0 hp (C := RX3) (T := TX3) (N := 7) (ci := 3) (hh_b_m hi) (hh_E_m hi) rfl hh_uX3 0 (by decide) hm_56 rfl rfl dX3_fact_41 ?_
    exact hh_iret C0 hp dX3_fact_44 ⟨(by unfold hf_X3_fact; rw [if_pos c_1_0]), rfl⟩
  by_cases c_1_1 : what = 1
  · refine lv_tableIn (off := 44) (tgt := 45) hx hb dX3_fact_1 (by rw [c_1_1]; decide) (by rw [c_1_1]; decide) (by rw [c_1_1]; rfl) (by decide) ?_
    refine lv_aload_n hx hb dX3_fact_45 rfl (lv_at hl 0 rfl) ?_
    refine hh_get C0 hp (C := RX3) (T := TX3) (N := 7) (ci := 3) (hh_b_m hi) (hh_E_m hi) rfl hh_uX3 1 (by decide) hm_58 rfl rfl dX3_fact_46 ?_
    exact hh_iret C0 hp dX3_fact_49 ⟨(by unfold hf_X3_fact; rw [if_neg c_1_0, if_pos c_1_1]), rfl⟩
  by_cases c_1_2 : what = 2
  · refine lv_tableIn (off := 49) (tgt := 50) hx hb dX3_fact_1 (by rw [c_1_2]; decide) (by rw [c_1_2]; decide) (by rw [c_1_2]; rfl) (by decide) ?_
    refine lv_aload_n hx hb dX3_fact_50 rfl (lv_at hl 0 rfl) ?_
    refine hh_get C0 hp (C := RX3) (T := TX3) (N := 7) (ci := 3) (hh_b_m hi) (hh_E_m hi) rfl hh_uX3 2 (by decide) hm_65 rfl rfl dX3_fact_51 ?_
    exact hh_iret C0 hp dX3_fact_54 ⟨(by unfold hf_X3_fact; rw [if_neg c_1_0, if_neg c_1_1, if_pos c_1_2]), rfl⟩
  by_cases c_1_3 : what = 3
  · refine lv_tableIn (off := 54) (tgt := 55) hx hb dX3_fact_1 (by rw [c_1_3]; decide) (by rw [c_1_3]; decide) (by rw [c_1_3]; rfl) (by decide) ?_
    refine lv_aload_n hx hb dX3_fact_55 rfl (lv_at hl 0 rfl) ?_
    refine hh_get C0 hp (C := RX3) (T := TX3) (N := 7) (ci := 3) (hh_b_m hi) (hh_E_m hi) rfl hh_uX3 3 (by decide) hm_66 rfl rfl dX3_fact_56 ?_
    exact hh_iret C0 hp dX3_fact_59 ⟨(by unfold hf_X3_fact; rw [if_neg c_1_0, if_neg c_1_1, if_neg c_1_2, if_pos c_1_3]), rfl⟩
  by_cases c_1_4 : what = 4
  · refine lv_tableIn (off := 59) (tgt := 60) hx hb dX3_fact_1 (by rw [c_1_4]; decide) (by rw [c_1_4]; decide) (by rw [c_1_4]; rfl) (by decide) ?_
    refine lv_aload_n hx hb dX3_fact_60 rfl (lv_at hl 0 rfl) ?_
    refine hh_get C0 hp (C := RX3) (T := TX3) (N := 7) (ci := 3) (hh_b_m hi) (hh_E_m hi) rfl hh_uX3 4 (by decide) hm_67 rfl rfl dX3_fact_61 ?_
    exact hh_iret C0 hp dX3_fact_64 ⟨(by unfold hf_X3_fact; rw [if_neg c_1_0, if_neg c_1_1, if_neg c_1_2, if_neg c_1_3, if_pos c_1_4]), rfl⟩
  by_cases c_1_5 : what = 5
  · refine lv_tableIn (off := 64) (tgt := 65) hx hb dX3_fact_1 (by rw [c_1_5]; decide) (by rw [c_1_5]; decide) (by rw [c_1_5]; rfl) (by decide) ?_
    refine lv_aload_n hx hb dX3_fact_65 rfl (lv_at hl 0 rfl) ?_
    refine hh_get C0 hp (C := RX3) (T := TX3) (N := 7) (ci := 3) (hh_b_m hi) (hh_E_m hi) rfl hh_uX3 5 (by decide) hm_68 rfl rfl dX3_fact_66 ?_
    exact hh_iret C0 hp dX3_fact_69 ⟨(by unfold hf_X3_fact; rw [if_neg c_1_0, if_neg c_1_1, if_neg c_1_2, if_neg c_1_3, if_neg c_1_4, if_pos c_1_5]), rfl⟩
  refine lv_tableOut (tgt := 70) hx hb dX3_fact_1 (hh_sw (n := 6) (fun k hk => (match k, hk with | 0, _ => c_1_0 | 1, _ => c_1_1 | 2, _ => c_1_2 | 3, _ => c_1_3 | 4, _ => c_1_4 | 5, _ => c_1_5 | k + 6, hk => absurd hk (by omega))) (by decide)) (by decide) ?_
  refine lv_aload_n hx hb dX3_fact_70 rfl (lv_at hl 0 rfl) ?_
  refine hh_get C0 hp (C := RX3) (T := TX3) (N := 7) (ci := 3) (hh_b_m hi) (hh_E_m hi) rfl hh_uX3 6 (by decide) hm_59 rfl rfl dX3_fact_71 ?_
  refine lv_if_eq (tgt := 81) hx hb dX3_fact_74 (by decide) (fun c_74 => ?_) (fun c_74 => ?_)
  · refine lv_iconst (v := 0) hx hb dX3_fact_81 (by decide) ?_
    exact hh_iret C0 hp dX3_fact_82 ⟨(by unfold hf_X3_fact; rw [if_neg c_1_0, if_neg c_1_1, if_neg c_1_2, if_neg c_1_3, if_neg c_1_4, if_neg c_1_5, if_pos c_74]), rfl⟩
  · refine lv_iconst (v := 1) hx hb dX3_fact_77 (by decide) ?_
    refine lv_goto (tgt := 82) hx hb dX3_fact_78 (by decide) ?_
    exact hh_iret C0 hp dX3_fact_82 ⟨(by unfold hf_X3_fact; rw [if_neg c_1_0, if_neg c_1_1, if_neg c_1_2, if_neg c_1_3, if_neg c_1_4, if_neg c_1_5, if_neg c_74]), rfl⟩
def hf_X0_fact (v : hh_M) (r : Nat) (i : Nat) (what : Int32) : Int32 := (if what = 0 then (v (hh_gI r i 0) 0) else (if what = 1 then (v (hh_gI r i 1) 0) else (if what = 2 then (v (hh_cI r i) 2) else (if what = 3 then (v (hh_cI r i) 3) else (if what = 4 then (v (hh_cI r i) 4) else (if what = 5 then (v (hh_cI r i) 5) else (if what = 6 then (v (hh_cI r i) 6) else (if what = 7 then (v (hh_gI r i 0) 1) else (v (hh_gI r i 1) 1)))))))))
set_option maxHeartbeats 4000000 in
set_option maxRecDepth 100000 in
theorem hk_X0_fact (l : Launch) (D : va_G) (K : Nat → ClassId) (ad : Nat → Nat) {nm : Nat} {nh nc : Nat → Nat} {v : hh_M} (hT : hh_T nm nh nc v) (r : Nat) (i : Nat) (what : Int32) (hr : r < 2) (hi : i < 24) : hh_Ki l D K ad yX0_fact (hh_wm yX0_fact cX0_fact 2 (some .int)) { frames := 0, cells := 0, slots := 0, locals := 0 } [.ref (ad (hh_cI r i)), .int what] v (fun (q : Int32) (v1 : hh_M) => q = hf_X0_fact v r i what ∧ v1 = v) := by
  refine hh_Ki_of (by decide) (Nat.le_of_ble_eq_true rfl) ?_
  intro p e s m args below meth c ls A C0 hp hl
  obtain ⟨hx, hb, hr9, hml, hown, hts, hK, hlk, hA⟩ := id C0
  have hnm := hT.1
  have hnh := hT.2.1
  have hnc := hT.2.2.1
  have hbHr := hnh r
  have hbCr := hnc r
  have hl : lv_has ls 2 [(0, .ref (ad (hh_cI r i))), (1, .int what)] := hl
  refine lv_iload_n hx hb dX0_fact_0 rfl (lv_at hl 1 rfl) ?_
  by_cases c_1_0 : what = 0
  · refine lv_tableIn (off := 47) (tgt := 48) hx hb dX0_fact_1 (by rw [c_1_0]; decide) (by rw [c_1_0]; decide) (by rw [c_1_0]; rfl) (by decide) ?_
    refine lv_aload_n hx hb dX0_fact_48 rfl (lv_at hl 0 rfl) ?_
    refine hh_get C0 hp (C := RX0) (T := TX0) (N := 7) (ci := 0) (hh_b_c hr hi) (hh_E_c r hi) rfl hh_uX0 0 (by decide) hm_7 rfl rfl dX0_fact_49 ?_
    refine hh_get C0 hp (C := RX2) (T := TX2) (N := 6) (ci := 2) (hh_b_g hr hi (by decide : 0 < 2)) (hh_E_g r hi (by decide : 0 < 2)) rfl hh_uX2 0 (by decide) hm_31 rfl rfl dX0_fact_52 ?_
    exact hh_iret C0 hp dX0_fact_55 ⟨(by unfold hf_X0_fact; rw [if_pos c_1_0]), rfl⟩
  by_cases c_1_1 : what = 1
  · refine lv_tableIn (off := 55) (tgt := 56) hx hb dX0_fact_1 (by rw [c_1_1]; decide) (by rw [c_1_1]; decide) (by rw [c_1_1]; rfl) (by decide) ?_
    refine lv_aload_n hx hb dX0_fact_56 rfl (lv_at hl 0 rfl) ?_
    refine hh_get C0 hp (C := RX0) (T := TX0) (N := 7) (ci := 0) (hh_b_c hr hi) (hh_E_c r hi) rfl hh_uX0 1 (by decide) hm_8 rfl rfl dX0_fact_57 ?_
    refine hh_get C0 hp (C := RX2) (T := TX2) (N := 6) (ci := 2) (hh_b_g hr hi (by decide : 1 < 2)) (hh_E_g r hi (by decide : 1 < 2)) rfl hh_uX2 0 (by decide) hm_31 rfl rfl dX0_fact_60 ?_
    exact hh_iret C0 hp dX0_fact_63 ⟨(by unfold hf_X0_fact; rw [if_neg c_1_0, if_pos c_1_1]), rfl⟩
  by_cases c_1_2 : what = 2
  · refine lv_tableIn (off := 63) (tgt := 64) hx hb dX0_fact_1 (by rw [c_1_2]; decide) (by rw [c_1_2]; decide) (by rw [c_1_2]; rfl) (by decide) ?_
    refine lv_aload_n hx hb dX0_fact_64 rfl (lv_at hl 0 rfl) ?_
    refine hh_get C0 hp (C := RX0) (T := TX0) (N := 7) (ci := 0) (hh_b_c hr hi) (hh_E_c r hi) rfl hh_uX0 2 (by decide) hm_19 rfl rfl dX0_fact_65 ?_
    exact hh_iret C0 hp dX0_fact_68 ⟨(by unfold hf_X0_fact; rw [if_neg c_1_0, if_neg c_1_1, if_pos c_1_2]), rfl⟩
  by_cases c_1_3 : what = 3
  · refine lv_tableIn (off := 68) (tgt := 69) hx hb dX0_fact_1 (by rw [c_1_3]; decide) (by rw [c_1_3]; decide) (by rw [c_1_3]; rfl) (by decide) ?_
    refine lv_aload_n hx hb dX0_fact_69 rfl (lv_at hl 0 rfl) ?_
    refine hh_get C0 hp (C := RX0) (T := TX0) (N := 7) (ci := 0) (hh_b_c hr hi) (hh_E_c r hi) rfl hh_uX0 3 (by decide) hm_20 rfl rfl dX0_fact_70 ?_
    exact hh_iret C0 hp dX0_fact_73 ⟨(by unfold hf_X0_fact; rw [if_neg c_1_0, if_neg c_1_1, if_neg c_1_2, if_pos c_1_3]), rfl⟩
  by_cases c_1_4 : what = 4
  · refine lv_tableIn (off := 73) (tgt := 74) hx hb dX0_fact_1 (by rw [c_1_4]; decide) (by rw [c_1_4]; decide) (by rw [c_1_4]; rfl) (by decide) ?_
    refine lv_aload_n hx hb dX0_fact_74 rfl (lv_at hl 0 rfl) ?_
    refine hh_get C0 hp (C := RX0) (T := TX0) (N := 7) (ci := 0) (hh_b_c hr hi) (hh_E_c r hi) rfl hh_uX0 4 (by decide) hm_21 rfl rfl dX0_fact_75 ?_
    exact hh_iret C0 hp dX0_fact_78 ⟨(by unfold hf_X0_fact; rw [if_neg c_1_0, if_neg c_1_1, if_neg c_1_2, if_neg c_1_3, if_pos c_1_4]), rfl⟩
  by_cases c_1_5 : what = 5
  · refine lv_tableIn (off := 78) (tgt := 79) hx hb dX0_fact_1 (by rw [c_1_5]; decide) (by rw [c_1_5]; decide) (by rw [c_1_5]; rfl) (by decide) ?_
    refine lv_aload_n hx hb dX0_fact_79 rfl (lv_at hl 0 rfl) ?_
    refine hh_get C0 hp (C := RX0) (T := TX0) (N := 7) (ci := 0) (hh_b_c hr hi) (hh_E_c r hi) rfl hh_uX0 5 (by decide) hm_22 rfl rfl dX0_fact_80 ?_
    exact hh_iret C0 hp dX0_fact_83 ⟨(by unfold hf_X0_fact; rw [if_neg c_1_0, if_neg c_1_1, if_neg c_1_2, if_neg c_1_3, if_neg c_1_4, if_pos c_1_5]), rfl⟩
  by_cases c_1_6 : what = 6
  · refine lv_tableIn (off := 83) (tgt := 84) hx hb dX0_fact_1 (by rw [c_1_6]; decide) (by rw [c_1_6]; decide) (by rw [c_1_6]; rfl) (by decide) ?_
    refine lv_aload_n hx hb dX0_fact_84 rfl (lv_at hl 0 rfl) ?_
    refine hh_get C0 hp (C := RX0) (T := TX0) (N := 7) (ci := 0) (hh_b_c hr hi) (hh_E_c r hi) rfl hh_uX0 6 (by decide) hm_9 rfl rfl dX0_fact_85 ?_
    exact hh_iret C0 hp dX0_fact_88 ⟨(by unfold hf_X0_fact; rw [if_neg c_1_0, if_neg c_1_1, if_neg c_1_2, if_neg c_1_3, if_neg c_1_4, if_neg c_1_5, if_pos c_1_6]), rfl⟩
  by_cases c_1_7 : what = 7
  · refine lv_tableIn (off := 88) (tgt := 89) hx hb dX0_fact_1 (by rw [c_1_7]; decide) (by rw [c_1_7]; decide) (by rw [c_1_7]; rfl) (by decide) ?_
    refine lv_aload_n hx hb dX0_fact_89 rfl (lv_at hl 0 rfl) ?_
    refine hh_get C0 hp (C := RX0) (T := TX0) (N := 7) (ci := 0) (hh_b_c hr hi) (hh_E_c r hi) rfl hh_uX0 0 (by decide) hm_7 rfl rfl dX0_fact_90 ?_
    refine hh_get C0 hp (C := RX2) (T := TX2) (N := 6) (ci := 2) (hh_b_g hr hi (by decide : 0 < 2)) (hh_E_g r hi (by decide : 0 < 2)) rfl hh_uX2 1 (by decide) hm_17 rfl rfl dX0_fact_93 ?_
    exact hh_iret C0 hp dX0_fact_96 ⟨(by unfold hf_X0_fact; rw [if_neg c_1_0, if_neg c_1_1, if_neg c_1_2, if_neg c_1_3, if_neg c_1_4, if_neg c_1_5, if_neg c_1_6, if_pos c_1_7]), rfl⟩
  refine lv_tableOut (tgt := 97) hx hb dX0_fact_1 (hh_sw (n := 8) (fun k hk => (match k, hk with | 0, _ => c_1_0 | 1, _ => c_1_1 | 2, _ => c_1_2 | 3, _ => c_1_3 | 4, _ => c_1_4 | 5, _ => c_1_5 | 6, _ => c_1_6 | 7, _ => c_1_7 | k + 8, hk => absurd hk (by omega))) (by decide)) (by decide) ?_
  refine lv_aload_n hx hb dX0_fact_97 rfl (lv_at hl 0 rfl) ?_
  refine hh_get C0 hp (C := RX0) (T := TX0) (N := 7) (ci := 0) (hh_b_c hr hi) (hh_E_c r hi) rfl hh_uX0 1 (by decide) hm_8 rfl rfl dX0_fact_98 ?_
  refine hh_get C0 hp (C := RX2) (T := TX2) (N := 6) (ci := 2) (hh_b_g hr hi (by decide : 1 < 2)) (hh_E_g r hi (by decide : 1 < 2)) rfl hh_uX2 1 (by decide) hm_17 rfl rfl dX0_fact_101 ?_
  exact hh_iret C0 hp dX0_fact_104 ⟨(by unfold hf_X0_fact; rw [if_neg c_1_0, if_neg c_1_1, if_neg c_1_2, if_neg c_1_3, if_neg c_1_4, if_neg c_1_5, if_neg c_1_6, if_neg c_1_7]), rfl⟩
def hf_X5_qualityAt (v : hh_M) (r : Nat) (mast : Int32) (place : Int32) : Int32 := ((v (hh_bI mast.toNatClampNeg) place.toNatClampNeg) - (2 * (v (hh_lI r) mast.toNatClampNeg)))
set_option maxHeartbeats 4000000 in
set_option maxRecDepth 100000 in
theorem hk_X5_qualityAt (l : Launch) (D : va_G) (K : Nat → ClassId) (ad : Nat → Nat) {nm : Nat} {nh nc : Nat → Nat} {v : hh_M} (hT : hh_T nm nh nc v) (r : Nat) (mast : Int32) (place : Int32) (hr : r < 2) (h1 : vp_in mast 6) (h2 : vp_in place 100) : hh_Ki l D K ad yX5_qualityAt (hh_wm yX5_qualityAt cX5_qualityAt 3 (some .int)) { frames := 0, cells := 0, slots := 0, locals := 0 } [.ref (ad (hh_rI r)), .int mast, .int place] v (fun (q : Int32) (v1 : hh_M) => q = hf_X5_qualityAt v r mast place ∧ v1 = v) := by
  refine hh_Ki_of (by decide) (Nat.le_of_ble_eq_true rfl) ?_
  intro p e s m args below meth c ls A C0 hp hl
  obtain ⟨hx, hb, hr9, hml, hown, hts, hK, hlk, hA⟩ := id C0
  have hnm := hT.1
  have hnh := hT.2.1
  have hnc := hT.2.2.1
  have hbHr := hnh r
  have hbCr := hnc r
  have hl : lv_has ls 3 [(0, .ref (ad (hh_rI r))), (1, .int mast), (2, .int place)] := hl
  refine lv_aload_n hx hb dX5_qualityAt_0 rfl (lv_at hl 0 rfl) ?_
  refine hh_get C0 hp (C := RX5) (T := TX5) (N := 10) (ci := 5) (hh_b_r hr) (hh_E_r r) rfl hh_uX5 0 (by decide) hm_97 rfl rfl dX5_qualityAt_1 ?_
  refine hh_get C0 hp (C := RX4) (T := TX4) (N := 3) (ci := 4) (by decide) hh_E_1 rfl hh_uX4 1 (by decide) hm_123 rfl rfl dX5_qualityAt_4 ?_
  refine lv_iload_n hx hb dX5_qualityAt_7 rfl (lv_at hl 1 rfl) ?_
  have hin_8 : vp_in mast 6 := by assumption
  refine hh_aal C0 hp (t0 := 1) (f := hh_bI) (by decide) hh_E_3 rfl rfl hin_8 rfl dX5_qualityAt_8 ?_
  refine lv_iload_n hx hb dX5_qualityAt_9 rfl (lv_at hl 2 rfl) ?_
  have hin_10 : vp_in place 100 := by assumption
  refine hh_ial C0 hp (hh_b_b (hh_lt hin_8)) (hh_E_b (hh_lt hin_8)) hin_10 rfl dX5_qualityAt_10 ?_
  refine lv_iconst (v := 2) hx hb dX5_qualityAt_11 (by decide) ?_
  refine lv_aload_n hx hb dX5_qualityAt_12 rfl (lv_at hl 0 rfl) ?_
  refine hh_get C0 hp (C := RX5) (T := TX5) (N := 10) (ci := 5) (hh_b_r hr) (hh_E_r r) rfl hh_uX5 1 (by decide) hm_98 rfl rfl dX5_qualityAt_13 ?_
  refine lv_iload_n hx hb dX5_qualityAt_16 rfl (lv_at hl 1 rfl) ?_
  have hin_17 : vp_in mast 6 := by assumption
  refine hh_ial C0 hp (hh_b_l hr) (hh_E_l r) hin_17 rfl dX5_qualityAt_17 ?_
  refine lv_imul hx hb dX5_qualityAt_18 ?_
  refine lv_isub hx hb dX5_qualityAt_19 ?_
  exact hh_iret C0 hp dX5_qualityAt_20 ⟨(by unfold hf_X5_qualityAt; rfl), rfl⟩
def hf_X5_isHeard (v : hh_M) (r : Nat) (mast : Int32) (place : Int32) : Int32 := (hh_let (hf_X5_qualityAt v r mast place : Int32) (fun (q_3 : Int32) => (if q_3 < 1 then 0 else 1)))
set_option maxHeartbeats 4000000 in
set_option maxRecDepth 100000 in
theorem hk_X5_isHeard (l : Launch) (D : va_G) (K : Nat → ClassId) (ad : Nat → Nat) {nm : Nat} {nh nc : Nat → Nat} {v : hh_M} (hT : hh_T nm nh nc v) (r : Nat) (mast : Int32) (place : Int32) (hr : r < 2) (h1 : vp_in mast 6) (h2 : vp_in place 100) : hh_Ki l D K ad yX5_isHeard (hh_wm yX5_isHeard cX5_isHeard 3 (some .boolean)) { frames := 1, cells := 0, slots := 0, locals := 22 } [.ref (ad (hh_rI r)), .int mast, .int place] v (fun (q : Int32) (v1 : hh_M) => q = hf_X5_isHeard v r mast place ∧ v1 = v) := by
  refine hh_Ki_of (by decide) (Nat.le_of_ble_eq_true rfl) ?_
  intro p e s m args below meth c ls A C0 hp hl
  obtain ⟨hx, hb, hr9, hml, hown, hts, hK, hlk, hA⟩ := id C0
  have hnm := hT.1
  have hnh := hT.2.1
  have hnc := hT.2.2.1
  have hbHr := hnh r
  have hbCr := hnc r
  have hl : lv_has ls 3 [(0, .ref (ad (hh_rI r))), (1, .int mast), (2, .int place)] := hl
  refine lv_aload_n hx hb dX5_isHeard_0 rfl (lv_at hl 0 rfl) ?_
  refine lv_iload_n hx hb dX5_isHeard_1 rfl (lv_at hl 1 rfl) ?_
  refine lv_iload_n hx hb dX5_isHeard_2 rfl (lv_at hl 2 rfl) ?_
  refine hh_cVi C0 hp (As := [.int mast, .int place]) (rest := []) (C := RX5) (T := TX5) (N := 10) (ci := 5) (n := 2) (hk_X5_qualityAt l D K ad hT r mast place hr (by assumption) (by assumption)) rfl (hh_b_r hr) (hh_E_r r) (hh_gV hm_125 hm_126 hm_127 hm_128 hm_122) ⟨rfl, rfl⟩ (by decide +kernel) ⟨Nat.le_of_ble_eq_true rfl, Nat.le_of_ble_eq_true rfl⟩ ⟨Nat.zero_le _, Nat.zero_le _⟩ hl.1 rfl rfl (Nat.le_of_ble_eq_true rfl) dX5_isHeard_3 (fun q_3 v_3 H locs hv_3 hp => ?_)
  obtain ⟨eq_3, hv9⟩ := hv_3
  rw [hv9] at hp; clear hv9
  refine lv_iconst (v := 1) hx hb dX5_isHeard_6 (by decide) ?_
  refine lv_icmp_lt (tgt := 14) hx hb dX5_isHeard_7 (by decide) (fun c_7 => ?_) (fun c_7 => ?_)
  · refine lv_iconst (v := 0) hx hb dX5_isHeard_14 (by decide) ?_
    exact hh_zret C0 hp dX5_isHeard_15 (Or.inl rfl) ⟨(by unfold hf_X5_isHeard; rw [hh_let_eq eq_3, if_pos c_7]), rfl⟩
  · refine lv_iconst (v := 1) hx hb dX5_isHeard_10 (by decide) ?_
    refine lv_goto (tgt := 15) hx hb dX5_isHeard_11 (by decide) ?_
    exact hh_zret C0 hp dX5_isHeard_15 (Or.inr rfl) ⟨(by unfold hf_X5_isHeard; rw [hh_let_eq eq_3, if_neg c_7]), rfl⟩
def hl_X5_bestHeardAt_7 (v : hh_M) (r : Nat) (place : Int32) (i : Nat) (a7_2 : Int32) (a7_3 : Int32) : Int32 × Int32 := (hh_let (hf_X5_qualityAt v r (nI i) place : Int32) (fun (q_23 : Int32) => (if q_23 ≤ a7_3 then (a7_2, a7_3) else ((nI i), q_23))))
def hf_X5_bestHeardAt (v : hh_M) (r : Nat) (place : Int32) : Int32 := (hh_let ((hh_fld (fun (i9 : Nat) (z : Int32 × Int32) => hl_X5_bestHeardAt_7 v r place i9 z.1 z.2) ((v 1 2).toNatClampNeg) ((-1), 0)).1 : Int32) (fun (a7_2 : Int32) => (hh_let ((hh_fld (fun (i9 : Nat) (z : Int32 × Int32) => hl_X5_bestHeardAt_7 v r place i9 z.1 z.2) ((v 1 2).toNatClampNeg) ((-1), 0)).2 : Int32) (fun (a7_3 : Int32) => a7_2))))
set_option maxHeartbeats 4000000 in
set_option maxRecDepth 100000 in
theorem hk_X5_bestHeardAt (l : Launch) (D : va_G) (K : Nat → ClassId) (ad : Nat → Nat) {nm : Nat} {nh nc : Nat → Nat} {v : hh_M} (hT : hh_T nm nh nc v) (r : Nat) (place : Int32) (hr : r < 2) (h2 : vp_in place 100) : hh_Ki l D K ad yX5_bestHeardAt (hh_wm yX5_bestHeardAt cX5_bestHeardAt 6 (some .int)) { frames := 1, cells := 0, slots := 0, locals := 22 } [.ref (ad (hh_rI r)), .int place] v (fun (q : Int32) (v1 : hh_M) => q = hf_X5_bestHeardAt v r place ∧ v1 = v ∧ (-1 ≤ q ∧ q < nI nm)) := by
  refine hh_Ki_of (by decide) (Nat.le_of_ble_eq_true rfl) ?_
  intro p e s m args below meth c ls A C0 hp hl
  obtain ⟨hx, hb, hr9, hml, hown, hts, hK, hlk, hA⟩ := id C0
  have hnm := hT.1
  have hnh := hT.2.1
  have hnc := hT.2.2.1
  have hbHr := hnh r
  have hbCr := hnc r
  have hl : lv_has ls 6 [(0, .ref (ad (hh_rI r))), (1, .int place)] := hl
  refine lv_iconst (v := (-1)) hx hb dX5_bestHeardAt_0 (by decide) ?_
  refine lv_istore_n (lv' := [(2, .int (-1)), (0, .ref (ad (hh_rI r))), (1, .int place)]) hx hb dX5_bestHeardAt_1 rfl hl (by decide) rfl (fun ls hl => ?_)
  refine lv_iconst (v := 0) hx hb dX5_bestHeardAt_2 (by decide) ?_
  refine lv_istore_n (lv' := [(3, .int 0), (2, .int (-1)), (0, .ref (ad (hh_rI r))), (1, .int place)]) hx hb dX5_bestHeardAt_3 rfl hl (by decide) rfl (fun ls hl => ?_)
  refine lv_iconst (v := 0) hx hb dX5_bestHeardAt_4 (by decide) ?_
  refine lv_istore (lv' := [(4, .int 0), (3, .int 0), (2, .int (-1)), (0, .ref (ad (hh_rI r))), (1, .int place)]) hx hb dX5_bestHeardAt_5 hl (by decide) rfl (fun ls hl => ?_)
  have hL_7 : ∀ (n i : Nat) (a7_2 : Int32) (a7_3 : Int32) (H : Heap) (locs : List Loc) (ls : Array Slot), i ≤ nm → nm - i < n → (a7_2, a7_3) = hh_fld (fun (i9 : Nat) (z : Int32 × Int32) => hl_X5_bestHeardAt_7 v r place i9 z.1 z.2) i ((-1), 0) → hh_H D K ad A s.heap v H locs → lv_has ls 6 [(4, .int (nI i)), (3, .int a7_3), (2, .int a7_2), (0, .ref (ad (hh_rI r))), (1, .int place)] → -1 ≤ a7_2 ∧ a7_2 < nI nm → W p l e ({ frames := 1, cells := 0, slots := 0, locals := 22 } : Room) s m args below meth c H locs 0 0 (MQ below (va_Qi (fun (q : Int32) (v1 : hh_M) => q = hf_X5_bestHeardAt v r place ∧ v1 = v ∧ (-1 ≤ q ∧ q < nI nm)) (hh_B D K ad A) A) args s 0 0 A) (F0 m 7 ls []) := by
    intro n
    induction n with
    | zero => intro i a7_2 a7_3 H locs ls h1 h2; omega
    | succ n ih =>
      intro i a7_2 a7_3 H locs ls hii hni hsL_7 hp hl hf1
      refine lv_iload hx hb dX5_bestHeardAt_7 (lv_at hl 0 rfl) ?_
      refine lv_aload_n hx hb dX5_bestHeardAt_9 rfl (lv_at hl 3 rfl) ?_
      refine hh_get C0 hp (C := RX5) (T := TX5) (N := 10) (ci := 5) (hh_b_r hr) (hh_E_r r) rfl hh_uX5 0 (by decide) hm_97 rfl rfl dX5_bestHeardAt_10 ?_
      refine hh_get C0 hp (C := RX4) (T := TX4) (N := 3) (ci := 4) (by decide) hh_E_1 rfl hh_uX4 2 (by decide) hm_130 rfl rfl dX5_bestHeardAt_13 ?_
      refine lv_icmp_ge (tgt := 46) hx hb dX5_bestHeardAt_16 (by decide) (fun c_16 => ?_) (fun c_16 => ?_)
      · have hbc_16 : (v 1 2) = nI nm := hh_T_M hT
        rw [hbc_16] at c_16
        have hc_16 := (nI_leI (a := nm) (b := i) (by omega) (by omega))
        have hltc_16 : nm ≤ i := by exact hc_16.mp c_16
        have hNL_7 : i = nm := by omega
        rw [hNL_7] at hsL_7
        have hsL_7 : (a7_2, a7_3) = hh_fld (fun (i9 : Nat) (z : Int32 × Int32) => hl_X5_bestHeardAt_7 v r place i9 z.1 z.2) ((v 1 2).toNatClampNeg) ((-1), 0) := by rw [hsL_7, show (v 1 2).toNatClampNeg = nm from by rw [hh_T_M hT]; exact nI_clamp (by omega)]
        have ea7_2 : a7_2 = (hh_fld (fun (i9 : Nat) (z : Int32 × Int32) => hl_X5_bestHeardAt_7 v r place i9 z.1 z.2) ((v 1 2).toNatClampNeg) ((-1), 0)).1 := congrArg (fun z => z.1) hsL_7
        have ea7_3 : a7_3 = (hh_fld (fun (i9 : Nat) (z : Int32 × Int32) => hl_X5_bestHeardAt_7 v r place i9 z.1 z.2) ((v 1 2).toNatClampNeg) ((-1), 0)).2 := congrArg (fun z => z.2) hsL_7
        clear ih hsL_7
        refine lv_iload_n hx hb dX5_bestHeardAt_46 rfl (lv_at hl 2 rfl) ?_
        exact hh_iret C0 hp dX5_bestHeardAt_47 ⟨(by unfold hf_X5_bestHeardAt; rw [hh_let_eq ea7_2, hh_let_eq ea7_3]), rfl, (by assumption)⟩
      · have hbc_16 : (v 1 2) = nI nm := hh_T_M hT
        rw [hbc_16] at c_16
        have hc_16 := (nI_leI (a := nm) (b := i) (by omega) (by omega))
        have hltc_16 : i < nm := by exact Nat.not_le.mp (fun z => c_16 (hc_16.mpr z))
        refine lv_aload_n hx hb dX5_bestHeardAt_19 rfl (lv_at hl 3 rfl) ?_
        refine lv_iload hx hb dX5_bestHeardAt_20 (lv_at hl 0 rfl) ?_
        refine lv_iload_n hx hb dX5_bestHeardAt_22 rfl (lv_at hl 4 rfl) ?_
        refine hh_cVi C0 hp (As := [.int (nI i), .int place]) (rest := []) (C := RX5) (T := TX5) (N := 10) (ci := 5) (n := 2) (hk_X5_qualityAt l D K ad hT r (nI i) place hr (vp_in_nI (by omega) (by decide)) (by assumption)) rfl (hh_b_r hr) (hh_E_r r) (hh_gV hm_125 hm_126 hm_127 hm_128 hm_122) ⟨rfl, rfl⟩ (by decide +kernel) ⟨Nat.le_of_ble_eq_true rfl, Nat.le_of_ble_eq_true rfl⟩ ⟨Nat.zero_le _, Nat.zero_le _⟩ hl.1 rfl rfl (Nat.le_of_ble_eq_true rfl) dX5_bestHeardAt_23 (fun q_23 v_23 H locs hv_23 hp => ?_)
        obtain ⟨eq_23, hv9⟩ := hv_23
        rw [hv9] at hp; clear hv9
        refine lv_istore (lv' := [(5, .int q_23), (4, .int (nI i)), (3, .int a7_3), (2, .int a7_2), (0, .ref (ad (hh_rI r))), (1, .int place)]) hx hb dX5_bestHeardAt_26 hl (by decide) rfl (fun ls hl => ?_)
        refine lv_iload hx hb dX5_bestHeardAt_28 (lv_at hl 0 rfl) ?_
        refine lv_iload_n hx hb dX5_bestHeardAt_30 rfl (lv_at hl 2 rfl) ?_
        refine lv_icmp_le (tgt := 40) hx hb dX5_bestHeardAt_31 (by decide) (fun c_31 => ?_) (fun c_31 => ?_)
        · refine lv_iinc (v := (nI (i + 1))) (lv' := [(4, .int (nI (i + 1))), (5, .int q_23), (3, .int a7_3), (2, .int a7_2), (0, .ref (ad (hh_rI r))), (1, .int place)]) hx hb dX5_bestHeardAt_40 hl (k := 1) rfl (nI_1 i) (by decide) rfl (fun ls hl => ?_)
          refine lv_goto (tgt := 7) hx hb dX5_bestHeardAt_43 (by decide) ?_
          exact ih (i + 1) a7_2 a7_3 _ _ _ (by omega) (by omega) (by rw [hh_fld, ← hsL_7]; show _ = hl_X5_bestHeardAt_7 v r place i a7_2 a7_3; unfold hl_X5_bestHeardAt_7; rw [hh_let_eq eq_23, if_pos c_31]) hp (lv_sub hl [0, 2, 3, 4, 5] rfl) (by first | assumption | exact hh_rg (by omega) (by omega))
        · refine lv_iload hx hb dX5_bestHeardAt_34 (lv_at hl 1 rfl) ?_
          refine lv_istore_n (lv' := [(2, .int (nI i)), (5, .int q_23), (4, .int (nI i)), (3, .int a7_3), (0, .ref (ad (hh_rI r))), (1, .int place)]) hx hb dX5_bestHeardAt_36 rfl hl (by decide) rfl (fun ls hl => ?_)
          refine lv_iload hx hb dX5_bestHeardAt_37 (lv_at hl 1 rfl) ?_
          refine lv_istore_n (lv' := [(3, .int q_23), (2, .int (nI i)), (5, .int q_23), (4, .int (nI i)), (0, .ref (ad (hh_rI r))), (1, .int place)]) hx hb dX5_bestHeardAt_39 rfl hl (by decide) rfl (fun ls hl => ?_)
          refine lv_iinc (v := (nI (i + 1))) (lv' := [(4, .int (nI (i + 1))), (3, .int q_23), (2, .int (nI i)), (5, .int q_23), (0, .ref (ad (hh_rI r))), (1, .int place)]) hx hb dX5_bestHeardAt_40 hl (k := 3) rfl (nI_1 i) (by decide) rfl (fun ls hl => ?_)
          refine lv_goto (tgt := 7) hx hb dX5_bestHeardAt_43 (by decide) ?_
          exact ih (i + 1) (nI i) q_23 _ _ _ (by omega) (by omega) (by rw [hh_fld, ← hsL_7]; show _ = hl_X5_bestHeardAt_7 v r place i a7_2 a7_3; unfold hl_X5_bestHeardAt_7; rw [hh_let_eq eq_23, if_neg c_31]) hp (lv_sub hl [0, 1, 2, 4, 5] rfl) (by first | assumption | exact hh_rg (by omega) (by omega))
  exact hL_7 (nm + 1) 0 (-1) 0 _ _ _ (Nat.zero_le _) (by omega) rfl hp (lv_sub hl [0, 1, 2, 3, 4] rfl) (by exact hh_rg0 (by omega))
end
section
/-! 11.leaves2: laid by program (wip/gen/mk10.py) -/
def hf_X1_move (v : hh_M) (r : Nat) (i : Nat) : hh_M := (hh_let (hh_up v (hh_hI r i) 1 ((v (hh_hI r i) 1) + (v (hh_hI r i) 2)) : hh_M) (fun (v_10 : hh_M) => (if 0 ≤ (v_10 (hh_hI r i) 1) then (if (v_10 (hh_hI r i) 1) ≤ 99 then v_10 else (hh_let (hh_up v_10 (hh_hI r i) 1 (198 - (v_10 (hh_hI r i) 1)) : hh_M) (fun (v_59 : hh_M) => (hh_let (hh_up v_59 (hh_hI r i) 2 (-(v_59 (hh_hI r i) 2)) : hh_M) (fun (v_68 : hh_M) => v_68))))) else (hh_let (hh_up v_10 (hh_hI r i) 1 (-(v_10 (hh_hI r i) 1)) : hh_M) (fun (v_26 : hh_M) => (hh_let (hh_up v_26 (hh_hI r i) 2 (-(v_26 (hh_hI r i) 2)) : hh_M) (fun (v_35 : hh_M) => v_35)))))))
theorem ht_X1_move {nm : Nat} {nh nc : Nat → Nat} {v : hh_M} (hT : hh_T nm nh nc v) {r i : Nat} (hr : r < 2) (hi : i < 8) : hh_T nm nh nc (hf_X1_move v r i) := by
  have h1 := hh_T_h1 hT r hi
  have h2 := hh_T_h2 hT r hi
  unfold hf_X1_move
  simp only [hh_let, hh_ups, hh_upk (show (2 : Nat) ≠ 1 by decide), hh_uu]
  generalize v (hh_hI r i) 1 = a at h1 ⊢
  generalize v (hh_hI r i) 2 = b at h2 ⊢
  simp only [Int32.le_iff_toInt_le, show (0 : Int32).toInt = 0 from rfl, show (99 : Int32).toInt = 99 from rfl, show (-3 : Int32).toInt = -3 from rfl, show (3 : Int32).toInt = 3 from rfl] at h1 h2
  have e1 := hh_add (x := a) (y := b) (by omega)
  have e2 := hh_neg (x := b) (by omega)
  have e3 : (-(a + b)).toInt = -(a.toInt + b.toInt) := by rw [hh_neg (by rw [e1]; omega), e1]
  have e4 : (198 - (a + b)).toInt = 198 - (a.toInt + b.toInt) := by rw [hh_sub (by rw [e1, show (198 : Int32).toInt = 198 from rfl]; omega), e1]; rfl
  have k2 : -3 ≤ -b ∧ -b ≤ 3 := by simp only [Int32.le_iff_toInt_le, e2, show (-3 : Int32).toInt = -3 from rfl, show (3 : Int32).toInt = 3 from rfl]; omega
  simp only [Int32.le_iff_toInt_le, e1, show (0 : Int32).toInt = 0 from rfl, show (99 : Int32).toInt = 99 from rfl]
  split
  · split
    · exact hh_T_up hT (hh_R_h1 hr hi (by simp only [Int32.le_iff_toInt_le, e1, show (0 : Int32).toInt = 0 from rfl, show (99 : Int32).toInt = 99 from rfl]; omega))
    · exact hh_T_up (hh_T_up hT (hh_R_h1 hr hi (by simp only [Int32.le_iff_toInt_le, e4, show (0 : Int32).toInt = 0 from rfl, show (99 : Int32).toInt = 99 from rfl]; omega))) (hh_R_h2 hr hi k2)
  · exact hh_T_up (hh_T_up hT (hh_R_h1 hr hi (by simp only [Int32.le_iff_toInt_le, e3, show (0 : Int32).toInt = 0 from rfl, show (99 : Int32).toInt = 99 from rfl]; omega))) (hh_R_h2 hr hi k2)
set_option maxHeartbeats 4000000 in
set_option maxRecDepth 100000 in
theorem hk_X1_move (l : Launch) (D : va_G) (K : Nat → ClassId) (ad : Nat → Nat) {nm : Nat} {nh nc : Nat → Nat} {v : hh_M} (hT : hh_T nm nh nc v) (r : Nat) (i : Nat) (hr : r < 2) (hi : i < 8) : hh_Kv l D K ad yX1_move (hh_wm yX1_move cX1_move 1 none) { frames := 0, cells := 0, slots := 0, locals := 0 } [.ref (ad (hh_hI r i))] v (fun (v1 : hh_M) => v1 = hf_X1_move v r i ∧ hh_T nm nh nc v1) := by
  refine hh_Kv_of (by decide) (Nat.le_of_ble_eq_true rfl) ?_
  intro p e s m args below meth c ls A C0 hp hl
  obtain ⟨hx, hb, hr9, hml, hown, hts, hK, hlk, hA⟩ := id C0
  have hnm := hT.1
  have hnh := hT.2.1
  have hnc := hT.2.2.1
  have hbHr := hnh r
  have hbCr := hnc r
  have hl : lv_has ls 1 [(0, .ref (ad (hh_hI r i)))] := hl
  refine lv_aload_n hx hb dX1_move_0 rfl (lv_at hl 0 rfl) ?_
  refine lv_dup hx hb dX1_move_1 rfl ?_
  refine hh_get C0 hp (C := RX1) (T := TX1) (N := 13) (ci := 1) (hh_b_h hr hi) (hh_E_h r hi) rfl hh_uX1 1 (by decide) hm_41 rfl rfl dX1_move_2 ?_
  refine lv_aload_n hx hb dX1_move_5 rfl (lv_at hl 0 rfl) ?_
  refine hh_get C0 hp (C := RX1) (T := TX1) (N := 13) (ci := 1) (hh_b_h hr hi) (hh_E_h r hi) rfl hh_uX1 2 (by decide) hm_42 rfl rfl dX1_move_6 ?_
  refine lv_iadd hx hb dX1_move_9 ?_
  refine hh_put C0 hp (C := RX1) (T := TX1) (N := 13) (ci := 1) (k := 1) (ty := .int) (hh_b_h hr hi) (hh_E_h r hi) (hh_ph1 r hi) rfl hh_uX1 tyX1_ok nmX1 (by decide) hm_41 rfl rfl (by decide +kernel) rfl rfl (Nat.le_of_ble_eq_true rfl) dX1_move_10 (fun H locs hp => ?_)
  obtain ⟨v_10, ev_10⟩ : ∃ z : hh_M, z = hh_up v (hh_hI r i) 1 ((v (hh_hI r i) 1) + (v (hh_hI r i) 2)) := ⟨_, rfl⟩
  rw [← ev_10] at hp
  refine lv_aload_n hx hb dX1_move_13 rfl (lv_at hl 0 rfl) ?_
  refine hh_get C0 hp (C := RX1) (T := TX1) (N := 13) (ci := 1) (hh_b_h hr hi) (hh_E_h r hi) rfl hh_uX1 1 (by decide) hm_41 rfl rfl dX1_move_14 ?_
  refine lv_if_ge (tgt := 41) hx hb dX1_move_17 (by decide) (fun c_17 => ?_) (fun c_17 => ?_)
  · refine lv_aload_n hx hb dX1_move_41 rfl (lv_at hl 0 rfl) ?_
    refine hh_get C0 hp (C := RX1) (T := TX1) (N := 13) (ci := 1) (hh_b_h hr hi) (hh_E_h r hi) rfl hh_uX1 1 (by decide) hm_41 rfl rfl dX1_move_42 ?_
    refine lv_bipush (v := 99) hx hb dX1_move_45 (by decide) ?_
    refine lv_icmp_le (tgt := 71) hx hb dX1_move_47 (by decide) (fun c_47 => ?_) (fun c_47 => ?_)
    · exact hh_vret C0 hp dX1_move_71 ⟨(by show _ = _; unfold hf_X1_move; rw [hh_let_eq ev_10, if_pos c_17, if_pos c_47]), (by have h9 : v_10 = hf_X1_move v r i := (by unfold hf_X1_move; rw [hh_let_eq ev_10, if_pos c_17, if_pos c_47]); rw [h9]; exact ht_X1_move hT hr hi)⟩
    · refine lv_aload_n hx hb dX1_move_50 rfl (lv_at hl 0 rfl) ?_
      refine lv_sipush (v := 198) hx hb dX1_move_51 (by decide) ?_
      refine lv_aload_n hx hb dX1_move_54 rfl (lv_at hl 0 rfl) ?_
      refine hh_get C0 hp (C := RX1) (T := TX1) (N := 13) (ci := 1) (hh_b_h hr hi) (hh_E_h r hi) rfl hh_uX1 1 (by decide) hm_41 rfl rfl dX1_move_55 ?_
      refine lv_isub hx hb dX1_move_58 ?_
      refine hh_put C0 hp (C := RX1) (T := TX1) (N := 13) (ci := 1) (k := 1) (ty := .int) (hh_b_h hr hi) (hh_E_h r hi) (hh_ph1 r hi) rfl hh_uX1 tyX1_ok nmX1 (by decide) hm_41 rfl rfl (by decide +kernel) rfl rfl (Nat.le_of_ble_eq_true rfl) dX1_move_59 (fun H locs hp => ?_)
      obtain ⟨v_59, ev_59⟩ : ∃ z : hh_M, z = hh_up v_10 (hh_hI r i) 1 (198 - (v_10 (hh_hI r i) 1)) := ⟨_, rfl⟩
      rw [← ev_59] at hp
      refine lv_aload_n hx hb dX1_move_62 rfl (lv_at hl 0 rfl) ?_
      refine lv_aload_n hx hb dX1_move_63 rfl (lv_at hl 0 rfl) ?_
      refine hh_get C0 hp (C := RX1) (T := TX1) (N := 13) (ci := 1) (hh_b_h hr hi) (hh_E_h r hi) rfl hh_uX1 2 (by decide) hm_42 rfl rfl dX1_move_64 ?_
      refine lv_ineg hx hb dX1_move_67 ?_
      refine hh_put C0 hp (C := RX1) (T := TX1) (N := 13) (ci := 1) (k := 2) (ty := .int) (hh_b_h hr hi) (hh_E_h r hi) (hh_ph2 r hi) rfl hh_uX1 tyX1_ok nmX1 (by decide) hm_42 rfl rfl (by decide +kernel) rfl rfl (Nat.le_of_ble_eq_true rfl) dX1_move_68 (fun H locs hp => ?_)
      obtain ⟨v_68, ev_68⟩ : ∃ z : hh_M, z = hh_up v_59 (hh_hI r i) 2 (-(v_59 (hh_hI r i) 2)) := ⟨_, rfl⟩
      rw [← ev_68] at hp
      exact hh_vret C0 hp dX1_move_71 ⟨(by show _ = _; unfold hf_X1_move; rw [hh_let_eq ev_10, if_pos c_17, if_neg c_47, hh_let_eq ev_59, hh_let_eq ev_68]), (by have h9 : v_68 = hf_X1_move v r i := (by unfold hf_X1_move; rw [hh_let_eq ev_10, if_pos c_17, if_neg c_47, hh_let_eq ev_59, hh_let_eq ev_68]); rw [h9]; exact ht_X1_move hT hr hi)⟩
  · refine lv_aload_n hx hb dX1_move_20 rfl (lv_at hl 0 rfl) ?_
    refine lv_aload_n hx hb dX1_move_21 rfl (lv_at hl 0 rfl) ?_
    refine hh_get C0 hp (C := RX1) (T := TX1) (N := 13) (ci := 1) (hh_b_h hr hi) (hh_E_h r hi) rfl hh_uX1 1 (by decide) hm_41 rfl rfl dX1_move_22 ?_
    refine lv_ineg hx hb dX1_move_25 ?_
    refine hh_put C0 hp (C := RX1) (T := TX1) (N := 13) (ci := 1) (k := 1) (ty := .int) (hh_b_h hr hi) (hh_E_h r hi) (hh_ph1 r hi) rfl hh_uX1 tyX1_ok nmX1 (by decide) hm_41 rfl rfl (by decide +kernel) rfl rfl (Nat.le_of_ble_eq_true rfl) dX1_move_26 (fun H locs hp => ?_)
    obtain ⟨v_26, ev_26⟩ : ∃ z : hh_M, z = hh_up v_10 (hh_hI r i) 1 (-(v_10 (hh_hI r i) 1)) := ⟨_, rfl⟩
    rw [← ev_26] at hp
    refine lv_aload_n hx hb dX1_move_29 rfl (lv_at hl 0 rfl) ?_
    refine lv_aload_n hx hb dX1_move_30 rfl (lv_at hl 0 rfl) ?_
    refine hh_get C0 hp (C := RX1) (T := TX1) (N := 13) (ci := 1) (hh_b_h hr hi) (hh_E_h r hi) rfl hh_uX1 2 (by decide) hm_42 rfl rfl dX1_move_31 ?_
    refine lv_ineg hx hb dX1_move_34 ?_
    refine hh_put C0 hp (C := RX1) (T := TX1) (N := 13) (ci := 1) (k := 2) (ty := .int) (hh_b_h hr hi) (hh_E_h r hi) (hh_ph2 r hi) rfl hh_uX1 tyX1_ok nmX1 (by decide) hm_42 rfl rfl (by decide +kernel) rfl rfl (Nat.le_of_ble_eq_true rfl) dX1_move_35 (fun H locs hp => ?_)
    obtain ⟨v_35, ev_35⟩ : ∃ z : hh_M, z = hh_up v_26 (hh_hI r i) 2 (-(v_26 (hh_hI r i) 2)) := ⟨_, rfl⟩
    rw [← ev_35] at hp
    refine lv_goto (tgt := 71) hx hb dX1_move_38 (by decide) ?_
    exact hh_vret C0 hp dX1_move_71 ⟨(by show _ = _; unfold hf_X1_move; rw [hh_let_eq ev_10, if_neg c_17, hh_let_eq ev_26, hh_let_eq ev_35]), (by have h9 : v_35 = hf_X1_move v r i := (by unfold hf_X1_move; rw [hh_let_eq ev_10, if_neg c_17, hh_let_eq ev_26, hh_let_eq ev_35]); rw [h9]; exact ht_X1_move hT hr hi)⟩
def hf_X1_tell (v : hh_M) (r : Nat) (i : Nat) (area : Int32) (now : Int32) : hh_M := (hh_let (hh_up v (hh_hI r i) 7 area : hh_M) (fun (v_2 : hh_M) => (hh_let (hh_up v_2 (hh_hI r i) 8 area : hh_M) (fun (v_7 : hh_M) => (hh_let (hh_up v_7 (hh_hI r i) 9 now : hh_M) (fun (v_12 : hh_M) => (hh_let (hh_up v_12 (hh_hI r i) 10 ((v_12 (hh_hI r i) 10) + 1) : hh_M) (fun (v_22 : hh_M) => v_22))))))))
set_option maxHeartbeats 4000000 in
set_option maxRecDepth 100000 in
theorem hk_X1_tell (l : Launch) (D : va_G) (K : Nat → ClassId) (ad : Nat → Nat) {nm : Nat} {nh nc : Nat → Nat} {v : hh_M} (hT : hh_T nm nh nc v) (r : Nat) (i : Nat) (area : Int32) (now : Int32) (hr : r < 2) (hi : i < 8) : hh_Kv l D K ad yX1_tell (hh_wm yX1_tell cX1_tell 3 none) { frames := 0, cells := 0, slots := 0, locals := 0 } [.ref (ad (hh_hI r i)), .int area, .int now] v (fun (v1 : hh_M) => v1 = hf_X1_tell v r i area now ∧ hh_T nm nh nc v1) := by
  refine hh_Kv_of (by decide) (Nat.le_of_ble_eq_true rfl) ?_
  intro p e s m args below meth c ls A C0 hp hl
  obtain ⟨hx, hb, hr9, hml, hown, hts, hK, hlk, hA⟩ := id C0
  have hnm := hT.1
  have hnh := hT.2.1
  have hnc := hT.2.2.1
  have hbHr := hnh r
  have hbCr := hnc r
  have hl : lv_has ls 3 [(0, .ref (ad (hh_hI r i))), (1, .int area), (2, .int now)] := hl
  refine lv_aload_n hx hb dX1_tell_0 rfl (lv_at hl 0 rfl) ?_
  refine lv_iload_n hx hb dX1_tell_1 rfl (lv_at hl 1 rfl) ?_
  refine hh_put C0 hp (C := RX1) (T := TX1) (N := 13) (ci := 1) (k := 7) (ty := .int) (hh_b_h hr hi) (hh_E_h r hi) (hh_ph7 r hi) rfl hh_uX1 tyX1_ok nmX1 (by decide) hm_36 rfl rfl (by decide +kernel) rfl rfl (Nat.le_of_ble_eq_true rfl) dX1_tell_2 (fun H locs hp => ?_)
  obtain ⟨v_2, ev_2⟩ : ∃ z : hh_M, z = hh_up v (hh_hI r i) 7 area := ⟨_, rfl⟩
  rw [← ev_2] at hp
  have hTv_2 : hh_T nm nh nc v_2 := by rw [ev_2]; exact hh_T_up hT (hh_Rt_h hr hi (by decide))
  refine lv_aload_n hx hb dX1_tell_5 rfl (lv_at hl 0 rfl) ?_
  refine lv_iload_n hx hb dX1_tell_6 rfl (lv_at hl 1 rfl) ?_
  refine hh_put C0 hp (C := RX1) (T := TX1) (N := 13) (ci := 1) (k := 8) (ty := .int) (hh_b_h hr hi) (hh_E_h r hi) (hh_ph8 r hi) rfl hh_uX1 tyX1_ok nmX1 (by decide) hm_37 rfl rfl (by decide +kernel) rfl rfl (Nat.le_of_ble_eq_true rfl) dX1_tell_7 (fun H locs hp => ?_)
  obtain ⟨v_7, ev_7⟩ : ∃ z : hh_M, z = hh_up v_2 (hh_hI r i) 8 area := ⟨_, rfl⟩
  rw [← ev_7] at hp
  have hTv_7 : hh_T nm nh nc v_7 := by rw [ev_7]; exact hh_T_up hTv_2 (hh_Rt_h hr hi (by decide))
  refine lv_aload_n hx hb dX1_tell_10 rfl (lv_at hl 0 rfl) ?_
  refine lv_iload_n hx hb dX1_tell_11 rfl (lv_at hl 2 rfl) ?_
  refine hh_put C0 hp (C := RX1) (T := TX1) (N := 13) (ci := 1) (k := 9) (ty := .int) (hh_b_h hr hi) (hh_E_h r hi) (hh_ph9 r hi) rfl hh_uX1 tyX1_ok nmX1 (by decide) hm_44 rfl rfl (by decide +kernel) rfl rfl (Nat.le_of_ble_eq_true rfl) dX1_tell_12 (fun H locs hp => ?_)
  obtain ⟨v_12, ev_12⟩ : ∃ z : hh_M, z = hh_up v_7 (hh_hI r i) 9 now := ⟨_, rfl⟩
  rw [← ev_12] at hp
  have hTv_12 : hh_T nm nh nc v_12 := by rw [ev_12]; exact hh_T_up hTv_7 (hh_Rt_h hr hi (by decide))
  refine lv_aload_n hx hb dX1_tell_15 rfl (lv_at hl 0 rfl) ?_
  refine lv_dup hx hb dX1_tell_16 rfl ?_
  refine hh_get C0 hp (C := RX1) (T := TX1) (N := 13) (ci := 1) (hh_b_h hr hi) (hh_E_h r hi) rfl hh_uX1 10 (by decide) hm_45 rfl rfl dX1_tell_17 ?_
  refine lv_iconst (v := 1) hx hb dX1_tell_20 (by decide) ?_
  refine lv_iadd hx hb dX1_tell_21 ?_
  refine hh_put C0 hp (C := RX1) (T := TX1) (N := 13) (ci := 1) (k := 10) (ty := .int) (hh_b_h hr hi) (hh_E_h r hi) (hh_ph10 r hi) rfl hh_uX1 tyX1_ok nmX1 (by decide) hm_45 rfl rfl (by decide +kernel) rfl rfl (Nat.le_of_ble_eq_true rfl) dX1_tell_22 (fun H locs hp => ?_)
  obtain ⟨v_22, ev_22⟩ : ∃ z : hh_M, z = hh_up v_12 (hh_hI r i) 10 ((v_12 (hh_hI r i) 10) + 1) := ⟨_, rfl⟩
  rw [← ev_22] at hp
  have hTv_22 : hh_T nm nh nc v_22 := by rw [ev_22]; exact hh_T_up hTv_12 (hh_Rt_h hr hi (by decide))
  exact hh_vret C0 hp dX1_tell_25 ⟨(by show _ = _; unfold hf_X1_tell; rw [hh_let_eq ev_2, hh_let_eq ev_7, hh_let_eq ev_12, hh_let_eq ev_22]), hTv_22⟩
def hf_X1_copyFrom (v : hh_M) (r : Nat) (i : Nat) (r2 : Nat) (i2 : Nat) : hh_M := (hh_let (hh_up v (hh_hI r i) 0 (v (hh_hI r2 i2) 0) : hh_M) (fun (v_5 : hh_M) => (hh_let (hh_up v_5 (hh_hI r i) 1 (v_5 (hh_hI r2 i2) 1) : hh_M) (fun (v_13 : hh_M) => (hh_let (hh_up v_13 (hh_hI r i) 2 (v_13 (hh_hI r2 i2) 2) : hh_M) (fun (v_21 : hh_M) => (hh_let (hh_up v_21 (hh_hI r i) 3 (v_21 (hh_hI r2 i2) 3) : hh_M) (fun (v_29 : hh_M) => (hh_let (hh_up v_29 (hh_hI r i) 4 (v_29 (hh_hI r2 i2) 4) : hh_M) (fun (v_37 : hh_M) => (hh_let (hh_up v_37 (hh_hI r i) 5 (v_37 (hh_hI r2 i2) 5) : hh_M) (fun (v_45 : hh_M) => (hh_let (hh_up v_45 (hh_hI r i) 6 (v_45 (hh_hI r2 i2) 6) : hh_M) (fun (v_53 : hh_M) => (hh_let (hh_up v_53 (hh_hI r i) 7 (v_53 (hh_hI r2 i2) 7) : hh_M) (fun (v_61 : hh_M) => (hh_let (hh_up v_61 (hh_hI r i) 8 (v_61 (hh_hI r2 i2) 8) : hh_M) (fun (v_69 : hh_M) => (hh_let (hh_up v_69 (hh_hI r i) 9 (v_69 (hh_hI r2 i2) 9) : hh_M) (fun (v_77 : hh_M) => (hh_let (hh_up v_77 (hh_hI r i) 10 (v_77 (hh_hI r2 i2) 10) : hh_M) (fun (v_85 : hh_M) => (hh_let (hh_up v_85 (hh_hI r i) 11 (v_85 (hh_hI r2 i2) 11) : hh_M) (fun (v_93 : hh_M) => (hh_let (hh_up v_93 (hh_hI r i) 12 (v_93 (hh_hI r2 i2) 12) : hh_M) (fun (v_101 : hh_M) => v_101))))))))))))))))))))))))))
set_option maxHeartbeats 4000000 in
set_option maxRecDepth 100000 in
theorem hk_X1_copyFrom (l : Launch) (D : va_G) (K : Nat → ClassId) (ad : Nat → Nat) {nm : Nat} {nh nc : Nat → Nat} {v : hh_M} (hT : hh_T nm nh nc v) (r : Nat) (i : Nat) (r2 : Nat) (i2 : Nat) (hr : r < 2) (hi : i < 8) (hr2 : r2 < 2) (hi2 : i2 < 8) : hh_Kv l D K ad yX1_copyFrom (hh_wm yX1_copyFrom cX1_copyFrom 2 none) { frames := 0, cells := 0, slots := 0, locals := 0 } [.ref (ad (hh_hI r i)), .ref (ad (hh_hI r2 i2))] v (fun (v1 : hh_M) => v1 = hf_X1_copyFrom v r i r2 i2 ∧ hh_T nm nh nc v1) := by
  refine hh_Kv_of (by decide) (Nat.le_of_ble_eq_true rfl) ?_
  intro p e s m args below meth c ls A C0 hp hl
  obtain ⟨hx, hb, hr9, hml, hown, hts, hK, hlk, hA⟩ := id C0
  have hnm := hT.1
  have hnh := hT.2.1
  have hnc := hT.2.2.1
  have hbHr := hnh r
  have hbCr := hnc r
  have hbHr2 := hnh r2
  have hbCr2 := hnc r2
  have hl : lv_has ls 2 [(0, .ref (ad (hh_hI r i))), (1, .ref (ad (hh_hI r2 i2)))] := hl
  refine lv_aload_n hx hb dX1_copyFrom_0 rfl (lv_at hl 0 rfl) ?_
  refine lv_aload_n hx hb dX1_copyFrom_1 rfl (lv_at hl 1 rfl) ?_
  refine hh_get C0 hp (C := RX1) (T := TX1) (N := 13) (ci := 1) (hh_b_h hr2 hi2) (hh_E_h r2 hi2) rfl hh_uX1 0 (by decide) hm_47 rfl rfl dX1_copyFrom_2 ?_
  refine hh_put C0 hp (C := RX1) (T := TX1) (N := 13) (ci := 1) (k := 0) (ty := .int) (hh_b_h hr hi) (hh_E_h r hi) (hh_ph0 r hi) rfl hh_uX1 tyX1_ok nmX1 (by decide) hm_47 rfl rfl (by decide +kernel) rfl rfl (Nat.le_of_ble_eq_true rfl) dX1_copyFrom_5 (fun H locs hp => ?_)
  obtain ⟨v_5, ev_5⟩ : ∃ z : hh_M, z = hh_up v (hh_hI r i) 0 (v (hh_hI r2 i2) 0) := ⟨_, rfl⟩
  rw [← ev_5] at hp
  have hTv_5 : hh_T nm nh nc v_5 := by rw [ev_5]; exact hh_T_up hT (hh_Rt_h hr hi (by decide))
  refine lv_aload_n hx hb dX1_copyFrom_8 rfl (lv_at hl 0 rfl) ?_
  refine lv_aload_n hx hb dX1_copyFrom_9 rfl (lv_at hl 1 rfl) ?_
  refine hh_get C0 hp (C := RX1) (T := TX1) (N := 13) (ci := 1) (hh_b_h hr2 hi2) (hh_E_h r2 hi2) rfl hh_uX1 1 (by decide) hm_41 rfl rfl dX1_copyFrom_10 ?_
  refine hh_put C0 hp (C := RX1) (T := TX1) (N := 13) (ci := 1) (k := 1) (ty := .int) (hh_b_h hr hi) (hh_E_h r hi) (hh_ph1 r hi) rfl hh_uX1 tyX1_ok nmX1 (by decide) hm_41 rfl rfl (by decide +kernel) rfl rfl (Nat.le_of_ble_eq_true rfl) dX1_copyFrom_13 (fun H locs hp => ?_)
  obtain ⟨v_13, ev_13⟩ : ∃ z : hh_M, z = hh_up v_5 (hh_hI r i) 1 (v_5 (hh_hI r2 i2) 1) := ⟨_, rfl⟩
  rw [← ev_13] at hp
  have hTv_13 : hh_T nm nh nc v_13 := by rw [ev_13]; exact hh_T_up hTv_5 (hh_R_h1 hr hi (hh_T_h1 hTv_5 r2 hi2))
  refine lv_aload_n hx hb dX1_copyFrom_16 rfl (lv_at hl 0 rfl) ?_
  refine lv_aload_n hx hb dX1_copyFrom_17 rfl (lv_at hl 1 rfl) ?_
  refine hh_get C0 hp (C := RX1) (T := TX1) (N := 13) (ci := 1) (hh_b_h hr2 hi2) (hh_E_h r2 hi2) rfl hh_uX1 2 (by decide) hm_42 rfl rfl dX1_copyFrom_18 ?_
  refine hh_put C0 hp (C := RX1) (T := TX1) (N := 13) (ci := 1) (k := 2) (ty := .int) (hh_b_h hr hi) (hh_E_h r hi) (hh_ph2 r hi) rfl hh_uX1 tyX1_ok nmX1 (by decide) hm_42 rfl rfl (by decide +kernel) rfl rfl (Nat.le_of_ble_eq_true rfl) dX1_copyFrom_21 (fun H locs hp => ?_)
  obtain ⟨v_21, ev_21⟩ : ∃ z : hh_M, z = hh_up v_13 (hh_hI r i) 2 (v_13 (hh_hI r2 i2) 2) := ⟨_, rfl⟩
  rw [← ev_21] at hp
  have hTv_21 : hh_T nm nh nc v_21 := by rw [ev_21]; exact hh_T_up hTv_13 (hh_R_h2 hr hi (hh_T_h2 hTv_13 r2 hi2))
  refine lv_aload_n hx hb dX1_copyFrom_24 rfl (lv_at hl 0 rfl) ?_
  refine lv_aload_n hx hb dX1_copyFrom_25 rfl (lv_at hl 1 rfl) ?_
  refine hh_get C0 hp (C := RX1) (T := TX1) (N := 13) (ci := 1) (hh_b_h hr2 hi2) (hh_E_h r2 hi2) rfl hh_uX1 3 (by decide) hm_48 rfl rfl dX1_copyFrom_26 ?_
  refine hh_put C0 hp (C := RX1) (T := TX1) (N := 13) (ci := 1) (k := 3) (ty := .int) (hh_b_h hr hi) (hh_E_h r hi) (hh_ph3 r hi) rfl hh_uX1 tyX1_ok nmX1 (by decide) hm_48 rfl rfl (by decide +kernel) rfl rfl (Nat.le_of_ble_eq_true rfl) dX1_copyFrom_29 (fun H locs hp => ?_)
  obtain ⟨v_29, ev_29⟩ : ∃ z : hh_M, z = hh_up v_21 (hh_hI r i) 3 (v_21 (hh_hI r2 i2) 3) := ⟨_, rfl⟩
  rw [← ev_29] at hp
  have hTv_29 : hh_T nm nh nc v_29 := by rw [ev_29]; exact hh_T_up hTv_21 (hh_Rt_h hr hi (by decide))
  refine lv_aload_n hx hb dX1_copyFrom_32 rfl (lv_at hl 0 rfl) ?_
  refine lv_aload_n hx hb dX1_copyFrom_33 rfl (lv_at hl 1 rfl) ?_
  refine hh_get C0 hp (C := RX1) (T := TX1) (N := 13) (ci := 1) (hh_b_h hr2 hi2) (hh_E_h r2 hi2) rfl hh_uX1 4 (by decide) hm_39 rfl rfl dX1_copyFrom_34 ?_
  refine hh_put C0 hp (C := RX1) (T := TX1) (N := 13) (ci := 1) (k := 4) (ty := .boolean) (hh_b_h hr hi) (hh_E_h r hi) (hh_ph4 r hi) rfl hh_uX1 tyX1_ok nmX1 (by decide) hm_39 rfl rfl (by decide +kernel) (hh_nz (hh_T_h4 hTv_29 r2 hi2)) (hh_fz (hh_T_h4 hTv_29 r2 hi2)) (Nat.le_of_ble_eq_true rfl) dX1_copyFrom_37 (fun H locs hp => ?_)
  obtain ⟨v_37, ev_37⟩ : ∃ z : hh_M, z = hh_up v_29 (hh_hI r i) 4 (v_29 (hh_hI r2 i2) 4) := ⟨_, rfl⟩
  rw [← ev_37] at hp
  have hTv_37 : hh_T nm nh nc v_37 := by rw [ev_37]; exact hh_T_up hTv_29 (hh_R_h4 hr hi (hh_T_h4 hTv_29 r2 hi2))
  refine lv_aload_n hx hb dX1_copyFrom_40 rfl (lv_at hl 0 rfl) ?_
  refine lv_aload_n hx hb dX1_copyFrom_41 rfl (lv_at hl 1 rfl) ?_
  refine hh_get C0 hp (C := RX1) (T := TX1) (N := 13) (ci := 1) (hh_b_h hr2 hi2) (hh_E_h r2 hi2) rfl hh_uX1 5 (by decide) hm_34 rfl rfl dX1_copyFrom_42 ?_
  refine hh_put C0 hp (C := RX1) (T := TX1) (N := 13) (ci := 1) (k := 5) (ty := .int) (hh_b_h hr hi) (hh_E_h r hi) (hh_ph5 r hi) rfl hh_uX1 tyX1_ok nmX1 (by decide) hm_34 rfl rfl (by decide +kernel) rfl rfl (Nat.le_of_ble_eq_true rfl) dX1_copyFrom_45 (fun H locs hp => ?_)
  obtain ⟨v_45, ev_45⟩ : ∃ z : hh_M, z = hh_up v_37 (hh_hI r i) 5 (v_37 (hh_hI r2 i2) 5) := ⟨_, rfl⟩
  rw [← ev_45] at hp
  have hTv_45 : hh_T nm nh nc v_45 := by rw [ev_45]; exact hh_T_up hTv_37 (hh_R_h5 hr hi (hh_T_h5 hTv_37 r2 hi2))
  refine lv_aload_n hx hb dX1_copyFrom_48 rfl (lv_at hl 0 rfl) ?_
  refine lv_aload_n hx hb dX1_copyFrom_49 rfl (lv_at hl 1 rfl) ?_
  refine hh_get C0 hp (C := RX1) (T := TX1) (N := 13) (ci := 1) (hh_b_h hr2 hi2) (hh_E_h r2 hi2) rfl hh_uX1 6 (by decide) hm_35 rfl rfl dX1_copyFrom_50 ?_
  refine hh_put C0 hp (C := RX1) (T := TX1) (N := 13) (ci := 1) (k := 6) (ty := .int) (hh_b_h hr hi) (hh_E_h r hi) (hh_ph6 r hi) rfl hh_uX1 tyX1_ok nmX1 (by decide) hm_35 rfl rfl (by decide +kernel) rfl rfl (Nat.le_of_ble_eq_true rfl) dX1_copyFrom_53 (fun H locs hp => ?_)
  obtain ⟨v_53, ev_53⟩ : ∃ z : hh_M, z = hh_up v_45 (hh_hI r i) 6 (v_45 (hh_hI r2 i2) 6) := ⟨_, rfl⟩
  rw [← ev_53] at hp
  have hTv_53 : hh_T nm nh nc v_53 := by rw [ev_53]; exact hh_T_up hTv_45 (hh_R_h6 hr hi (hh_T_h6 hTv_45 r2 hi2))
  refine lv_aload_n hx hb dX1_copyFrom_56 rfl (lv_at hl 0 rfl) ?_
  refine lv_aload_n hx hb dX1_copyFrom_57 rfl (lv_at hl 1 rfl) ?_
  refine hh_get C0 hp (C := RX1) (T := TX1) (N := 13) (ci := 1) (hh_b_h hr2 hi2) (hh_E_h r2 hi2) rfl hh_uX1 7 (by decide) hm_36 rfl rfl dX1_copyFrom_58 ?_
  refine hh_put C0 hp (C := RX1) (T := TX1) (N := 13) (ci := 1) (k := 7) (ty := .int) (hh_b_h hr hi) (hh_E_h r hi) (hh_ph7 r hi) rfl hh_uX1 tyX1_ok nmX1 (by decide) hm_36 rfl rfl (by decide +kernel) rfl rfl (Nat.le_of_ble_eq_true rfl) dX1_copyFrom_61 (fun H locs hp => ?_)
  obtain ⟨v_61, ev_61⟩ : ∃ z : hh_M, z = hh_up v_53 (hh_hI r i) 7 (v_53 (hh_hI r2 i2) 7) := ⟨_, rfl⟩
  rw [← ev_61] at hp
  have hTv_61 : hh_T nm nh nc v_61 := by rw [ev_61]; exact hh_T_up hTv_53 (hh_Rt_h hr hi (by decide))
  refine lv_aload_n hx hb dX1_copyFrom_64 rfl (lv_at hl 0 rfl) ?_
  refine lv_aload_n hx hb dX1_copyFrom_65 rfl (lv_at hl 1 rfl) ?_
  refine hh_get C0 hp (C := RX1) (T := TX1) (N := 13) (ci := 1) (hh_b_h hr2 hi2) (hh_E_h r2 hi2) rfl hh_uX1 8 (by decide) hm_37 rfl rfl dX1_copyFrom_66 ?_
  refine hh_put C0 hp (C := RX1) (T := TX1) (N := 13) (ci := 1) (k := 8) (ty := .int) (hh_b_h hr hi) (hh_E_h r hi) (hh_ph8 r hi) rfl hh_uX1 tyX1_ok nmX1 (by decide) hm_37 rfl rfl (by decide +kernel) rfl rfl (Nat.le_of_ble_eq_true rfl) dX1_copyFrom_69 (fun H locs hp => ?_)
  obtain ⟨v_69, ev_69⟩ : ∃ z : hh_M, z = hh_up v_61 (hh_hI r i) 8 (v_61 (hh_hI r2 i2) 8) := ⟨_, rfl⟩
  rw [← ev_69] at hp
  have hTv_69 : hh_T nm nh nc v_69 := by rw [ev_69]; exact hh_T_up hTv_61 (hh_Rt_h hr hi (by decide))
  refine lv_aload_n hx hb dX1_copyFrom_72 rfl (lv_at hl 0 rfl) ?_
  refine lv_aload_n hx hb dX1_copyFrom_73 rfl (lv_at hl 1 rfl) ?_
  refine hh_get C0 hp (C := RX1) (T := TX1) (N := 13) (ci := 1) (hh_b_h hr2 hi2) (hh_E_h r2 hi2) rfl hh_uX1 9 (by decide) hm_44 rfl rfl dX1_copyFrom_74 ?_
  refine hh_put C0 hp (C := RX1) (T := TX1) (N := 13) (ci := 1) (k := 9) (ty := .int) (hh_b_h hr hi) (hh_E_h r hi) (hh_ph9 r hi) rfl hh_uX1 tyX1_ok nmX1 (by decide) hm_44 rfl rfl (by decide +kernel) rfl rfl (Nat.le_of_ble_eq_true rfl) dX1_copyFrom_77 (fun H locs hp => ?_)
  obtain ⟨v_77, ev_77⟩ : ∃ z : hh_M, z = hh_up v_69 (hh_hI r i) 9 (v_69 (hh_hI r2 i2) 9) := ⟨_, rfl⟩
  rw [← ev_77] at hp
  have hTv_77 : hh_T nm nh nc v_77 := by rw [ev_77]; exact hh_T_up hTv_69 (hh_Rt_h hr hi (by decide))
  refine lv_aload_n hx hb dX1_copyFrom_80 rfl (lv_at hl 0 rfl) ?_
  refine lv_aload_n hx hb dX1_copyFrom_81 rfl (lv_at hl 1 rfl) ?_
  refine hh_get C0 hp (C := RX1) (T := TX1) (N := 13) (ci := 1) (hh_b_h hr2 hi2) (hh_E_h r2 hi2) rfl hh_uX1 10 (by decide) hm_45 rfl rfl dX1_copyFrom_82 ?_
  refine hh_put C0 hp (C := RX1) (T := TX1) (N := 13) (ci := 1) (k := 10) (ty := .int) (hh_b_h hr hi) (hh_E_h r hi) (hh_ph10 r hi) rfl hh_uX1 tyX1_ok nmX1 (by decide) hm_45 rfl rfl (by decide +kernel) rfl rfl (Nat.le_of_ble_eq_true rfl) dX1_copyFrom_85 (fun H locs hp => ?_)
  obtain ⟨v_85, ev_85⟩ : ∃ z : hh_M, z = hh_up v_77 (hh_hI r i) 10 (v_77 (hh_hI r2 i2) 10) := ⟨_, rfl⟩
  rw [← ev_85] at hp
  have hTv_85 : hh_T nm nh nc v_85 := by rw [ev_85]; exact hh_T_up hTv_77 (hh_Rt_h hr hi (by decide))
  refine lv_aload_n hx hb dX1_copyFrom_88 rfl (lv_at hl 0 rfl) ?_
  refine lv_aload_n hx hb dX1_copyFrom_89 rfl (lv_at hl 1 rfl) ?_
  refine hh_get C0 hp (C := RX1) (T := TX1) (N := 13) (ci := 1) (hh_b_h hr2 hi2) (hh_E_h r2 hi2) rfl hh_uX1 11 (by decide) hm_49 rfl rfl dX1_copyFrom_90 ?_
  refine hh_put C0 hp (C := RX1) (T := TX1) (N := 13) (ci := 1) (k := 11) (ty := .int) (hh_b_h hr hi) (hh_E_h r hi) (hh_ph11 r hi) rfl hh_uX1 tyX1_ok nmX1 (by decide) hm_49 rfl rfl (by decide +kernel) rfl rfl (Nat.le_of_ble_eq_true rfl) dX1_copyFrom_93 (fun H locs hp => ?_)
  obtain ⟨v_93, ev_93⟩ : ∃ z : hh_M, z = hh_up v_85 (hh_hI r i) 11 (v_85 (hh_hI r2 i2) 11) := ⟨_, rfl⟩
  rw [← ev_93] at hp
  have hTv_93 : hh_T nm nh nc v_93 := by rw [ev_93]; exact hh_T_up hTv_85 (hh_Rt_h hr hi (by decide))
  refine lv_aload_n hx hb dX1_copyFrom_96 rfl (lv_at hl 0 rfl) ?_
  refine lv_aload_n hx hb dX1_copyFrom_97 rfl (lv_at hl 1 rfl) ?_
  refine hh_get C0 hp (C := RX1) (T := TX1) (N := 13) (ci := 1) (hh_b_h hr2 hi2) (hh_E_h r2 hi2) rfl hh_uX1 12 (by decide) hm_50 rfl rfl dX1_copyFrom_98 ?_
  refine hh_put C0 hp (C := RX1) (T := TX1) (N := 13) (ci := 1) (k := 12) (ty := .int) (hh_b_h hr hi) (hh_E_h r hi) (hh_ph12 r hi) rfl hh_uX1 tyX1_ok nmX1 (by decide) hm_50 rfl rfl (by decide +kernel) rfl rfl (Nat.le_of_ble_eq_true rfl) dX1_copyFrom_101 (fun H locs hp => ?_)
  obtain ⟨v_101, ev_101⟩ : ∃ z : hh_M, z = hh_up v_93 (hh_hI r i) 12 (v_93 (hh_hI r2 i2) 12) := ⟨_, rfl⟩
  rw [← ev_101] at hp
  have hTv_101 : hh_T nm nh nc v_101 := by rw [ev_101]; exact hh_T_up hTv_93 (hh_Rt_h hr hi (by decide))
  exact hh_vret C0 hp dX1_copyFrom_104 ⟨(by show _ = _; unfold hf_X1_copyFrom; rw [hh_let_eq ev_5, hh_let_eq ev_13, hh_let_eq ev_21, hh_let_eq ev_29, hh_let_eq ev_37, hh_let_eq ev_45, hh_let_eq ev_53, hh_let_eq ev_61, hh_let_eq ev_69, hh_let_eq ev_77, hh_let_eq ev_85, hh_let_eq ev_93, hh_let_eq ev_101]), hTv_101⟩
def hf_X2_copyFrom (v : hh_M) (r : Nat) (i : Nat) (g : Nat) (r2 : Nat) (i2 : Nat) (g2 : Nat) : hh_M := (hh_let (hh_up v (hh_gI r i g) 0 (v (hh_gI r2 i2 g2) 0) : hh_M) (fun (v_5 : hh_M) => (hh_let (hh_up v_5 (hh_gI r i g) 1 (v_5 (hh_gI r2 i2 g2) 1) : hh_M) (fun (v_13 : hh_M) => (hh_let (hh_up v_13 (hh_gI r i g) 2 (v_13 (hh_gI r2 i2 g2) 2) : hh_M) (fun (v_21 : hh_M) => (hh_let (hh_up v_21 (hh_gI r i g) 3 (v_21 (hh_gI r2 i2 g2) 3) : hh_M) (fun (v_29 : hh_M) => (hh_let (hh_up v_29 (hh_gI r i g) 4 (v_29 (hh_gI r2 i2 g2) 4) : hh_M) (fun (v_37 : hh_M) => (hh_let (hh_up v_37 (hh_gI r i g) 5 (v_37 (hh_gI r2 i2 g2) 5) : hh_M) (fun (v_45 : hh_M) => v_45))))))))))))
set_option maxHeartbeats 4000000 in
set_option maxRecDepth 100000 in
theorem hk_X2_copyFrom (l : Launch) (D : va_G) (K : Nat → ClassId) (ad : Nat → Nat) {nm : Nat} {nh nc : Nat → Nat} {v : hh_M} (hT : hh_T nm nh nc v) (r : Nat) (i : Nat) (g : Nat) (r2 : Nat) (i2 : Nat) (g2 : Nat) (hr : r < 2) (hi : i < 24) (hg : g < 2) (hr2 : r2 < 2) (hi2 : i2 < 24) (hg2 : g2 < 2) : hh_Kv l D K ad yX2_copyFrom (hh_wm yX2_copyFrom cX2_copyFrom 2 none) { frames := 0, cells := 0, slots := 0, locals := 0 } [.ref (ad (hh_gI r i g)), .ref (ad (hh_gI r2 i2 g2))] v (fun (v1 : hh_M) => v1 = hf_X2_copyFrom v r i g r2 i2 g2 ∧ hh_T nm nh nc v1) := by
  refine hh_Kv_of (by decide) (Nat.le_of_ble_eq_true rfl) ?_
  intro p e s m args below meth c ls A C0 hp hl
  obtain ⟨hx, hb, hr9, hml, hown, hts, hK, hlk, hA⟩ := id C0
  have hnm := hT.1
  have hnh := hT.2.1
  have hnc := hT.2.2.1
  have hbHr := hnh r
  have hbCr := hnc r
  have hbHr2 := hnh r2
  have hbCr2 := hnc r2
  have hl : lv_has ls 2 [(0, .ref (ad (hh_gI r i g))), (1, .ref (ad (hh_gI r2 i2 g2)))] := hl
  refine lv_aload_n hx hb dX2_copyFrom_0 rfl (lv_at hl 0 rfl) ?_
  refine lv_aload_n hx hb dX2_copyFrom_1 rfl (lv_at hl 1 rfl) ?_
  refine hh_get C0 hp (C := RX2) (T := TX2) (N := 6) (ci := 2) (hh_b_g hr2 hi2 hg2) (hh_E_g r2 hi2 hg2) rfl hh_uX2 0 (by decide) hm_13 rfl rfl dX2_copyFrom_2 ?_
  refine hh_put C0 hp (C := RX2) (T := TX2) (N := 6) (ci := 2) (k := 0) (ty := .int) (hh_b_g hr hi hg) (hh_E_g r hi hg) (hh_pg0 r hi hg) rfl hh_uX2 tyX2_ok nmX2 (by decide) hm_13 rfl rfl (by decide +kernel) rfl rfl (Nat.le_of_ble_eq_true rfl) dX2_copyFrom_5 (fun H locs hp => ?_)
  obtain ⟨v_5, ev_5⟩ : ∃ z : hh_M, z = hh_up v (hh_gI r i g) 0 (v (hh_gI r2 i2 g2) 0) := ⟨_, rfl⟩
  rw [← ev_5] at hp
  have hTv_5 : hh_T nm nh nc v_5 := by rw [ev_5]; exact hh_T_up hT (hh_R_g0 hr hi hg (hh_T_g0 hT r2 hi2 hg2))
  refine lv_aload_n hx hb dX2_copyFrom_8 rfl (lv_at hl 0 rfl) ?_
  refine lv_aload_n hx hb dX2_copyFrom_9 rfl (lv_at hl 1 rfl) ?_
  refine hh_get C0 hp (C := RX2) (T := TX2) (N := 6) (ci := 2) (hh_b_g hr2 hi2 hg2) (hh_E_g r2 hi2 hg2) rfl hh_uX2 1 (by decide) hm_14 rfl rfl dX2_copyFrom_10 ?_
  refine hh_put C0 hp (C := RX2) (T := TX2) (N := 6) (ci := 2) (k := 1) (ty := .int) (hh_b_g hr hi hg) (hh_E_g r hi hg) (hh_pg1 r hi hg) rfl hh_uX2 tyX2_ok nmX2 (by decide) hm_14 rfl rfl (by decide +kernel) rfl rfl (Nat.le_of_ble_eq_true rfl) dX2_copyFrom_13 (fun H locs hp => ?_)
  obtain ⟨v_13, ev_13⟩ : ∃ z : hh_M, z = hh_up v_5 (hh_gI r i g) 1 (v_5 (hh_gI r2 i2 g2) 1) := ⟨_, rfl⟩
  rw [← ev_13] at hp
  have hTv_13 : hh_T nm nh nc v_13 := by rw [ev_13]; exact hh_T_up hTv_5 (hh_R_g1 hr hi hg (hh_T_g1 hTv_5 r2 hi2 hg2))
  refine lv_aload_n hx hb dX2_copyFrom_16 rfl (lv_at hl 0 rfl) ?_
  refine lv_aload_n hx hb dX2_copyFrom_17 rfl (lv_at hl 1 rfl) ?_
  refine hh_get C0 hp (C := RX2) (T := TX2) (N := 6) (ci := 2) (hh_b_g hr2 hi2 hg2) (hh_E_g r2 hi2 hg2) rfl hh_uX2 2 (by decide) hm_27 rfl rfl dX2_copyFrom_18 ?_
  refine hh_put C0 hp (C := RX2) (T := TX2) (N := 6) (ci := 2) (k := 2) (ty := .int) (hh_b_g hr hi hg) (hh_E_g r hi hg) (hh_pg2 r hi hg) rfl hh_uX2 tyX2_ok nmX2 (by decide) hm_27 rfl rfl (by decide +kernel) rfl rfl (Nat.le_of_ble_eq_true rfl) dX2_copyFrom_21 (fun H locs hp => ?_)
  obtain ⟨v_21, ev_21⟩ : ∃ z : hh_M, z = hh_up v_13 (hh_gI r i g) 2 (v_13 (hh_gI r2 i2 g2) 2) := ⟨_, rfl⟩
  rw [← ev_21] at hp
  have hTv_21 : hh_T nm nh nc v_21 := by rw [ev_21]; exact hh_T_up hTv_13 (hh_Rt_g hr hi hg (by decide))
  refine lv_aload_n hx hb dX2_copyFrom_24 rfl (lv_at hl 0 rfl) ?_
  refine lv_aload_n hx hb dX2_copyFrom_25 rfl (lv_at hl 1 rfl) ?_
  refine hh_get C0 hp (C := RX2) (T := TX2) (N := 6) (ci := 2) (hh_b_g hr2 hi2 hg2) (hh_E_g r2 hi2 hg2) rfl hh_uX2 3 (by decide) hm_28 rfl rfl dX2_copyFrom_26 ?_
  refine hh_put C0 hp (C := RX2) (T := TX2) (N := 6) (ci := 2) (k := 3) (ty := .int) (hh_b_g hr hi hg) (hh_E_g r hi hg) (hh_pg3 r hi hg) rfl hh_uX2 tyX2_ok nmX2 (by decide) hm_28 rfl rfl (by decide +kernel) rfl rfl (Nat.le_of_ble_eq_true rfl) dX2_copyFrom_29 (fun H locs hp => ?_)
  obtain ⟨v_29, ev_29⟩ : ∃ z : hh_M, z = hh_up v_21 (hh_gI r i g) 3 (v_21 (hh_gI r2 i2 g2) 3) := ⟨_, rfl⟩
  rw [← ev_29] at hp
  have hTv_29 : hh_T nm nh nc v_29 := by rw [ev_29]; exact hh_T_up hTv_21 (hh_Rt_g hr hi hg (by decide))
  refine lv_aload_n hx hb dX2_copyFrom_32 rfl (lv_at hl 0 rfl) ?_
  refine lv_aload_n hx hb dX2_copyFrom_33 rfl (lv_at hl 1 rfl) ?_
  refine hh_get C0 hp (C := RX2) (T := TX2) (N := 6) (ci := 2) (hh_b_g hr2 hi2 hg2) (hh_E_g r2 hi2 hg2) rfl hh_uX2 4 (by decide) hm_15 rfl rfl dX2_copyFrom_34 ?_
  refine hh_put C0 hp (C := RX2) (T := TX2) (N := 6) (ci := 2) (k := 4) (ty := .int) (hh_b_g hr hi hg) (hh_E_g r hi hg) (hh_pg4 r hi hg) rfl hh_uX2 tyX2_ok nmX2 (by decide) hm_15 rfl rfl (by decide +kernel) rfl rfl (Nat.le_of_ble_eq_true rfl) dX2_copyFrom_37 (fun H locs hp => ?_)
  obtain ⟨v_37, ev_37⟩ : ∃ z : hh_M, z = hh_up v_29 (hh_gI r i g) 4 (v_29 (hh_gI r2 i2 g2) 4) := ⟨_, rfl⟩
  rw [← ev_37] at hp
  have hTv_37 : hh_T nm nh nc v_37 := by rw [ev_37]; exact hh_T_up hTv_29 (hh_Rt_g hr hi hg (by decide))
  refine lv_aload_n hx hb dX2_copyFrom_40 rfl (lv_at hl 0 rfl) ?_
  refine lv_aload_n hx hb dX2_copyFrom_41 rfl (lv_at hl 1 rfl) ?_
  refine hh_get C0 hp (C := RX2) (T := TX2) (N := 6) (ci := 2) (hh_b_g hr2 hi2 hg2) (hh_E_g r2 hi2 hg2) rfl hh_uX2 5 (by decide) hm_29 rfl rfl dX2_copyFrom_42 ?_
  refine hh_put C0 hp (C := RX2) (T := TX2) (N := 6) (ci := 2) (k := 5) (ty := .int) (hh_b_g hr hi hg) (hh_E_g r hi hg) (hh_pg5 r hi hg) rfl hh_uX2 tyX2_ok nmX2 (by decide) hm_29 rfl rfl (by decide +kernel) rfl rfl (Nat.le_of_ble_eq_true rfl) dX2_copyFrom_45 (fun H locs hp => ?_)
  obtain ⟨v_45, ev_45⟩ : ∃ z : hh_M, z = hh_up v_37 (hh_gI r i g) 5 (v_37 (hh_gI r2 i2 g2) 5) := ⟨_, rfl⟩
  rw [← ev_45] at hp
  have hTv_45 : hh_T nm nh nc v_45 := by rw [ev_45]; exact hh_T_up hTv_37 (hh_Rt_g hr hi hg (by decide))
  exact hh_vret C0 hp dX2_copyFrom_48 ⟨(by show _ = _; unfold hf_X2_copyFrom; rw [hh_let_eq ev_5, hh_let_eq ev_13, hh_let_eq ev_21, hh_let_eq ev_29, hh_let_eq ev_37, hh_let_eq ev_45]), hTv_45⟩
def hl_X4_measureOne_32 (v : hh_M) (number : Int32) (place : Int32) (i : Nat) (a32_4 : Int32) : Int32 := (if (nI i) = number then a32_4 else (if (v (hh_mI i) 2) = (v (hh_mI number.toNatClampNeg) 2) then (hh_let (hf_X3_noiseAt v i place : Int32) (fun (q_74 : Int32) => (hh_let ((a32_4 - q_74) : Int32) (fun (x_78 : Int32) => x_78)))) else a32_4))
def hf_X4_measureOne (v : hh_M) (number : Int32) (place : Int32) : Int32 := (if (v (hh_mI number.toNatClampNeg) 6) = 0 then (-99) else (hh_let (hf_X3_distanceTo v number.toNatClampNeg place : Int32) (fun (q_23 : Int32) => (hh_let (((v (hh_mI number.toNatClampNeg) 1) - q_23) : Int32) (fun (x_27 : Int32) => (hh_let (hh_fld (fun (i9 : Nat) (z : Int32) => hl_X4_measureOne_32 v number place i9 z) ((v 1 2).toNatClampNeg) x_27 : Int32) (fun (a32_4 : Int32) => a32_4)))))))
set_option maxHeartbeats 4000000 in
set_option maxRecDepth 100000 in
theorem hk_X4_measureOne (l : Launch) (D : va_G) (K : Nat → ClassId) (ad : Nat → Nat) {nm : Nat} {nh nc : Nat → Nat} {v : hh_M} (hT : hh_T nm nh nc v) (number : Int32) (place : Int32) (h1 : vp_in number 6) : hh_Ki l D K ad yX4_measureOne (hh_wm yX4_measureOne cX4_measureOne 6 (some .int)) { frames := 2, cells := 0, slots := 0, locals := 43 } [.ref (ad 1), .int number, .int place] v (fun (q : Int32) (v1 : hh_M) => q = hf_X4_measureOne v number place ∧ v1 = v) := by
  refine hh_Ki_of (by decide) (Nat.le_of_ble_eq_true rfl) ?_
  intro p e s m args below meth c ls A C0 hp hl
  obtain ⟨hx, hb, hr9, hml, hown, hts, hK, hlk, hA⟩ := id C0
  have hnm := hT.1
  have hnh := hT.2.1
  have hnc := hT.2.2.1
  have hl : lv_has ls 6 [(0, .ref (ad 1)), (1, .int number), (2, .int place)] := hl
  refine lv_aload_n hx hb dX4_measureOne_0 rfl (lv_at hl 0 rfl) ?_
  refine hh_get C0 hp (C := RX4) (T := TX4) (N := 3) (ci := 4) (by decide) hh_E_1 rfl hh_uX4 0 (by decide) hm_72 rfl rfl dX4_measureOne_1 ?_
  refine lv_iload_n hx hb dX4_measureOne_4 rfl (lv_at hl 1 rfl) ?_
  have hin_5 : vp_in number 6 := by assumption
  refine hh_aal C0 hp (t0 := 2) (f := hh_mI) (by decide) hh_E_2 rfl rfl hin_5 rfl dX4_measureOne_5 ?_
  refine lv_astore_n (lv' := [(3, .ref (ad (hh_mI number.toNatClampNeg))), (0, .ref (ad 1)), (1, .int number), (2, .int place)]) hx hb dX4_measureOne_6 rfl hl (by decide) rfl (fun ls hl => ?_)
  refine lv_aload_n hx hb dX4_measureOne_7 rfl (lv_at hl 0 rfl) ?_
  refine hh_get C0 hp (C := RX3) (T := TX3) (N := 7) (ci := 3) (hh_b_m (hh_lt hin_5)) (hh_E_m (hh_lt hin_5)) rfl hh_uX3 6 (by decide) hm_85 rfl rfl dX4_measureOne_8 ?_
  refine lv_if_ne (tgt := 17) hx hb dX4_measureOne_11 (by decide) (fun c_11 => ?_) (fun c_11 => ?_)
  · refine lv_aload_n hx hb dX4_measureOne_17 rfl (lv_at hl 0 rfl) ?_
    refine hh_get C0 hp (C := RX3) (T := TX3) (N := 7) (ci := 3) (hh_b_m (hh_lt hin_5)) (hh_E_m (hh_lt hin_5)) rfl hh_uX3 1 (by decide) hm_86 rfl rfl dX4_measureOne_18 ?_
    refine lv_aload_n hx hb dX4_measureOne_21 rfl (lv_at hl 0 rfl) ?_
    refine lv_iload_n hx hb dX4_measureOne_22 rfl (lv_at hl 3 rfl) ?_
    refine hh_cVi C0 hp (As := [.int place]) (rest := [.int (v (hh_mI number.toNatClampNeg) 1)]) (C := RX3) (T := TX3) (N := 7) (ci := 3) (n := 1) (hk_X3_distanceTo l D K ad hT number.toNatClampNeg place (hh_lt hin_5)) rfl (hh_b_m (hh_lt hin_5)) (hh_E_m (hh_lt hin_5)) (hh_gV hm_88 hm_61 hm_62 hm_63 hm_55) ⟨rfl, rfl⟩ (by decide +kernel) ⟨Nat.le_of_ble_eq_true rfl, Nat.le_of_ble_eq_true rfl⟩ ⟨Nat.zero_le _, Nat.zero_le _⟩ hl.1 rfl rfl (Nat.le_of_ble_eq_true rfl) dX4_measureOne_23 (fun q_23 v_23 H locs hv_23 hp => ?_)
    obtain ⟨eq_23, hv9⟩ := hv_23
    rw [hv9] at hp; clear hv9
    refine lv_isub hx hb dX4_measureOne_26 ?_
    refine lv_topi (fun x_27 ex_27 => ?_)
    refine lv_istore (lv' := [(4, .int x_27), (3, .ref (ad (hh_mI number.toNatClampNeg))), (0, .ref (ad 1)), (1, .int number), (2, .int place)]) hx hb dX4_measureOne_27 hl (by decide) rfl (fun ls hl => ?_)
    refine lv_iconst (v := 0) hx hb dX4_measureOne_29 (by decide) ?_
    refine lv_istore (lv' := [(5, .int 0), (4, .int x_27), (3, .ref (ad (hh_mI number.toNatClampNeg))), (0, .ref (ad 1)), (1, .int number), (2, .int place)]) hx hb dX4_measureOne_30 hl (by decide) rfl (fun ls hl => ?_)
    have hL_32 : ∀ (n i : Nat) (a32_4 : Int32) (H : Heap) (locs : List Loc) (ls : Array Slot), i ≤ nm → nm - i < n → a32_4 = hh_fld (fun (i9 : Nat) (z : Int32) => hl_X4_measureOne_32 v number place i9 z) i x_27 → hh_H D K ad A s.heap v H locs → lv_has ls 6 [(5, .int (nI i)), (4, .int a32_4), (3, .ref (ad (hh_mI number.toNatClampNeg))), (0, .ref (ad 1)), (1, .int number), (2, .int place)] → W p l e ({ frames := 2, cells := 0, slots := 0, locals := 43 } : Room) s m args below meth c H locs 0 0 (MQ below (va_Qi (fun (q : Int32) (v1 : hh_M) => q = hf_X4_measureOne v number place ∧ v1 = v) (hh_B D K ad A) A) args s 0 0 A) (F0 m 32 ls []) := by
      intro n
      induction n with
      | zero => intro i a32_4 H locs ls h1 h2; omega
      | succ n ih =>
        intro i a32_4 H locs ls hii hni hsL_32 hp hl
        refine lv_iload hx hb dX4_measureOne_32 (lv_at hl 0 rfl) ?_
        refine lv_aload_n hx hb dX4_measureOne_34 rfl (lv_at hl 3 rfl) ?_
        refine hh_get C0 hp (C := RX4) (T := TX4) (N := 3) (ci := 4) (by decide) hh_E_1 rfl hh_uX4 2 (by decide) hm_79 rfl rfl dX4_measureOne_35 ?_
        refine lv_icmp_ge (tgt := 86) hx hb dX4_measureOne_38 (by decide) (fun c_38 => ?_) (fun c_38 => ?_)
        · have hbc_38 : (v 1 2) = nI nm := hh_T_M hT
          rw [hbc_38] at c_38
          have hc_38 := (nI_leI (a := nm) (b := i) (by omega) (by omega))
          have hltc_38 : nm ≤ i := by exact hc_38.mp c_38
          have hNL_32 : i = nm := by omega
          rw [hNL_32] at hsL_32
          have hsL_32 : a32_4 = hh_fld (fun (i9 : Nat) (z : Int32) => hl_X4_measureOne_32 v number place i9 z) ((v 1 2).toNatClampNeg) x_27 := by rw [hsL_32, show (v 1 2).toNatClampNeg = nm from by rw [hh_T_M hT]; exact nI_clamp (by omega)]
          have ea32_4 : a32_4 = hh_fld (fun (i9 : Nat) (z : Int32) => hl_X4_measureOne_32 v number place i9 z) ((v 1 2).toNatClampNeg) x_27 := hsL_32
          clear ih hsL_32
          refine lv_iload hx hb dX4_measureOne_86 (lv_at hl 1 rfl) ?_
          exact hh_iret C0 hp dX4_measureOne_88 ⟨(by unfold hf_X4_measureOne; rw [if_neg c_11, hh_let_eq eq_23, hh_let_eq ex_27, hh_let_eq ea32_4]), rfl⟩
        · have hbc_38 : (v 1 2) = nI nm := hh_T_M hT
          rw [hbc_38] at c_38
          have hc_38 := (nI_leI (a := nm) (b := i) (by omega) (by omega))
          have hltc_38 : i < nm := by exact Nat.not_le.mp (fun z => c_38 (hc_38.mpr z))
          refine lv_iload hx hb dX4_measureOne_41 (lv_at hl 0 rfl) ?_
          refine lv_iload_n hx hb dX4_measureOne_43 rfl (lv_at hl 4 rfl) ?_
          refine lv_icmp_eq (tgt := 80) hx hb dX4_measureOne_44 (by decide) (fun c_44 => ?_) (fun c_44 => ?_)
          · refine lv_iinc (v := (nI (i + 1))) (lv' := [(5, .int (nI (i + 1))), (4, .int a32_4), (3, .ref (ad (hh_mI number.toNatClampNeg))), (0, .ref (ad 1)), (1, .int number), (2, .int place)]) hx hb dX4_measureOne_80 hl (k := 0) rfl (nI_1 i) (by decide) rfl (fun ls hl => ?_)
            refine lv_goto (tgt := 32) hx hb dX4_measureOne_83 (by decide) ?_
            exact ih (i + 1) a32_4 _ _ _ (by omega) (by omega) (by rw [hh_fld, ← hsL_32]; show _ = hl_X4_measureOne_32 v number place i a32_4; unfold hl_X4_measureOne_32; rw [if_pos c_44]) hp (lv_sub hl [0, 1, 2, 3, 4, 5] rfl)
          · refine lv_aload_n hx hb dX4_measureOne_47 rfl (lv_at hl 3 rfl) ?_
            refine hh_get C0 hp (C := RX4) (T := TX4) (N := 3) (ci := 4) (by decide) hh_E_1 rfl hh_uX4 0 (by decide) hm_72 rfl rfl dX4_measureOne_48 ?_
            refine lv_iload hx hb dX4_measureOne_51 (lv_at hl 0 rfl) ?_
            refine hh_aal C0 hp (t0 := 2) (f := hh_mI) (by decide) hh_E_2 rfl rfl (vp_in_nI (by omega) (by decide)) (nI_clamp (by omega)) dX4_measureOne_53 ?_
            refine hh_get C0 hp (C := RX3) (T := TX3) (N := 7) (ci := 3) (hh_b_m (by omega : i < 6)) (hh_E_m (by omega : i < 6)) rfl hh_uX3 2 (by decide) hm_87 rfl rfl dX4_measureOne_54 ?_
            refine lv_aload_n hx hb dX4_measureOne_57 rfl (lv_at hl 2 rfl) ?_
            refine hh_get C0 hp (C := RX3) (T := TX3) (N := 7) (ci := 3) (hh_b_m (hh_lt hin_5)) (hh_E_m (hh_lt hin_5)) rfl hh_uX3 2 (by decide) hm_87 rfl rfl dX4_measureOne_58 ?_
            refine lv_icmp_ne (tgt := 80) hx hb dX4_measureOne_61 (by decide) (fun c_61 => ?_) (fun c_61 => ?_)
            · refine lv_iinc (v := (nI (i + 1))) (lv' := [(5, .int (nI (i + 1))), (4, .int a32_4), (3, .ref (ad (hh_mI number.toNatClampNeg))), (0, .ref (ad 1)), (1, .int number), (2, .int place)]) hx hb dX4_measureOne_80 hl (k := 0) rfl (nI_1 i) (by decide) rfl (fun ls hl => ?_)
              refine lv_goto (tgt := 32) hx hb dX4_measureOne_83 (by decide) ?_
              exact ih (i + 1) a32_4 _ _ _ (by omega) (by omega) (by rw [hh_fld, ← hsL_32]; show _ = hl_X4_measureOne_32 v number place i a32_4; unfold hl_X4_measureOne_32; rw [if_neg c_44, if_neg c_61]) hp (lv_sub hl [0, 1, 2, 3, 4, 5] rfl)
            · refine lv_iload hx hb dX4_measureOne_64 (lv_at hl 1 rfl) ?_
              refine lv_aload_n hx hb dX4_measureOne_66 rfl (lv_at hl 3 rfl) ?_
              refine hh_get C0 hp (C := RX4) (T := TX4) (N := 3) (ci := 4) (by decide) hh_E_1 rfl hh_uX4 0 (by decide) hm_72 rfl rfl dX4_measureOne_67 ?_
              refine lv_iload hx hb dX4_measureOne_70 (lv_at hl 0 rfl) ?_
              refine hh_aal C0 hp (t0 := 2) (f := hh_mI) (by decide) hh_E_2 rfl rfl (vp_in_nI (by omega) (by decide)) (nI_clamp (by omega)) dX4_measureOne_72 ?_
              refine lv_iload_n hx hb dX4_measureOne_73 rfl (lv_at hl 5 rfl) ?_
              refine hh_cVi C0 hp (As := [.int place]) (rest := [.int a32_4]) (C := RX3) (T := TX3) (N := 7) (ci := 3) (n := 1) (hk_X3_noiseAt l D K ad hT i place (by omega : i < 6)) rfl (hh_b_m (by omega : i < 6)) (hh_E_m (by omega : i < 6)) (hh_gV hm_89 hm_90 hm_91 hm_63 hm_57) ⟨rfl, rfl⟩ (by decide +kernel) ⟨Nat.le_of_ble_eq_true rfl, Nat.le_of_ble_eq_true rfl⟩ ⟨Nat.zero_le _, Nat.zero_le _⟩ hl.1 rfl rfl (Nat.le_of_ble_eq_true rfl) dX4_measureOne_74 (fun q_74 v_74 H locs hv_74 hp => ?_)
              obtain ⟨eq_74, hv9⟩ := hv_74
              rw [hv9] at hp; clear hv9
              refine lv_isub hx hb dX4_measureOne_77 ?_
              refine lv_topi (fun x_78 ex_78 => ?_)
              refine lv_istore (lv' := [(4, .int x_78), (5, .int (nI i)), (3, .ref (ad (hh_mI number.toNatClampNeg))), (0, .ref (ad 1)), (1, .int number), (2, .int place)]) hx hb dX4_measureOne_78 hl (by decide) rfl (fun ls hl => ?_)
              refine lv_iinc (v := (nI (i + 1))) (lv' := [(5, .int (nI (i + 1))), (4, .int x_78), (3, .ref (ad (hh_mI number.toNatClampNeg))), (0, .ref (ad 1)), (1, .int number), (2, .int place)]) hx hb dX4_measureOne_80 hl (k := 1) rfl (nI_1 i) (by decide) rfl (fun ls hl => ?_)
              refine lv_goto (tgt := 32) hx hb dX4_measureOne_83 (by decide) ?_
              exact ih (i + 1) x_78 _ _ _ (by omega) (by omega) (by rw [hh_fld, ← hsL_32]; show _ = hl_X4_measureOne_32 v number place i a32_4; unfold hl_X4_measureOne_32; rw [if_neg c_44, if_pos c_61, hh_let_eq eq_74, hh_let_eq ex_78]) hp (lv_sub hl [0, 1, 2, 3, 4, 5] rfl)
    exact hL_32 (nm + 1) 0 x_27 _ _ _ (Nat.zero_le _) (by omega) rfl hp (lv_sub hl [0, 1, 2, 3, 4, 5] rfl)
  · refine lv_bipush (v := (-99)) hx hb dX4_measureOne_14 (by decide) ?_
    exact hh_iret C0 hp dX4_measureOne_16 ⟨(by unfold hf_X4_measureOne; rw [if_pos c_11]), rfl⟩
def hl_X4_awakeInArea_4 (v : hh_M) (area : Int32) (i : Nat) (a4_2 : Int32) : Int32 := (if (v (hh_mI i) 6) = 0 then a4_2 else (if (v (hh_mI i) 4) = area then (hh_let ((a4_2 + 1) : Int32) (fun (x_37 : Int32) => x_37)) else a4_2))
def hf_X4_awakeInArea (v : hh_M) (area : Int32) : Int32 := (hh_let (hh_fld (fun (i9 : Nat) (z : Int32) => hl_X4_awakeInArea_4 v area i9 z) ((v 1 2).toNatClampNeg) 0 : Int32) (fun (a4_2 : Int32) => a4_2))
set_option maxHeartbeats 4000000 in
set_option maxRecDepth 100000 in
theorem hk_X4_awakeInArea (l : Launch) (D : va_G) (K : Nat → ClassId) (ad : Nat → Nat) {nm : Nat} {nh nc : Nat → Nat} {v : hh_M} (hT : hh_T nm nh nc v) (area : Int32) : hh_Ki l D K ad yX4_awakeInArea (hh_wm yX4_awakeInArea cX4_awakeInArea 4 (some .int)) { frames := 0, cells := 0, slots := 0, locals := 0 } [.ref (ad 1), .int area] v (fun (q : Int32) (v1 : hh_M) => q = hf_X4_awakeInArea v area ∧ v1 = v) := by
  refine hh_Ki_of (by decide) (Nat.le_of_ble_eq_true rfl) ?_
  intro p e s m args below meth c ls A C0 hp hl
  obtain ⟨hx, hb, hr9, hml, hown, hts, hK, hlk, hA⟩ := id C0
  have hnm := hT.1
  have hnh := hT.2.1
  have hnc := hT.2.2.1
  have hl : lv_has ls 4 [(0, .ref (ad 1)), (1, .int area)] := hl
  refine lv_iconst (v := 0) hx hb dX4_awakeInArea_0 (by decide) ?_
  refine lv_istore_n (lv' := [(2, .int 0), (0, .ref (ad 1)), (1, .int area)]) hx hb dX4_awakeInArea_1 rfl hl (by decide) rfl (fun ls hl => ?_)
  refine lv_iconst (v := 0) hx hb dX4_awakeInArea_2 (by decide) ?_
  refine lv_istore_n (lv' := [(3, .int 0), (2, .int 0), (0, .ref (ad 1)), (1, .int area)]) hx hb dX4_awakeInArea_3 rfl hl (by decide) rfl (fun ls hl => ?_)
  have hL_4 : ∀ (n i : Nat) (a4_2 : Int32) (H : Heap) (locs : List Loc) (ls : Array Slot), i ≤ nm → nm - i < n → a4_2 = hh_fld (fun (i9 : Nat) (z : Int32) => hl_X4_awakeInArea_4 v area i9 z) i 0 → hh_H D K ad A s.heap v H locs → lv_has ls 4 [(3, .int (nI i)), (2, .int a4_2), (0, .ref (ad 1)), (1, .int area)] → W p l e ({ frames := 0, cells := 0, slots := 0, locals := 0 } : Room) s m args below meth c H locs 0 0 (MQ below (va_Qi (fun (q : Int32) (v1 : hh_M) => q = hf_X4_awakeInArea v area ∧ v1 = v) (hh_B D K ad A) A) args s 0 0 A) (F0 m 4 ls []) := by
    intro n
    induction n with
    | zero => intro i a4_2 H locs ls h1 h2; omega
    | succ n ih =>
      intro i a4_2 H locs ls hii hni hsL_4 hp hl
      refine lv_iload_n hx hb dX4_awakeInArea_4 rfl (lv_at hl 0 rfl) ?_
      refine lv_aload_n hx hb dX4_awakeInArea_5 rfl (lv_at hl 2 rfl) ?_
      refine hh_get C0 hp (C := RX4) (T := TX4) (N := 3) (ci := 4) (by decide) hh_E_1 rfl hh_uX4 2 (by decide) hm_79 rfl rfl dX4_awakeInArea_6 ?_
      refine lv_icmp_ge (tgt := 46) hx hb dX4_awakeInArea_9 (by decide) (fun c_9 => ?_) (fun c_9 => ?_)
      · have hbc_9 : (v 1 2) = nI nm := hh_T_M hT
        rw [hbc_9] at c_9
        have hc_9 := (nI_leI (a := nm) (b := i) (by omega) (by omega))
        have hltc_9 : nm ≤ i := by exact hc_9.mp c_9
        have hNL_4 : i = nm := by omega
        rw [hNL_4] at hsL_4
        have hsL_4 : a4_2 = hh_fld (fun (i9 : Nat) (z : Int32) => hl_X4_awakeInArea_4 v area i9 z) ((v 1 2).toNatClampNeg) 0 := by rw [hsL_4, show (v 1 2).toNatClampNeg = nm from by rw [hh_T_M hT]; exact nI_clamp (by omega)]
        have ea4_2 : a4_2 = hh_fld (fun (i9 : Nat) (z : Int32) => hl_X4_awakeInArea_4 v area i9 z) ((v 1 2).toNatClampNeg) 0 := hsL_4
        clear ih hsL_4
        refine lv_iload_n hx hb dX4_awakeInArea_46 rfl (lv_at hl 1 rfl) ?_
        exact hh_iret C0 hp dX4_awakeInArea_47 ⟨(by unfold hf_X4_awakeInArea; rw [hh_let_eq ea4_2]), rfl⟩
      · have hbc_9 : (v 1 2) = nI nm := hh_T_M hT
        rw [hbc_9] at c_9
        have hc_9 := (nI_leI (a := nm) (b := i) (by omega) (by omega))
        have hltc_9 : i < nm := by exact Nat.not_le.mp (fun z => c_9 (hc_9.mpr z))
        refine lv_aload_n hx hb dX4_awakeInArea_12 rfl (lv_at hl 2 rfl) ?_
        refine hh_get C0 hp (C := RX4) (T := TX4) (N := 3) (ci := 4) (by decide) hh_E_1 rfl hh_uX4 0 (by decide) hm_72 rfl rfl dX4_awakeInArea_13 ?_
        refine lv_iload_n hx hb dX4_awakeInArea_16 rfl (lv_at hl 0 rfl) ?_
        refine hh_aal C0 hp (t0 := 2) (f := hh_mI) (by decide) hh_E_2 rfl rfl (vp_in_nI (by omega) (by decide)) (nI_clamp (by omega)) dX4_awakeInArea_17 ?_
        refine hh_get C0 hp (C := RX3) (T := TX3) (N := 7) (ci := 3) (hh_b_m (by omega : i < 6)) (hh_E_m (by omega : i < 6)) rfl hh_uX3 6 (by decide) hm_85 rfl rfl dX4_awakeInArea_18 ?_
        refine lv_if_eq (tgt := 40) hx hb dX4_awakeInArea_21 (by decide) (fun c_21 => ?_) (fun c_21 => ?_)
        · refine lv_iinc (v := (nI (i + 1))) (lv' := [(3, .int (nI (i + 1))), (2, .int a4_2), (0, .ref (ad 1)), (1, .int area)]) hx hb dX4_awakeInArea_40 hl (k := 0) rfl (nI_1 i) (by decide) rfl (fun ls hl => ?_)
          refine lv_goto (tgt := 4) hx hb dX4_awakeInArea_43 (by decide) ?_
          exact ih (i + 1) a4_2 _ _ _ (by omega) (by omega) (by rw [hh_fld, ← hsL_4]; show _ = hl_X4_awakeInArea_4 v area i a4_2; unfold hl_X4_awakeInArea_4; rw [if_pos c_21]) hp (lv_sub hl [0, 1, 2, 3] rfl)
        · refine lv_aload_n hx hb dX4_awakeInArea_24 rfl (lv_at hl 2 rfl) ?_
          refine hh_get C0 hp (C := RX4) (T := TX4) (N := 3) (ci := 4) (by decide) hh_E_1 rfl hh_uX4 0 (by decide) hm_72 rfl rfl dX4_awakeInArea_25 ?_
          refine lv_iload_n hx hb dX4_awakeInArea_28 rfl (lv_at hl 0 rfl) ?_
          refine hh_aal C0 hp (t0 := 2) (f := hh_mI) (by decide) hh_E_2 rfl rfl (vp_in_nI (by omega) (by decide)) (nI_clamp (by omega)) dX4_awakeInArea_29 ?_
          refine hh_get C0 hp (C := RX3) (T := TX3) (N := 7) (ci := 3) (hh_b_m (by omega : i < 6)) (hh_E_m (by omega : i < 6)) rfl hh_uX3 4 (by decide) hm_93 rfl rfl dX4_awakeInArea_30 ?_
          refine lv_iload_n hx hb dX4_awakeInArea_33 rfl (lv_at hl 3 rfl) ?_
          refine lv_icmp_ne (tgt := 40) hx hb dX4_awakeInArea_34 (by decide) (fun c_34 => ?_) (fun c_34 => ?_)
          · refine lv_iinc (v := (nI (i + 1))) (lv' := [(3, .int (nI (i + 1))), (2, .int a4_2), (0, .ref (ad 1)), (1, .int area)]) hx hb dX4_awakeInArea_40 hl (k := 0) rfl (nI_1 i) (by decide) rfl (fun ls hl => ?_)
            refine lv_goto (tgt := 4) hx hb dX4_awakeInArea_43 (by decide) ?_
            exact ih (i + 1) a4_2 _ _ _ (by omega) (by omega) (by rw [hh_fld, ← hsL_4]; show _ = hl_X4_awakeInArea_4 v area i a4_2; unfold hl_X4_awakeInArea_4; rw [if_neg c_21, if_neg c_34]) hp (lv_sub hl [0, 1, 2, 3] rfl)
          · obtain ⟨x_37, ex_37⟩ : ∃ z : Int32, z = (a4_2 + 1) := ⟨_, rfl⟩
            refine lv_iinc (v := x_37) (lv' := [(2, .int x_37), (3, .int (nI i)), (0, .ref (ad 1)), (1, .int area)]) hx hb dX4_awakeInArea_37 hl (k := 1) rfl (by rw [ex_37]; rfl) (by decide) rfl (fun ls hl => ?_)
            refine lv_iinc (v := (nI (i + 1))) (lv' := [(3, .int (nI (i + 1))), (2, .int x_37), (0, .ref (ad 1)), (1, .int area)]) hx hb dX4_awakeInArea_40 hl (k := 1) rfl (nI_1 i) (by decide) rfl (fun ls hl => ?_)
            refine lv_goto (tgt := 4) hx hb dX4_awakeInArea_43 (by decide) ?_
            exact ih (i + 1) x_37 _ _ _ (by omega) (by omega) (by rw [hh_fld, ← hsL_4]; show _ = hl_X4_awakeInArea_4 v area i a4_2; unfold hl_X4_awakeInArea_4; rw [if_neg c_21, if_pos c_34, hh_let_eq ex_37]) hp (lv_sub hl [0, 1, 2, 3] rfl)
  exact hL_4 (nm + 1) 0 0 _ _ _ (Nat.zero_le _) (by omega) rfl hp (lv_sub hl [0, 1, 2, 3] rfl)
def hl_X4_awake_4 (v : hh_M) (i : Nat) (a4_1 : Int32) : Int32 := (if (v (hh_mI i) 6) = 0 then a4_1 else (hh_let ((a4_1 + 1) : Int32) (fun (x_24 : Int32) => x_24)))
def hf_X4_awake (v : hh_M) : Int32 := (hh_let (hh_fld (fun (i9 : Nat) (z : Int32) => hl_X4_awake_4 v i9 z) ((v 1 2).toNatClampNeg) 0 : Int32) (fun (a4_1 : Int32) => a4_1))
set_option maxHeartbeats 4000000 in
set_option maxRecDepth 100000 in
theorem hk_X4_awake (l : Launch) (D : va_G) (K : Nat → ClassId) (ad : Nat → Nat) {nm : Nat} {nh nc : Nat → Nat} {v : hh_M} (hT : hh_T nm nh nc v) : hh_Ki l D K ad yX4_awake (hh_wm yX4_awake cX4_awake 3 (some .int)) { frames := 0, cells := 0, slots := 0, locals := 0 } [.ref (ad 1)] v (fun (q : Int32) (v1 : hh_M) => q = hf_X4_awake v ∧ v1 = v) := by
  refine hh_Ki_of (by decide) (Nat.le_of_ble_eq_true rfl) ?_
  intro p e s m args below meth c ls A C0 hp hl
  obtain ⟨hx, hb, hr9, hml, hown, hts, hK, hlk, hA⟩ := id C0
  have hnm := hT.1
  have hnh := hT.2.1
  have hnc := hT.2.2.1
  have hl : lv_has ls 3 [(0, .ref (ad 1))] := hl
  refine lv_iconst (v := 0) hx hb dX4_awake_0 (by decide) ?_
  refine lv_istore_n (lv' := [(1, .int 0), (0, .ref (ad 1))]) hx hb dX4_awake_1 rfl hl (by decide) rfl (fun ls hl => ?_)
  refine lv_iconst (v := 0) hx hb dX4_awake_2 (by decide) ?_
  refine lv_istore_n (lv' := [(2, .int 0), (1, .int 0), (0, .ref (ad 1))]) hx hb dX4_awake_3 rfl hl (by decide) rfl (fun ls hl => ?_)
  have hL_4 : ∀ (n i : Nat) (a4_1 : Int32) (H : Heap) (locs : List Loc) (ls : Array Slot), i ≤ nm → nm - i < n → a4_1 = hh_fld (fun (i9 : Nat) (z : Int32) => hl_X4_awake_4 v i9 z) i 0 → hh_H D K ad A s.heap v H locs → lv_has ls 3 [(2, .int (nI i)), (1, .int a4_1), (0, .ref (ad 1))] → W p l e ({ frames := 0, cells := 0, slots := 0, locals := 0 } : Room) s m args below meth c H locs 0 0 (MQ below (va_Qi (fun (q : Int32) (v1 : hh_M) => q = hf_X4_awake v ∧ v1 = v) (hh_B D K ad A) A) args s 0 0 A) (F0 m 4 ls []) := by
    intro n
    induction n with
    | zero => intro i a4_1 H locs ls h1 h2; omega
    | succ n ih =>
      intro i a4_1 H locs ls hii hni hsL_4 hp hl
      refine lv_iload_n hx hb dX4_awake_4 rfl (lv_at hl 0 rfl) ?_
      refine lv_aload_n hx hb dX4_awake_5 rfl (lv_at hl 2 rfl) ?_
      refine hh_get C0 hp (C := RX4) (T := TX4) (N := 3) (ci := 4) (by decide) hh_E_1 rfl hh_uX4 2 (by decide) hm_79 rfl rfl dX4_awake_6 ?_
      refine lv_icmp_ge (tgt := 33) hx hb dX4_awake_9 (by decide) (fun c_9 => ?_) (fun c_9 => ?_)
      · have hbc_9 : (v 1 2) = nI nm := hh_T_M hT
        rw [hbc_9] at c_9
        have hc_9 := (nI_leI (a := nm) (b := i) (by omega) (by omega))
        have hltc_9 : nm ≤ i := by exact hc_9.mp c_9
        have hNL_4 : i = nm := by omega
        rw [hNL_4] at hsL_4
        have hsL_4 : a4_1 = hh_fld (fun (i9 : Nat) (z : Int32) => hl_X4_awake_4 v i9 z) ((v 1 2).toNatClampNeg) 0 := by rw [hsL_4, show (v 1 2).toNatClampNeg = nm from by rw [hh_T_M hT]; exact nI_clamp (by omega)]
        have ea4_1 : a4_1 = hh_fld (fun (i9 : Nat) (z : Int32) => hl_X4_awake_4 v i9 z) ((v 1 2).toNatClampNeg) 0 := hsL_4
        clear ih hsL_4
        refine lv_iload_n hx hb dX4_awake_33 rfl (lv_at hl 1 rfl) ?_
        exact hh_iret C0 hp dX4_awake_34 ⟨(by unfold hf_X4_awake; rw [hh_let_eq ea4_1]), rfl⟩
      · have hbc_9 : (v 1 2) = nI nm := hh_T_M hT
        rw [hbc_9] at c_9
        have hc_9 := (nI_leI (a := nm) (b := i) (by omega) (by omega))
        have hltc_9 : i < nm := by exact Nat.not_le.mp (fun z => c_9 (hc_9.mpr z))
        refine lv_aload_n hx hb dX4_awake_12 rfl (lv_at hl 2 rfl) ?_
        refine hh_get C0 hp (C := RX4) (T := TX4) (N := 3) (ci := 4) (by decide) hh_E_1 rfl hh_uX4 0 (by decide) hm_72 rfl rfl dX4_awake_13 ?_
        refine lv_iload_n hx hb dX4_awake_16 rfl (lv_at hl 0 rfl) ?_
        refine hh_aal C0 hp (t0 := 2) (f := hh_mI) (by decide) hh_E_2 rfl rfl (vp_in_nI (by omega) (by decide)) (nI_clamp (by omega)) dX4_awake_17 ?_
        refine hh_get C0 hp (C := RX3) (T := TX3) (N := 7) (ci := 3) (hh_b_m (by omega : i < 6)) (hh_E_m (by omega : i < 6)) rfl hh_uX3 6 (by decide) hm_85 rfl rfl dX4_awake_18 ?_
        refine lv_if_eq (tgt := 27) hx hb dX4_awake_21 (by decide) (fun c_21 => ?_) (fun c_21 => ?_)
        · refine lv_iinc (v := (nI (i + 1))) (lv' := [(2, .int (nI (i + 1))), (1, .int a4_1), (0, .ref (ad 1))]) hx hb dX4_awake_27 hl (k := 0) rfl (nI_1 i) (by decide) rfl (fun ls hl => ?_)
          refine lv_goto (tgt := 4) hx hb dX4_awake_30 (by decide) ?_
          exact ih (i + 1) a4_1 _ _ _ (by omega) (by omega) (by rw [hh_fld, ← hsL_4]; show _ = hl_X4_awake_4 v i a4_1; unfold hl_X4_awake_4; rw [if_pos c_21]) hp (lv_sub hl [0, 1, 2] rfl)
        · obtain ⟨x_24, ex_24⟩ : ∃ z : Int32, z = (a4_1 + 1) := ⟨_, rfl⟩
          refine lv_iinc (v := x_24) (lv' := [(1, .int x_24), (2, .int (nI i)), (0, .ref (ad 1))]) hx hb dX4_awake_24 hl (k := 1) rfl (by rw [ex_24]; rfl) (by decide) rfl (fun ls hl => ?_)
          refine lv_iinc (v := (nI (i + 1))) (lv' := [(2, .int (nI (i + 1))), (1, .int x_24), (0, .ref (ad 1))]) hx hb dX4_awake_27 hl (k := 1) rfl (nI_1 i) (by decide) rfl (fun ls hl => ?_)
          refine lv_goto (tgt := 4) hx hb dX4_awake_30 (by decide) ?_
          exact ih (i + 1) x_24 _ _ _ (by omega) (by omega) (by rw [hh_fld, ← hsL_4]; show _ = hl_X4_awake_4 v i a4_1; unfold hl_X4_awake_4; rw [if_neg c_21, hh_let_eq ex_24]) hp (lv_sub hl [0, 1, 2] rfl)
  exact hL_4 (nm + 1) 0 0 _ _ _ (Nat.zero_le _) (by omega) rfl hp (lv_sub hl [0, 1, 2] rfl)
def hl_X5_placesHeardWell_4 (v : hh_M) (r : Nat) (i : Nat) (a4_1 : Int32) : Int32 := (hh_let (hf_X5_bestHeardAt v r (nI i) : Int32) (fun (q_12 : Int32) => (if q_12 = (-1) then a4_1 else (hh_let (hf_X5_qualityAt v r q_12 (nI i) : Int32) (fun (q_24 : Int32) => (if q_24 < 5 then a4_1 else (hh_let ((a4_1 + 1) : Int32) (fun (x_31 : Int32) => x_31))))))))
def hf_X5_placesHeardWell (v : hh_M) (r : Nat) : Int32 := (hh_let (hh_fld (fun (i9 : Nat) (z : Int32) => hl_X5_placesHeardWell_4 v r i9 z) 100 0 : Int32) (fun (a4_1 : Int32) => a4_1))
set_option maxHeartbeats 4000000 in
set_option maxRecDepth 100000 in
theorem hk_X5_placesHeardWell (l : Launch) (D : va_G) (K : Nat → ClassId) (ad : Nat → Nat) {nm : Nat} {nh nc : Nat → Nat} {v : hh_M} (hT : hh_T nm nh nc v) (r : Nat) (hr : r < 2) : hh_Ki l D K ad yX5_placesHeardWell (hh_wm yX5_placesHeardWell cX5_placesHeardWell 4 (some .int)) { frames := 2, cells := 0, slots := 0, locals := 47 } [.ref (ad (hh_rI r))] v (fun (q : Int32) (v1 : hh_M) => q = hf_X5_placesHeardWell v r ∧ v1 = v) := by
  refine hh_Ki_of (by decide) (Nat.le_of_ble_eq_true rfl) ?_
  intro p e s m args below meth c ls A C0 hp hl
  obtain ⟨hx, hb, hr9, hml, hown, hts, hK, hlk, hA⟩ := id C0
  have hnm := hT.1
  have hnh := hT.2.1
  have hnc := hT.2.2.1
  have hbHr := hnh r
  have hbCr := hnc r
  have hl : lv_has ls 4 [(0, .ref (ad (hh_rI r)))] := hl
  refine lv_iconst (v := 0) hx hb dX5_placesHeardWell_0 (by decide) ?_
  refine lv_istore_n (lv' := [(1, .int 0), (0, .ref (ad (hh_rI r)))]) hx hb dX5_placesHeardWell_1 rfl hl (by decide) rfl (fun ls hl => ?_)
  refine lv_iconst (v := 0) hx hb dX5_placesHeardWell_2 (by decide) ?_
  refine lv_istore_n (lv' := [(2, .int 0), (1, .int 0), (0, .ref (ad (hh_rI r)))]) hx hb dX5_placesHeardWell_3 rfl hl (by decide) rfl (fun ls hl => ?_)
  have hL_4 : ∀ (n i : Nat) (a4_1 : Int32) (H : Heap) (locs : List Loc) (ls : Array Slot), i ≤ 100 → 100 - i < n → a4_1 = hh_fld (fun (i9 : Nat) (z : Int32) => hl_X5_placesHeardWell_4 v r i9 z) i 0 → hh_H D K ad A s.heap v H locs → lv_has ls 4 [(2, .int (nI i)), (1, .int a4_1), (0, .ref (ad (hh_rI r)))] → W p l e ({ frames := 2, cells := 0, slots := 0, locals := 47 } : Room) s m args below meth c H locs 0 0 (MQ below (va_Qi (fun (q : Int32) (v1 : hh_M) => q = hf_X5_placesHeardWell v r ∧ v1 = v) (hh_B D K ad A) A) args s 0 0 A) (F0 m 4 ls []) := by
    intro n
    induction n with
    | zero => intro i a4_1 H locs ls h1 h2; omega
    | succ n ih =>
      intro i a4_1 H locs ls hii hni hsL_4 hp hl
      refine lv_iload_n hx hb dX5_placesHeardWell_4 rfl (lv_at hl 0 rfl) ?_
      refine lv_bipush (v := 100) hx hb dX5_placesHeardWell_5 (by decide) ?_
      refine lv_icmp_ge (tgt := 40) hx hb dX5_placesHeardWell_7 (by decide) (fun c_7 => ?_) (fun c_7 => ?_)
      · have hbc_7 : 100 = nI 100 := rfl
        rw [hbc_7] at c_7
        have hc_7 := (nI_leI (a := 100) (b := i) (by omega) (by omega))
        have hltc_7 : 100 ≤ i := by exact hc_7.mp c_7
        have hNL_4 : i = 100 := by omega
        rw [hNL_4] at hsL_4
        have ea4_1 : a4_1 = hh_fld (fun (i9 : Nat) (z : Int32) => hl_X5_placesHeardWell_4 v r i9 z) 100 0 := hsL_4
        clear ih hsL_4
        refine lv_iload_n hx hb dX5_placesHeardWell_40 rfl (lv_at hl 1 rfl) ?_
        exact hh_iret C0 hp dX5_placesHeardWell_41 ⟨(by unfold hf_X5_placesHeardWell; rw [hh_let_eq ea4_1]), rfl⟩
      · have hbc_7 : 100 = nI 100 := rfl
        rw [hbc_7] at c_7
        have hc_7 := (nI_leI (a := 100) (b := i) (by omega) (by omega))
        have hltc_7 : i < 100 := by exact Nat.not_le.mp (fun z => c_7 (hc_7.mpr z))
        refine lv_aload_n hx hb dX5_placesHeardWell_10 rfl (lv_at hl 2 rfl) ?_
        refine lv_iload_n hx hb dX5_placesHeardWell_11 rfl (lv_at hl 0 rfl) ?_
        refine hh_cVi C0 hp (As := [.int (nI i)]) (rest := []) (C := RX5) (T := TX5) (N := 10) (ci := 5) (n := 1) (hk_X5_bestHeardAt l D K ad hT r (nI i) hr (vp_in_nI (by omega) (by decide))) rfl (hh_b_r hr) (hh_E_r r) (hh_gV hm_132 hm_133 hm_134 hm_128 hm_129) ⟨rfl, rfl⟩ (by decide +kernel) ⟨Nat.le_of_ble_eq_true rfl, Nat.le_of_ble_eq_true rfl⟩ ⟨Nat.zero_le _, Nat.zero_le _⟩ hl.1 rfl rfl (Nat.le_of_ble_eq_true rfl) dX5_placesHeardWell_12 (fun q_12 v_12 H locs hv_12 hp => ?_)
        obtain ⟨eq_12, hv9, hpq_12a⟩ := hv_12
        rw [hv9] at hp; clear hv9
        refine lv_istore_n (lv' := [(3, .int q_12), (2, .int (nI i)), (1, .int a4_1), (0, .ref (ad (hh_rI r)))]) hx hb dX5_placesHeardWell_15 rfl hl (by decide) rfl (fun ls hl => ?_)
        refine lv_iload_n hx hb dX5_placesHeardWell_16 rfl (lv_at hl 0 rfl) ?_
        refine lv_iconst (v := (-1)) hx hb dX5_placesHeardWell_17 (by decide) ?_
        refine lv_icmp_eq (tgt := 34) hx hb dX5_placesHeardWell_18 (by decide) (fun c_18 => ?_) (fun c_18 => ?_)
        · refine lv_iinc (v := (nI (i + 1))) (lv' := [(2, .int (nI (i + 1))), (3, .int q_12), (1, .int a4_1), (0, .ref (ad (hh_rI r)))]) hx hb dX5_placesHeardWell_34 hl (k := 1) rfl (nI_1 i) (by decide) rfl (fun ls hl => ?_)
          refine lv_goto (tgt := 4) hx hb dX5_placesHeardWell_37 (by decide) ?_
          exact ih (i + 1) a4_1 _ _ _ (by omega) (by omega) (by rw [hh_fld, ← hsL_4]; show _ = hl_X5_placesHeardWell_4 v r i a4_1; unfold hl_X5_placesHeardWell_4; rw [hh_let_eq eq_12, if_pos c_18]) hp (lv_sub hl [0, 2, 3] rfl)
        · refine lv_aload_n hx hb dX5_placesHeardWell_21 rfl (lv_at hl 3 rfl) ?_
          refine lv_iload_n hx hb dX5_placesHeardWell_22 rfl (lv_at hl 0 rfl) ?_
          refine lv_iload_n hx hb dX5_placesHeardWell_23 rfl (lv_at hl 1 rfl) ?_
          refine hh_cVi C0 hp (As := [.int q_12, .int (nI i)]) (rest := []) (C := RX5) (T := TX5) (N := 10) (ci := 5) (n := 2) (hk_X5_qualityAt l D K ad hT r q_12 (nI i) hr (hh_in (n := nm) (by assumption) (by assumption) (by omega) (by decide)) (vp_in_nI (by omega) (by decide))) rfl (hh_b_r hr) (hh_E_r r) (hh_gV hm_125 hm_126 hm_127 hm_128 hm_122) ⟨rfl, rfl⟩ (by decide +kernel) ⟨Nat.le_of_ble_eq_true rfl, Nat.le_of_ble_eq_true rfl⟩ ⟨Nat.zero_le _, Nat.zero_le _⟩ hl.1 rfl rfl (Nat.le_of_ble_eq_true rfl) dX5_placesHeardWell_24 (fun q_24 v_24 H locs hv_24 hp => ?_)
          obtain ⟨eq_24, hv9⟩ := hv_24
          rw [hv9] at hp; clear hv9
          refine lv_iconst (v := 5) hx hb dX5_placesHeardWell_27 (by decide) ?_
          refine lv_icmp_lt (tgt := 34) hx hb dX5_placesHeardWell_28 (by decide) (fun c_28 => ?_) (fun c_28 => ?_)
          · refine lv_iinc (v := (nI (i + 1))) (lv' := [(2, .int (nI (i + 1))), (3, .int q_12), (1, .int a4_1), (0, .ref (ad (hh_rI r)))]) hx hb dX5_placesHeardWell_34 hl (k := 1) rfl (nI_1 i) (by decide) rfl (fun ls hl => ?_)
            refine lv_goto (tgt := 4) hx hb dX5_placesHeardWell_37 (by decide) ?_
            exact ih (i + 1) a4_1 _ _ _ (by omega) (by omega) (by rw [hh_fld, ← hsL_4]; show _ = hl_X5_placesHeardWell_4 v r i a4_1; unfold hl_X5_placesHeardWell_4; rw [hh_let_eq eq_12, if_neg c_18, hh_let_eq eq_24, if_pos c_28]) hp (lv_sub hl [0, 2, 3] rfl)
          · obtain ⟨x_31, ex_31⟩ : ∃ z : Int32, z = (a4_1 + 1) := ⟨_, rfl⟩
            refine lv_iinc (v := x_31) (lv' := [(1, .int x_31), (3, .int q_12), (2, .int (nI i)), (0, .ref (ad (hh_rI r)))]) hx hb dX5_placesHeardWell_31 hl (k := 2) rfl (by rw [ex_31]; rfl) (by decide) rfl (fun ls hl => ?_)
            refine lv_iinc (v := (nI (i + 1))) (lv' := [(2, .int (nI (i + 1))), (1, .int x_31), (3, .int q_12), (0, .ref (ad (hh_rI r)))]) hx hb dX5_placesHeardWell_34 hl (k := 2) rfl (nI_1 i) (by decide) rfl (fun ls hl => ?_)
            refine lv_goto (tgt := 4) hx hb dX5_placesHeardWell_37 (by decide) ?_
            exact ih (i + 1) x_31 _ _ _ (by omega) (by omega) (by rw [hh_fld, ← hsL_4]; show _ = hl_X5_placesHeardWell_4 v r i a4_1; unfold hl_X5_placesHeardWell_4; rw [hh_let_eq eq_12, if_neg c_18, hh_let_eq eq_24, if_neg c_28, hh_let_eq ex_31]) hp (lv_sub hl [0, 1, 3] rfl)
  exact hL_4 (100 + 1) 0 0 _ _ _ (Nat.zero_le _) (by omega) rfl hp (lv_sub hl [0, 1, 2] rfl)
def hf_X5_hasFreeChannels (v : hh_M) (r : Nat) (mast : Int32) (needed : Int32) : Int32 := (if (v (hh_mI mast.toNatClampNeg) 3) < ((v (hh_lI r) mast.toNatClampNeg) + needed) then 0 else 1)
set_option maxHeartbeats 4000000 in
set_option maxRecDepth 100000 in
theorem hk_X5_hasFreeChannels (l : Launch) (D : va_G) (K : Nat → ClassId) (ad : Nat → Nat) {nm : Nat} {nh nc : Nat → Nat} {v : hh_M} (hT : hh_T nm nh nc v) (r : Nat) (mast : Int32) (needed : Int32) (hr : r < 2) (h1 : vp_in mast 6) : hh_Ki l D K ad yX5_hasFreeChannels (hh_wm yX5_hasFreeChannels cX5_hasFreeChannels 3 (some .boolean)) { frames := 0, cells := 0, slots := 0, locals := 0 } [.ref (ad (hh_rI r)), .int mast, .int needed] v (fun (q : Int32) (v1 : hh_M) => q = hf_X5_hasFreeChannels v r mast needed ∧ v1 = v) := by
  refine hh_Ki_of (by decide) (Nat.le_of_ble_eq_true rfl) ?_
  intro p e s m args below meth c ls A C0 hp hl
  obtain ⟨hx, hb, hr9, hml, hown, hts, hK, hlk, hA⟩ := id C0
  have hnm := hT.1
  have hnh := hT.2.1
  have hnc := hT.2.2.1
  have hbHr := hnh r
  have hbCr := hnc r
  have hl : lv_has ls 3 [(0, .ref (ad (hh_rI r))), (1, .int mast), (2, .int needed)] := hl
  refine lv_aload_n hx hb dX5_hasFreeChannels_0 rfl (lv_at hl 0 rfl) ?_
  refine hh_get C0 hp (C := RX5) (T := TX5) (N := 10) (ci := 5) (hh_b_r hr) (hh_E_r r) rfl hh_uX5 1 (by decide) hm_98 rfl rfl dX5_hasFreeChannels_1 ?_
  refine lv_iload_n hx hb dX5_hasFreeChannels_4 rfl (lv_at hl 1 rfl) ?_
  have hin_5 : vp_in mast 6 := by assumption
  refine hh_ial C0 hp (hh_b_l hr) (hh_E_l r) hin_5 rfl dX5_hasFreeChannels_5 ?_
  refine lv_iload_n hx hb dX5_hasFreeChannels_6 rfl (lv_at hl 2 rfl) ?_
  refine lv_iadd hx hb dX5_hasFreeChannels_7 ?_
  refine lv_aload_n hx hb dX5_hasFreeChannels_8 rfl (lv_at hl 0 rfl) ?_
  refine hh_get C0 hp (C := RX5) (T := TX5) (N := 10) (ci := 5) (hh_b_r hr) (hh_E_r r) rfl hh_uX5 0 (by decide) hm_97 rfl rfl dX5_hasFreeChannels_9 ?_
  refine hh_get C0 hp (C := RX4) (T := TX4) (N := 3) (ci := 4) (by decide) hh_E_1 rfl hh_uX4 0 (by decide) hm_136 rfl rfl dX5_hasFreeChannels_12 ?_
  refine lv_iload_n hx hb dX5_hasFreeChannels_15 rfl (lv_at hl 1 rfl) ?_
  have hin_16 : vp_in mast 6 := by assumption
  refine hh_aal C0 hp (t0 := 2) (f := hh_mI) (by decide) hh_E_2 rfl rfl hin_16 rfl dX5_hasFreeChannels_16 ?_
  refine hh_get C0 hp (C := RX3) (T := TX3) (N := 7) (ci := 3) (hh_b_m (hh_lt hin_16)) (hh_E_m (hh_lt hin_16)) rfl hh_uX3 3 (by decide) hm_137 rfl rfl dX5_hasFreeChannels_17 ?_
  refine lv_icmp_gt (tgt := 27) hx hb dX5_hasFreeChannels_20 (by decide) (fun c_20 => ?_) (fun c_20 => ?_)
  · refine lv_iconst (v := 0) hx hb dX5_hasFreeChannels_27 (by decide) ?_
    exact hh_zret C0 hp dX5_hasFreeChannels_28 (Or.inl rfl) ⟨(by unfold hf_X5_hasFreeChannels; rw [if_pos c_20]), rfl⟩
  · refine lv_iconst (v := 1) hx hb dX5_hasFreeChannels_23 (by decide) ?_
    refine lv_goto (tgt := 28) hx hb dX5_hasFreeChannels_24 (by decide) ?_
    exact hh_zret C0 hp dX5_hasFreeChannels_28 (Or.inr rfl) ⟨(by unfold hf_X5_hasFreeChannels; rw [if_neg c_20]), rfl⟩
def hf_X5_isInArea (v : hh_M) (r : Nat) (i : Nat) (area : Int32) : Int32 := (if (v (hh_hI r i) 5) = (-1) then 0 else (if (v (hh_mI ((v (hh_hI r i) 5).toNatClampNeg)) 4) = area then 1 else 0))
set_option maxHeartbeats 4000000 in
set_option maxRecDepth 100000 in
theorem hk_X5_isInArea (l : Launch) (D : va_G) (K : Nat → ClassId) (ad : Nat → Nat) {nm : Nat} {nh nc : Nat → Nat} {v : hh_M} (hT : hh_T nm nh nc v) (r : Nat) (i : Nat) (area : Int32) (hr : r < 2) (hi : i < 8) : hh_Ki l D K ad yX5_isInArea (hh_wm yX5_isInArea cX5_isInArea 3 (some .boolean)) { frames := 0, cells := 0, slots := 0, locals := 0 } [.ref (ad (hh_rI r)), .ref (ad (hh_hI r i)), .int area] v (fun (q : Int32) (v1 : hh_M) => q = hf_X5_isInArea v r i area ∧ v1 = v ∧ (q = 0 ∨ ¬ v (hh_hI r i) 5 = -1)) := by
  refine hh_Ki_of (by decide) (Nat.le_of_ble_eq_true rfl) ?_
  intro p e s m args below meth c ls A C0 hp hl
  obtain ⟨hx, hb, hr9, hml, hown, hts, hK, hlk, hA⟩ := id C0
  have hnm := hT.1
  have hnh := hT.2.1
  have hnc := hT.2.2.1
  have hbHr := hnh r
  have hbCr := hnc r
  have hl : lv_has ls 3 [(0, .ref (ad (hh_rI r))), (1, .ref (ad (hh_hI r i))), (2, .int area)] := hl
  refine lv_aload_n hx hb dX5_isInArea_0 rfl (lv_at hl 1 rfl) ?_
  refine hh_get C0 hp (C := RX1) (T := TX1) (N := 13) (ci := 1) (hh_b_h hr hi) (hh_E_h r hi) rfl hh_uX1 5 (by decide) hm_140 rfl rfl dX5_isInArea_1 ?_
  refine lv_iconst (v := (-1)) hx hb dX5_isInArea_4 (by decide) ?_
  refine lv_icmp_eq (tgt := 31) hx hb dX5_isInArea_5 (by decide) (fun c_5 => ?_) (fun c_5 => ?_)
  · refine lv_iconst (v := 0) hx hb dX5_isInArea_31 (by decide) ?_
    exact hh_zret C0 hp dX5_isInArea_32 (Or.inl rfl) ⟨(by unfold hf_X5_isInArea; rw [if_pos c_5]), rfl, (by first | exact Or.inl rfl | exact Or.inr (by assumption))⟩
  · refine lv_aload_n hx hb dX5_isInArea_8 rfl (lv_at hl 0 rfl) ?_
    refine hh_get C0 hp (C := RX5) (T := TX5) (N := 10) (ci := 5) (hh_b_r hr) (hh_E_r r) rfl hh_uX5 0 (by decide) hm_97 rfl rfl dX5_isInArea_9 ?_
    refine hh_get C0 hp (C := RX4) (T := TX4) (N := 3) (ci := 4) (by decide) hh_E_1 rfl hh_uX4 0 (by decide) hm_136 rfl rfl dX5_isInArea_12 ?_
    refine lv_aload_n hx hb dX5_isInArea_15 rfl (lv_at hl 1 rfl) ?_
    refine hh_get C0 hp (C := RX1) (T := TX1) (N := 13) (ci := 1) (hh_b_h hr hi) (hh_E_h r hi) rfl hh_uX1 5 (by decide) hm_140 rfl rfl dX5_isInArea_16 ?_
    have hin_19 : vp_in (v (hh_hI r i) 5) 6 := hh_in (hh_T_h5 hT r hi) (by assumption) (by omega) (by decide)
    refine hh_aal C0 hp (t0 := 2) (f := hh_mI) (by decide) hh_E_2 rfl rfl hin_19 rfl dX5_isInArea_19 ?_
    refine hh_get C0 hp (C := RX3) (T := TX3) (N := 7) (ci := 3) (hh_b_m (hh_lt hin_19)) (hh_E_m (hh_lt hin_19)) rfl hh_uX3 4 (by decide) hm_151 rfl rfl dX5_isInArea_20 ?_
    refine lv_iload_n hx hb dX5_isInArea_23 rfl (lv_at hl 2 rfl) ?_
    refine lv_icmp_ne (tgt := 31) hx hb dX5_isInArea_24 (by decide) (fun c_24 => ?_) (fun c_24 => ?_)
    · refine lv_iconst (v := 0) hx hb dX5_isInArea_31 (by decide) ?_
      exact hh_zret C0 hp dX5_isInArea_32 (Or.inl rfl) ⟨(by unfold hf_X5_isInArea; rw [if_neg c_5, if_neg c_24]), rfl, (by first | exact Or.inl rfl | exact Or.inr (by assumption))⟩
    · refine lv_iconst (v := 1) hx hb dX5_isInArea_27 (by decide) ?_
      refine lv_goto (tgt := 32) hx hb dX5_isInArea_28 (by decide) ?_
      exact hh_zret C0 hp dX5_isInArea_32 (Or.inr rfl) ⟨(by unfold hf_X5_isInArea; rw [if_neg c_5, if_pos c_24]), rfl, (by first | exact Or.inl rfl | exact Or.inr (by assumption))⟩
def hf_X5_wouldBeFound (v : hh_M) (r : Nat) (i : Nat) : Int32 := (hh_let ((v (hh_hI r i) 7) : Int32) (fun (x_4 : Int32) => (if x_4 = (-1) then (if (v (hh_hI r i) 5) = (-1) then 0 else 1) else (hh_let (hf_X5_isInArea v r i (x_4 - 1) : Int32) (fun (q_29 : Int32) => (if q_29 = 0 then (hh_let (hf_X5_isInArea v r i x_4 : Int32) (fun (q_38 : Int32) => (if q_38 = 0 then (hh_let (hf_X5_isInArea v r i (x_4 + 1) : Int32) (fun (q_49 : Int32) => (if q_49 = 0 then 0 else 1))) else 1))) else 1))))))
set_option maxHeartbeats 4000000 in
set_option maxRecDepth 100000 in
theorem hk_X5_wouldBeFound (l : Launch) (D : va_G) (K : Nat → ClassId) (ad : Nat → Nat) {nm : Nat} {nh nc : Nat → Nat} {v : hh_M} (hT : hh_T nm nh nc v) (r : Nat) (i : Nat) (hr : r < 2) (hi : i < 8) : hh_Ki l D K ad yX5_wouldBeFound (hh_wm yX5_wouldBeFound cX5_wouldBeFound 3 (some .boolean)) { frames := 1, cells := 0, slots := 0, locals := 22 } [.ref (ad (hh_rI r)), .ref (ad (hh_hI r i))] v (fun (q : Int32) (v1 : hh_M) => q = hf_X5_wouldBeFound v r i ∧ v1 = v) := by
  refine hh_Ki_of (by decide) (Nat.le_of_ble_eq_true rfl) ?_
  intro p e s m args below meth c ls A C0 hp hl
  obtain ⟨hx, hb, hr9, hml, hown, hts, hK, hlk, hA⟩ := id C0
  have hnm := hT.1
  have hnh := hT.2.1
  have hnc := hT.2.2.1
  have hbHr := hnh r
  have hbCr := hnc r
  have hl : lv_has ls 3 [(0, .ref (ad (hh_rI r))), (1, .ref (ad (hh_hI r i)))] := hl
  refine lv_aload_n hx hb dX5_wouldBeFound_0 rfl (lv_at hl 1 rfl) ?_
  refine hh_get C0 hp (C := RX1) (T := TX1) (N := 13) (ci := 1) (hh_b_h hr hi) (hh_E_h r hi) rfl hh_uX1 7 (by decide) hm_139 rfl rfl dX5_wouldBeFound_1 ?_
  refine lv_topi (fun x_4 ex_4 => ?_)
  refine lv_istore_n (lv' := [(2, .int x_4), (0, .ref (ad (hh_rI r))), (1, .ref (ad (hh_hI r i)))]) hx hb dX5_wouldBeFound_4 rfl hl (by decide) rfl (fun ls hl => ?_)
  refine lv_iload_n hx hb dX5_wouldBeFound_5 rfl (lv_at hl 0 rfl) ?_
  refine lv_iconst (v := (-1)) hx hb dX5_wouldBeFound_6 (by decide) ?_
  refine lv_icmp_ne (tgt := 24) hx hb dX5_wouldBeFound_7 (by decide) (fun c_7 => ?_) (fun c_7 => ?_)
  · refine lv_aload_n hx hb dX5_wouldBeFound_24 rfl (lv_at hl 1 rfl) ?_
    refine lv_aload_n hx hb dX5_wouldBeFound_25 rfl (lv_at hl 2 rfl) ?_
    refine lv_iload_n hx hb dX5_wouldBeFound_26 rfl (lv_at hl 0 rfl) ?_
    refine lv_iconst (v := 1) hx hb dX5_wouldBeFound_27 (by decide) ?_
    refine lv_isub hx hb dX5_wouldBeFound_28 ?_
    refine hh_cVi C0 hp (As := [.ref (ad (hh_hI r i)), .int (x_4 - 1)]) (rest := []) (C := RX5) (T := TX5) (N := 10) (ci := 5) (n := 2) (hk_X5_isInArea l D K ad hT r i (x_4 - 1) hr hi) rfl (hh_b_r hr) (hh_E_r r) (hh_gV hm_147 hm_148 hm_149 hm_128 hm_150) ⟨rfl, rfl⟩ (by decide +kernel) ⟨Nat.le_of_ble_eq_true rfl, Nat.le_of_ble_eq_true rfl⟩ ⟨Nat.zero_le _, Nat.zero_le _⟩ hl.1 rfl rfl (Nat.le_of_ble_eq_true rfl) dX5_wouldBeFound_29 (fun q_29 v_29 H locs hv_29 hp => ?_)
    obtain ⟨eq_29, hv9, hpq_29a⟩ := hv_29
    rw [hv9] at hp; clear hv9
    refine lv_if_ne (tgt := 55) hx hb dX5_wouldBeFound_32 (by decide) (fun c_32 => ?_) (fun c_32 => ?_)
    · refine lv_iconst (v := 1) hx hb dX5_wouldBeFound_55 (by decide) ?_
      refine lv_goto (tgt := 60) hx hb dX5_wouldBeFound_56 (by decide) ?_
      exact hh_zret C0 hp dX5_wouldBeFound_60 (Or.inr rfl) ⟨(by unfold hf_X5_wouldBeFound; rw [hh_let_eq ex_4, if_neg c_7, hh_let_eq eq_29, if_neg c_32]), rfl⟩
    · refine lv_aload_n hx hb dX5_wouldBeFound_35 rfl (lv_at hl 1 rfl) ?_
      refine lv_aload_n hx hb dX5_wouldBeFound_36 rfl (lv_at hl 2 rfl) ?_
      refine lv_iload_n hx hb dX5_wouldBeFound_37 rfl (lv_at hl 0 rfl) ?_
      refine hh_cVi C0 hp (As := [.ref (ad (hh_hI r i)), .int x_4]) (rest := []) (C := RX5) (T := TX5) (N := 10) (ci := 5) (n := 2) (hk_X5_isInArea l D K ad hT r i x_4 hr hi) rfl (hh_b_r hr) (hh_E_r r) (hh_gV hm_147 hm_148 hm_149 hm_128 hm_150) ⟨rfl, rfl⟩ (by decide +kernel) ⟨Nat.le_of_ble_eq_true rfl, Nat.le_of_ble_eq_true rfl⟩ ⟨Nat.zero_le _, Nat.zero_le _⟩ hl.1 rfl rfl (Nat.le_of_ble_eq_true rfl) dX5_wouldBeFound_38 (fun q_38 v_38 H locs hv_38 hp => ?_)
      obtain ⟨eq_38, hv9, hpq_38a⟩ := hv_38
      rw [hv9] at hp; clear hv9
      refine lv_if_ne (tgt := 55) hx hb dX5_wouldBeFound_41 (by decide) (fun c_41 => ?_) (fun c_41 => ?_)
      · refine lv_iconst (v := 1) hx hb dX5_wouldBeFound_55 (by decide) ?_
        refine lv_goto (tgt := 60) hx hb dX5_wouldBeFound_56 (by decide) ?_
        exact hh_zret C0 hp dX5_wouldBeFound_60 (Or.inr rfl) ⟨(by unfold hf_X5_wouldBeFound; rw [hh_let_eq ex_4, if_neg c_7, hh_let_eq eq_29, if_pos c_32, hh_let_eq eq_38, if_neg c_41]), rfl⟩
      · refine lv_aload_n hx hb dX5_wouldBeFound_44 rfl (lv_at hl 1 rfl) ?_
        refine lv_aload_n hx hb dX5_wouldBeFound_45 rfl (lv_at hl 2 rfl) ?_
        refine lv_iload_n hx hb dX5_wouldBeFound_46 rfl (lv_at hl 0 rfl) ?_
        refine lv_iconst (v := 1) hx hb dX5_wouldBeFound_47 (by decide) ?_
        refine lv_iadd hx hb dX5_wouldBeFound_48 ?_
        refine hh_cVi C0 hp (As := [.ref (ad (hh_hI r i)), .int (x_4 + 1)]) (rest := []) (C := RX5) (T := TX5) (N := 10) (ci := 5) (n := 2) (hk_X5_isInArea l D K ad hT r i (x_4 + 1) hr hi) rfl (hh_b_r hr) (hh_E_r r) (hh_gV hm_147 hm_148 hm_149 hm_128 hm_150) ⟨rfl, rfl⟩ (by decide +kernel) ⟨Nat.le_of_ble_eq_true rfl, Nat.le_of_ble_eq_true rfl⟩ ⟨Nat.zero_le _, Nat.zero_le _⟩ hl.1 rfl rfl (Nat.le_of_ble_eq_true rfl) dX5_wouldBeFound_49 (fun q_49 v_49 H locs hv_49 hp => ?_)
        obtain ⟨eq_49, hv9, hpq_49a⟩ := hv_49
        rw [hv9] at hp; clear hv9
        refine lv_if_eq (tgt := 59) hx hb dX5_wouldBeFound_52 (by decide) (fun c_52 => ?_) (fun c_52 => ?_)
        · refine lv_iconst (v := 0) hx hb dX5_wouldBeFound_59 (by decide) ?_
          exact hh_zret C0 hp dX5_wouldBeFound_60 (Or.inl rfl) ⟨(by unfold hf_X5_wouldBeFound; rw [hh_let_eq ex_4, if_neg c_7, hh_let_eq eq_29, if_pos c_32, hh_let_eq eq_38, if_pos c_41, hh_let_eq eq_49, if_pos c_52]), rfl⟩
        · refine lv_iconst (v := 1) hx hb dX5_wouldBeFound_55 (by decide) ?_
          refine lv_goto (tgt := 60) hx hb dX5_wouldBeFound_56 (by decide) ?_
          exact hh_zret C0 hp dX5_wouldBeFound_60 (Or.inr rfl) ⟨(by unfold hf_X5_wouldBeFound; rw [hh_let_eq ex_4, if_neg c_7, hh_let_eq eq_29, if_pos c_32, hh_let_eq eq_38, if_pos c_41, hh_let_eq eq_49, if_neg c_52]), rfl⟩
  · refine lv_aload_n hx hb dX5_wouldBeFound_10 rfl (lv_at hl 2 rfl) ?_
    refine hh_get C0 hp (C := RX1) (T := TX1) (N := 13) (ci := 1) (hh_b_h hr hi) (hh_E_h r hi) rfl hh_uX1 5 (by decide) hm_140 rfl rfl dX5_wouldBeFound_11 ?_
    refine lv_iconst (v := (-1)) hx hb dX5_wouldBeFound_14 (by decide) ?_
    refine lv_icmp_eq (tgt := 22) hx hb dX5_wouldBeFound_15 (by decide) (fun c_15 => ?_) (fun c_15 => ?_)
    · refine lv_iconst (v := 0) hx hb dX5_wouldBeFound_22 (by decide) ?_
      exact hh_zret C0 hp dX5_wouldBeFound_23 (Or.inl rfl) ⟨(by unfold hf_X5_wouldBeFound; rw [hh_let_eq ex_4, if_pos c_7, if_pos c_15]), rfl⟩
    · refine lv_iconst (v := 1) hx hb dX5_wouldBeFound_18 (by decide) ?_
      refine lv_goto (tgt := 23) hx hb dX5_wouldBeFound_19 (by decide) ?_
      exact hh_zret C0 hp dX5_wouldBeFound_23 (Or.inr rfl) ⟨(by unfold hf_X5_wouldBeFound; rw [hh_let_eq ex_4, if_pos c_7, if_neg c_15]), rfl⟩
def hl_X5_handsetsToBeFound_4 (v : hh_M) (r : Nat) (i : Nat) (a4_1 : Int32) : Int32 := (hh_let (hf_X5_wouldBeFound v r i : Int32) (fun (q_19 : Int32) => (if q_19 = 0 then a4_1 else (hh_let ((a4_1 + 1) : Int32) (fun (x_25 : Int32) => x_25)))))
def hf_X5_handsetsToBeFound (v : hh_M) (r : Nat) : Int32 := (hh_let (hh_fld (fun (i9 : Nat) (z : Int32) => hl_X5_handsetsToBeFound_4 v r i9 z) ((v (hh_rI r) 5).toNatClampNeg) 0 : Int32) (fun (a4_1 : Int32) => a4_1))
set_option maxHeartbeats 4000000 in
set_option maxRecDepth 100000 in
theorem hk_X5_handsetsToBeFound (l : Launch) (D : va_G) (K : Nat → ClassId) (ad : Nat → Nat) {nm : Nat} {nh nc : Nat → Nat} {v : hh_M} (hT : hh_T nm nh nc v) (r : Nat) (hr : r < 2) : hh_Ki l D K ad yX5_handsetsToBeFound (hh_wm yX5_handsetsToBeFound cX5_handsetsToBeFound 3 (some .int)) { frames := 2, cells := 0, slots := 0, locals := 44 } [.ref (ad (hh_rI r))] v (fun (q : Int32) (v1 : hh_M) => q = hf_X5_handsetsToBeFound v r ∧ v1 = v) := by
  refine hh_Ki_of (by decide) (Nat.le_of_ble_eq_true rfl) ?_
  intro p e s m args below meth c ls A C0 hp hl
  obtain ⟨hx, hb, hr9, hml, hown, hts, hK, hlk, hA⟩ := id C0
  have hnm := hT.1
  have hnh := hT.2.1
  have hnc := hT.2.2.1
  have hbHr := hnh r
  have hbCr := hnc r
  have hl : lv_has ls 3 [(0, .ref (ad (hh_rI r)))] := hl
  refine lv_iconst (v := 0) hx hb dX5_handsetsToBeFound_0 (by decide) ?_
  refine lv_istore_n (lv' := [(1, .int 0), (0, .ref (ad (hh_rI r)))]) hx hb dX5_handsetsToBeFound_1 rfl hl (by decide) rfl (fun ls hl => ?_)
  refine lv_iconst (v := 0) hx hb dX5_handsetsToBeFound_2 (by decide) ?_
  refine lv_istore_n (lv' := [(2, .int 0), (1, .int 0), (0, .ref (ad (hh_rI r)))]) hx hb dX5_handsetsToBeFound_3 rfl hl (by decide) rfl (fun ls hl => ?_)
  have hL_4 : ∀ (n i : Nat) (a4_1 : Int32) (H : Heap) (locs : List Loc) (ls : Array Slot), i ≤ nh r → nh r - i < n → a4_1 = hh_fld (fun (i9 : Nat) (z : Int32) => hl_X5_handsetsToBeFound_4 v r i9 z) i 0 → hh_H D K ad A s.heap v H locs → lv_has ls 3 [(2, .int (nI i)), (1, .int a4_1), (0, .ref (ad (hh_rI r)))] → W p l e ({ frames := 2, cells := 0, slots := 0, locals := 44 } : Room) s m args below meth c H locs 0 0 (MQ below (va_Qi (fun (q : Int32) (v1 : hh_M) => q = hf_X5_handsetsToBeFound v r ∧ v1 = v) (hh_B D K ad A) A) args s 0 0 A) (F0 m 4 ls []) := by
    intro n
    induction n with
    | zero => intro i a4_1 H locs ls h1 h2; omega
    | succ n ih =>
      intro i a4_1 H locs ls hii hni hsL_4 hp hl
      refine lv_iload_n hx hb dX5_handsetsToBeFound_4 rfl (lv_at hl 0 rfl) ?_
      refine lv_aload_n hx hb dX5_handsetsToBeFound_5 rfl (lv_at hl 2 rfl) ?_
      refine hh_get C0 hp (C := RX5) (T := TX5) (N := 10) (ci := 5) (hh_b_r hr) (hh_E_r r) rfl hh_uX5 5 (by decide) hm_111 rfl rfl dX5_handsetsToBeFound_6 ?_
      refine lv_icmp_ge (tgt := 34) hx hb dX5_handsetsToBeFound_9 (by decide) (fun c_9 => ?_) (fun c_9 => ?_)
      · have hbc_9 : (v (hh_rI r) 5) = nI (nh r) := hh_T_r5 hT r
        rw [hbc_9] at c_9
        have hc_9 := (nI_leI (a := nh r) (b := i) (by omega) (by omega))
        have hltc_9 : nh r ≤ i := by exact hc_9.mp c_9
        have hNL_4 : i = nh r := by omega
        rw [hNL_4] at hsL_4
        have hsL_4 : a4_1 = hh_fld (fun (i9 : Nat) (z : Int32) => hl_X5_handsetsToBeFound_4 v r i9 z) ((v (hh_rI r) 5).toNatClampNeg) 0 := by rw [hsL_4, show (v (hh_rI r) 5).toNatClampNeg = nh r from by rw [hh_T_r5 hT r]; exact nI_clamp (by have := hnh r; omega)]
        have ea4_1 : a4_1 = hh_fld (fun (i9 : Nat) (z : Int32) => hl_X5_handsetsToBeFound_4 v r i9 z) ((v (hh_rI r) 5).toNatClampNeg) 0 := hsL_4
        clear ih hsL_4
        refine lv_iload_n hx hb dX5_handsetsToBeFound_34 rfl (lv_at hl 1 rfl) ?_
        exact hh_iret C0 hp dX5_handsetsToBeFound_35 ⟨(by unfold hf_X5_handsetsToBeFound; rw [hh_let_eq ea4_1]), rfl⟩
      · have hbc_9 : (v (hh_rI r) 5) = nI (nh r) := hh_T_r5 hT r
        rw [hbc_9] at c_9
        have hc_9 := (nI_leI (a := nh r) (b := i) (by omega) (by omega))
        have hltc_9 : i < nh r := by exact Nat.not_le.mp (fun z => c_9 (hc_9.mpr z))
        have hbH := hnh r
        refine lv_aload_n hx hb dX5_handsetsToBeFound_12 rfl (lv_at hl 2 rfl) ?_
        refine lv_aload_n hx hb dX5_handsetsToBeFound_13 rfl (lv_at hl 2 rfl) ?_
        refine hh_get C0 hp (C := RX5) (T := TX5) (N := 10) (ci := 5) (hh_b_r hr) (hh_E_r r) rfl hh_uX5 3 (by decide) hm_101 rfl rfl dX5_handsetsToBeFound_14 ?_
        refine lv_iload_n hx hb dX5_handsetsToBeFound_17 rfl (lv_at hl 0 rfl) ?_
        refine hh_aal C0 hp (t0 := 3) (f := (hh_hI r)) (hh_b_H hr) (hh_E_H r) rfl rfl (vp_in_nI (by omega) (by decide)) (nI_clamp (by omega)) dX5_handsetsToBeFound_18 ?_
        refine hh_cVi C0 hp (As := [.ref (ad (hh_hI r i))]) (rest := []) (C := RX5) (T := TX5) (N := 10) (ci := 5) (n := 1) (hk_X5_wouldBeFound l D K ad hT r i hr (by omega : i < 8)) rfl (hh_b_r hr) (hh_E_r r) (hh_gV hm_154 hm_155 hm_156 hm_128 hm_152) ⟨rfl, rfl⟩ (by decide +kernel) ⟨Nat.le_of_ble_eq_true rfl, Nat.le_of_ble_eq_true rfl⟩ ⟨Nat.zero_le _, Nat.zero_le _⟩ hl.1 rfl rfl (Nat.le_of_ble_eq_true rfl) dX5_handsetsToBeFound_19 (fun q_19 v_19 H locs hv_19 hp => ?_)
        obtain ⟨eq_19, hv9⟩ := hv_19
        rw [hv9] at hp; clear hv9
        refine lv_if_eq (tgt := 28) hx hb dX5_handsetsToBeFound_22 (by decide) (fun c_22 => ?_) (fun c_22 => ?_)
        · refine lv_iinc (v := (nI (i + 1))) (lv' := [(2, .int (nI (i + 1))), (1, .int a4_1), (0, .ref (ad (hh_rI r)))]) hx hb dX5_handsetsToBeFound_28 hl (k := 0) rfl (nI_1 i) (by decide) rfl (fun ls hl => ?_)
          refine lv_goto (tgt := 4) hx hb dX5_handsetsToBeFound_31 (by decide) ?_
          exact ih (i + 1) a4_1 _ _ _ (by omega) (by omega) (by rw [hh_fld, ← hsL_4]; show _ = hl_X5_handsetsToBeFound_4 v r i a4_1; unfold hl_X5_handsetsToBeFound_4; rw [hh_let_eq eq_19, if_pos c_22]) hp (lv_sub hl [0, 1, 2] rfl)
        · obtain ⟨x_25, ex_25⟩ : ∃ z : Int32, z = (a4_1 + 1) := ⟨_, rfl⟩
          refine lv_iinc (v := x_25) (lv' := [(1, .int x_25), (2, .int (nI i)), (0, .ref (ad (hh_rI r)))]) hx hb dX5_handsetsToBeFound_25 hl (k := 1) rfl (by rw [ex_25]; rfl) (by decide) rfl (fun ls hl => ?_)
          refine lv_iinc (v := (nI (i + 1))) (lv' := [(2, .int (nI (i + 1))), (1, .int x_25), (0, .ref (ad (hh_rI r)))]) hx hb dX5_handsetsToBeFound_28 hl (k := 1) rfl (nI_1 i) (by decide) rfl (fun ls hl => ?_)
          refine lv_goto (tgt := 4) hx hb dX5_handsetsToBeFound_31 (by decide) ?_
          exact ih (i + 1) x_25 _ _ _ (by omega) (by omega) (by rw [hh_fld, ← hsL_4]; show _ = hl_X5_handsetsToBeFound_4 v r i a4_1; unfold hl_X5_handsetsToBeFound_4; rw [hh_let_eq eq_19, if_neg c_22, hh_let_eq ex_25]) hp (lv_sub hl [0, 1, 2] rfl)
  exact hL_4 (nh r + 1) 0 0 _ _ _ (Nat.zero_le _) (by omega) rfl hp (lv_sub hl [0, 1, 2] rfl)
def hf_X5_page (v : hh_M) (r : Nat) (i : Nat) : Int32 × hh_M := (hh_let ((v (hh_hI r i) 7) : Int32) (fun (x_4 : Int32) => (if x_4 = (-1) then (hh_let (hf_X4_awake v : Int32) (fun (q_19 : Int32) => (hh_let (hh_up v (hh_rI r) 9 ((v (hh_rI r) 9) + q_19) : hh_M) (fun (v_23 : hh_M) => (if (v_23 (hh_hI r i) 5) = (-1) then (0, v_23) else (1, v_23)))))) else (hh_let (hf_X4_awakeInArea v x_4 : Int32) (fun (q_50 : Int32) => (hh_let (hh_up v (hh_rI r) 9 ((v (hh_rI r) 9) + q_50) : hh_M) (fun (v_54 : hh_M) => (hh_let (hf_X5_isInArea v_54 r i x_4 : Int32) (fun (q_60 : Int32) => (if q_60 = 0 then (hh_let (hf_X4_awakeInArea v_54 (x_4 - 1) : Int32) (fun (q_80 : Int32) => (hh_let (hf_X4_awakeInArea v_54 (x_4 + 1) : Int32) (fun (q_90 : Int32) => (hh_let (hh_up v_54 (hh_rI r) 9 ((v_54 (hh_rI r) 9) + (q_80 + q_90)) : hh_M) (fun (v_95 : hh_M) => (hh_let (hf_X5_isInArea v_95 r i (x_4 - 1) : Int32) (fun (q_103 : Int32) => (if q_103 = 0 then (hh_let (hf_X5_isInArea v_95 r i (x_4 + 1) : Int32) (fun (q_114 : Int32) => (if q_114 = 0 then (0, v_95) else (1, v_95)))) else (1, v_95)))))))))) else (1, v_54)))))))))))
set_option maxHeartbeats 4000000 in
set_option maxRecDepth 100000 in
theorem hk_X5_page (l : Launch) (D : va_G) (K : Nat → ClassId) (ad : Nat → Nat) {nm : Nat} {nh nc : Nat → Nat} {v : hh_M} (hT : hh_T nm nh nc v) (r : Nat) (i : Nat) (hr : r < 2) (hi : i < 8) : hh_Ki l D K ad yX5_page (hh_wm yX5_page cX5_page 3 (some .boolean)) { frames := 1, cells := 0, slots := 0, locals := 23 } [.ref (ad (hh_rI r)), .ref (ad (hh_hI r i))] v (fun (q : Int32) (v1 : hh_M) => (q, v1) = hf_X5_page v r i ∧ hh_T nm nh nc v1 ∧ (q = 0 ∨ ¬ v1 (hh_hI r i) 5 = -1) ∧ (∀ a b, a ≠ hh_rI r → v1 a b = v a b)) := by
  refine hh_Ki_of (by decide) (Nat.le_of_ble_eq_true rfl) ?_
  intro p e s m args below meth c ls A C0 hp hl
  obtain ⟨hx, hb, hr9, hml, hown, hts, hK, hlk, hA⟩ := id C0
  have hnm := hT.1
  have hnh := hT.2.1
  have hnc := hT.2.2.1
  have hbHr := hnh r
  have hbCr := hnc r
  have hl : lv_has ls 3 [(0, .ref (ad (hh_rI r))), (1, .ref (ad (hh_hI r i)))] := hl
  refine lv_aload_n hx hb dX5_page_0 rfl (lv_at hl 1 rfl) ?_
  refine hh_get C0 hp (C := RX1) (T := TX1) (N := 13) (ci := 1) (hh_b_h hr hi) (hh_E_h r hi) rfl hh_uX1 7 (by decide) hm_139 rfl rfl dX5_page_1 ?_
  refine lv_topi (fun x_4 ex_4 => ?_)
  refine lv_istore_n (lv' := [(2, .int x_4), (0, .ref (ad (hh_rI r))), (1, .ref (ad (hh_hI r i)))]) hx hb dX5_page_4 rfl hl (by decide) rfl (fun ls hl => ?_)
  refine lv_iload_n hx hb dX5_page_5 rfl (lv_at hl 0 rfl) ?_
  refine lv_iconst (v := (-1)) hx hb dX5_page_6 (by decide) ?_
  refine lv_icmp_ne (tgt := 40) hx hb dX5_page_7 (by decide) (fun c_7 => ?_) (fun c_7 => ?_)
  · refine lv_aload_n hx hb dX5_page_40 rfl (lv_at hl 1 rfl) ?_
    refine lv_dup hx hb dX5_page_41 rfl ?_
    refine hh_get C0 hp (C := RX5) (T := TX5) (N := 10) (ci := 5) (hh_b_r hr) (hh_E_r r) rfl hh_uX5 9 (by decide) hm_115 rfl rfl dX5_page_42 ?_
    refine lv_aload_n hx hb dX5_page_45 rfl (lv_at hl 1 rfl) ?_
    refine hh_get C0 hp (C := RX5) (T := TX5) (N := 10) (ci := 5) (hh_b_r hr) (hh_E_r r) rfl hh_uX5 0 (by decide) hm_97 rfl rfl dX5_page_46 ?_
    refine lv_iload_n hx hb dX5_page_49 rfl (lv_at hl 0 rfl) ?_
    refine hh_cVi C0 hp (As := [.int x_4]) (rest := [.int (v (hh_rI r) 9), .ref (ad (hh_rI r))]) (C := RX4) (T := TX4) (N := 3) (ci := 4) (n := 1) (hk_X4_awakeInArea l D K ad hT x_4) rfl (by decide) hh_E_1 (hh_gV hm_144 hm_145 hm_146 hm_83 hm_92) ⟨rfl, rfl⟩ (by decide +kernel) ⟨Nat.le_of_ble_eq_true rfl, Nat.le_of_ble_eq_true rfl⟩ ⟨Nat.zero_le _, Nat.zero_le _⟩ hl.1 rfl rfl (Nat.le_of_ble_eq_true rfl) dX5_page_50 (fun q_50 v_50 H locs hv_50 hp => ?_)
    obtain ⟨eq_50, hv9⟩ := hv_50
    rw [hv9] at hp; clear hv9
    refine lv_iadd hx hb dX5_page_53 ?_
    refine hh_put C0 hp (C := RX5) (T := TX5) (N := 10) (ci := 5) (k := 9) (ty := .int) (hh_b_r hr) (hh_E_r r) (hh_pr9 r) rfl hh_uX5 tyX5_ok nmX5 (by decide) hm_115 rfl rfl (by decide +kernel) rfl rfl (Nat.le_of_ble_eq_true rfl) dX5_page_54 (fun H locs hp => ?_)
    obtain ⟨v_54, ev_54⟩ : ∃ z : hh_M, z = hh_up v (hh_rI r) 9 ((v (hh_rI r) 9) + q_50) := ⟨_, rfl⟩
    rw [← ev_54] at hp
    have hTv_54 : hh_T nm nh nc v_54 := by rw [ev_54]; exact hh_T_up hT (hh_Rt_r hr (by decide))
    refine lv_aload_n hx hb dX5_page_57 rfl (lv_at hl 1 rfl) ?_
    refine lv_aload_n hx hb dX5_page_58 rfl (lv_at hl 2 rfl) ?_
    refine lv_iload_n hx hb dX5_page_59 rfl (lv_at hl 0 rfl) ?_
    refine hh_cVi C0 hp (As := [.ref (ad (hh_hI r i)), .int x_4]) (rest := []) (C := RX5) (T := TX5) (N := 10) (ci := 5) (n := 2) (hk_X5_isInArea l D K ad hTv_54 r i x_4 hr hi) rfl (hh_b_r hr) (hh_E_r r) (hh_gV hm_147 hm_148 hm_149 hm_128 hm_150) ⟨rfl, rfl⟩ (by decide +kernel) ⟨Nat.le_of_ble_eq_true rfl, Nat.le_of_ble_eq_true rfl⟩ ⟨Nat.zero_le _, Nat.zero_le _⟩ hl.1 rfl rfl (Nat.le_of_ble_eq_true rfl) dX5_page_60 (fun q_60 v_60 H locs hv_60 hp => ?_)
    obtain ⟨eq_60, hv9, hpq_60a⟩ := hv_60
    rw [hv9] at hp; clear hv9
    refine lv_if_eq (tgt := 68) hx hb dX5_page_63 (by decide) (fun c_63 => ?_) (fun c_63 => ?_)
    · refine lv_aload_n hx hb dX5_page_68 rfl (lv_at hl 1 rfl) ?_
      refine lv_dup hx hb dX5_page_69 rfl ?_
      refine hh_get C0 hp (C := RX5) (T := TX5) (N := 10) (ci := 5) (hh_b_r hr) (hh_E_r r) rfl hh_uX5 9 (by decide) hm_115 rfl rfl dX5_page_70 ?_
      refine lv_aload_n hx hb dX5_page_73 rfl (lv_at hl 1 rfl) ?_
      refine hh_get C0 hp (C := RX5) (T := TX5) (N := 10) (ci := 5) (hh_b_r hr) (hh_E_r r) rfl hh_uX5 0 (by decide) hm_97 rfl rfl dX5_page_74 ?_
      refine lv_iload_n hx hb dX5_page_77 rfl (lv_at hl 0 rfl) ?_
      refine lv_iconst (v := 1) hx hb dX5_page_78 (by decide) ?_
      refine lv_isub hx hb dX5_page_79 ?_
      refine hh_cVi C0 hp (As := [.int (x_4 - 1)]) (rest := [.int (v_54 (hh_rI r) 9), .ref (ad (hh_rI r))]) (C := RX4) (T := TX4) (N := 3) (ci := 4) (n := 1) (hk_X4_awakeInArea l D K ad hTv_54 (x_4 - 1)) rfl (by decide) hh_E_1 (hh_gV hm_144 hm_145 hm_146 hm_83 hm_92) ⟨rfl, rfl⟩ (by decide +kernel) ⟨Nat.le_of_ble_eq_true rfl, Nat.le_of_ble_eq_true rfl⟩ ⟨Nat.zero_le _, Nat.zero_le _⟩ hl.1 rfl rfl (Nat.le_of_ble_eq_true rfl) dX5_page_80 (fun q_80 v_80 H locs hv_80 hp => ?_)
      obtain ⟨eq_80, hv9⟩ := hv_80
      rw [hv9] at hp; clear hv9
      refine lv_aload_n hx hb dX5_page_83 rfl (lv_at hl 1 rfl) ?_
      refine hh_get C0 hp (C := RX5) (T := TX5) (N := 10) (ci := 5) (hh_b_r hr) (hh_E_r r) rfl hh_uX5 0 (by decide) hm_97 rfl rfl dX5_page_84 ?_
      refine lv_iload_n hx hb dX5_page_87 rfl (lv_at hl 0 rfl) ?_
      refine lv_iconst (v := 1) hx hb dX5_page_88 (by decide) ?_
      refine lv_iadd hx hb dX5_page_89 ?_
      refine hh_cVi C0 hp (As := [.int (x_4 + 1)]) (rest := [.int q_80, .int (v_54 (hh_rI r) 9), .ref (ad (hh_rI r))]) (C := RX4) (T := TX4) (N := 3) (ci := 4) (n := 1) (hk_X4_awakeInArea l D K ad hTv_54 (x_4 + 1)) rfl (by decide) hh_E_1 (hh_gV hm_144 hm_145 hm_146 hm_83 hm_92) ⟨rfl, rfl⟩ (by decide +kernel) ⟨Nat.le_of_ble_eq_true rfl, Nat.le_of_ble_eq_true rfl⟩ ⟨Nat.zero_le _, Nat.zero_le _⟩ hl.1 rfl rfl (Nat.le_of_ble_eq_true rfl) dX5_page_90 (fun q_90 v_90 H locs hv_90 hp => ?_)
      obtain ⟨eq_90, hv9⟩ := hv_90
      rw [hv9] at hp; clear hv9
      refine lv_iadd hx hb dX5_page_93 ?_
      refine lv_iadd hx hb dX5_page_94 ?_
      refine hh_put C0 hp (C := RX5) (T := TX5) (N := 10) (ci := 5) (k := 9) (ty := .int) (hh_b_r hr) (hh_E_r r) (hh_pr9 r) rfl hh_uX5 tyX5_ok nmX5 (by decide) hm_115 rfl rfl (by decide +kernel) rfl rfl (Nat.le_of_ble_eq_true rfl) dX5_page_95 (fun H locs hp => ?_)
      obtain ⟨v_95, ev_95⟩ : ∃ z : hh_M, z = hh_up v_54 (hh_rI r) 9 ((v_54 (hh_rI r) 9) + (q_80 + q_90)) := ⟨_, rfl⟩
      rw [← ev_95] at hp
      have hTv_95 : hh_T nm nh nc v_95 := by rw [ev_95]; exact hh_T_up hTv_54 (hh_Rt_r hr (by decide))
      refine lv_aload_n hx hb dX5_page_98 rfl (lv_at hl 1 rfl) ?_
      refine lv_aload_n hx hb dX5_page_99 rfl (lv_at hl 2 rfl) ?_
      refine lv_iload_n hx hb dX5_page_100 rfl (lv_at hl 0 rfl) ?_
      refine lv_iconst (v := 1) hx hb dX5_page_101 (by decide) ?_
      refine lv_isub hx hb dX5_page_102 ?_
      refine hh_cVi C0 hp (As := [.ref (ad (hh_hI r i)), .int (x_4 - 1)]) (rest := []) (C := RX5) (T := TX5) (N := 10) (ci := 5) (n := 2) (hk_X5_isInArea l D K ad hTv_95 r i (x_4 - 1) hr hi) rfl (hh_b_r hr) (hh_E_r r) (hh_gV hm_147 hm_148 hm_149 hm_128 hm_150) ⟨rfl, rfl⟩ (by decide +kernel) ⟨Nat.le_of_ble_eq_true rfl, Nat.le_of_ble_eq_true rfl⟩ ⟨Nat.zero_le _, Nat.zero_le _⟩ hl.1 rfl rfl (Nat.le_of_ble_eq_true rfl) dX5_page_103 (fun q_103 v_103 H locs hv_103 hp => ?_)
      obtain ⟨eq_103, hv9, hpq_103a⟩ := hv_103
      rw [hv9] at hp; clear hv9
      refine lv_if_ne (tgt := 120) hx hb dX5_page_106 (by decide) (fun c_106 => ?_) (fun c_106 => ?_)
      · refine lv_iconst (v := 1) hx hb dX5_page_120 (by decide) ?_
        refine lv_goto (tgt := 125) hx hb dX5_page_121 (by decide) ?_
        exact hh_zret C0 hp dX5_page_125 (Or.inr rfl) ⟨(by show (_, _) = _; unfold hf_X5_page; rw [hh_let_eq ex_4, if_neg c_7, hh_let_eq eq_50, hh_let_eq ev_54, hh_let_eq eq_60, if_pos c_63, hh_let_eq eq_80, hh_let_eq eq_90, hh_let_eq ev_95, hh_let_eq eq_103, if_neg c_106]), hTv_95, (by first | exact Or.inl rfl | exact Or.inr (by assumption) | exact Or.inr (hpq_60a.resolve_left c_63) | exact Or.inr (hpq_103a.resolve_left c_106) | exact Or.inr (hpq_114a.resolve_left c_117)), (by intro a b h9; simp only [ev_95, ev_54, hh_upj h9])⟩
      · refine lv_aload_n hx hb dX5_page_109 rfl (lv_at hl 1 rfl) ?_
        refine lv_aload_n hx hb dX5_page_110 rfl (lv_at hl 2 rfl) ?_
        refine lv_iload_n hx hb dX5_page_111 rfl (lv_at hl 0 rfl) ?_
        refine lv_iconst (v := 1) hx hb dX5_page_112 (by decide) ?_
        refine lv_iadd hx hb dX5_page_113 ?_
        refine hh_cVi C0 hp (As := [.ref (ad (hh_hI r i)), .int (x_4 + 1)]) (rest := []) (C := RX5) (T := TX5) (N := 10) (ci := 5) (n := 2) (hk_X5_isInArea l D K ad hTv_95 r i (x_4 + 1) hr hi) rfl (hh_b_r hr) (hh_E_r r) (hh_gV hm_147 hm_148 hm_149 hm_128 hm_150) ⟨rfl, rfl⟩ (by decide +kernel) ⟨Nat.le_of_ble_eq_true rfl, Nat.le_of_ble_eq_true rfl⟩ ⟨Nat.zero_le _, Nat.zero_le _⟩ hl.1 rfl rfl (Nat.le_of_ble_eq_true rfl) dX5_page_114 (fun q_114 v_114 H locs hv_114 hp => ?_)
        obtain ⟨eq_114, hv9, hpq_114a⟩ := hv_114
        rw [hv9] at hp; clear hv9
        refine lv_if_eq (tgt := 124) hx hb dX5_page_117 (by decide) (fun c_117 => ?_) (fun c_117 => ?_)
        · refine lv_iconst (v := 0) hx hb dX5_page_124 (by decide) ?_
          exact hh_zret C0 hp dX5_page_125 (Or.inl rfl) ⟨(by show (_, _) = _; unfold hf_X5_page; rw [hh_let_eq ex_4, if_neg c_7, hh_let_eq eq_50, hh_let_eq ev_54, hh_let_eq eq_60, if_pos c_63, hh_let_eq eq_80, hh_let_eq eq_90, hh_let_eq ev_95, hh_let_eq eq_103, if_pos c_106, hh_let_eq eq_114, if_pos c_117]), hTv_95, (by first | exact Or.inl rfl | exact Or.inr (by assumption) | exact Or.inr (hpq_60a.resolve_left c_63) | exact Or.inr (hpq_103a.resolve_left c_106) | exact Or.inr (hpq_114a.resolve_left c_117)), (by intro a b h9; simp only [ev_95, ev_54, hh_upj h9])⟩
        · refine lv_iconst (v := 1) hx hb dX5_page_120 (by decide) ?_
          refine lv_goto (tgt := 125) hx hb dX5_page_121 (by decide) ?_
          exact hh_zret C0 hp dX5_page_125 (Or.inr rfl) ⟨(by show (_, _) = _; unfold hf_X5_page; rw [hh_let_eq ex_4, if_neg c_7, hh_let_eq eq_50, hh_let_eq ev_54, hh_let_eq eq_60, if_pos c_63, hh_let_eq eq_80, hh_let_eq eq_90, hh_let_eq ev_95, hh_let_eq eq_103, if_pos c_106, hh_let_eq eq_114, if_neg c_117]), hTv_95, (by first | exact Or.inl rfl | exact Or.inr (by assumption) | exact Or.inr (hpq_60a.resolve_left c_63) | exact Or.inr (hpq_103a.resolve_left c_106) | exact Or.inr (hpq_114a.resolve_left c_117)), (by intro a b h9; simp only [ev_95, ev_54, hh_upj h9])⟩
    · refine lv_iconst (v := 1) hx hb dX5_page_66 (by decide) ?_
      exact hh_zret C0 hp dX5_page_67 (Or.inr rfl) ⟨(by show (_, _) = _; unfold hf_X5_page; rw [hh_let_eq ex_4, if_neg c_7, hh_let_eq eq_50, hh_let_eq ev_54, hh_let_eq eq_60, if_neg c_63]), hTv_54, (by first | exact Or.inl rfl | exact Or.inr (by assumption) | exact Or.inr (hpq_60a.resolve_left c_63) | exact Or.inr (hpq_103a.resolve_left c_106) | exact Or.inr (hpq_114a.resolve_left c_117)), (by intro a b h9; simp only [ev_54, hh_upj h9])⟩
  · refine lv_aload_n hx hb dX5_page_10 rfl (lv_at hl 1 rfl) ?_
    refine lv_dup hx hb dX5_page_11 rfl ?_
    refine hh_get C0 hp (C := RX5) (T := TX5) (N := 10) (ci := 5) (hh_b_r hr) (hh_E_r r) rfl hh_uX5 9 (by decide) hm_115 rfl rfl dX5_page_12 ?_
    refine lv_aload_n hx hb dX5_page_15 rfl (lv_at hl 1 rfl) ?_
    refine hh_get C0 hp (C := RX5) (T := TX5) (N := 10) (ci := 5) (hh_b_r hr) (hh_E_r r) rfl hh_uX5 0 (by decide) hm_97 rfl rfl dX5_page_16 ?_
    refine hh_cVi C0 hp (As := []) (rest := [.int (v (hh_rI r) 9), .ref (ad (hh_rI r))]) (C := RX4) (T := TX4) (N := 3) (ci := 4) (n := 0) (hk_X4_awake l D K ad hT ) rfl (by decide) hh_E_1 (hh_gV hm_141 hm_142 hm_143 hm_83 hm_94) ⟨rfl, rfl⟩ (by decide +kernel) ⟨Nat.le_of_ble_eq_true rfl, Nat.le_of_ble_eq_true rfl⟩ ⟨Nat.zero_le _, Nat.zero_le _⟩ hl.1 rfl rfl (Nat.le_of_ble_eq_true rfl) dX5_page_19 (fun q_19 v_19 H locs hv_19 hp => ?_)
    obtain ⟨eq_19, hv9⟩ := hv_19
    rw [hv9] at hp; clear hv9
    refine lv_iadd hx hb dX5_page_22 ?_
    refine hh_put C0 hp (C := RX5) (T := TX5) (N := 10) (ci := 5) (k := 9) (ty := .int) (hh_b_r hr) (hh_E_r r) (hh_pr9 r) rfl hh_uX5 tyX5_ok nmX5 (by decide) hm_115 rfl rfl (by decide +kernel) rfl rfl (Nat.le_of_ble_eq_true rfl) dX5_page_23 (fun H locs hp => ?_)
    obtain ⟨v_23, ev_23⟩ : ∃ z : hh_M, z = hh_up v (hh_rI r) 9 ((v (hh_rI r) 9) + q_19) := ⟨_, rfl⟩
    rw [← ev_23] at hp
    have hTv_23 : hh_T nm nh nc v_23 := by rw [ev_23]; exact hh_T_up hT (hh_Rt_r hr (by decide))
    refine lv_aload_n hx hb dX5_page_26 rfl (lv_at hl 2 rfl) ?_
    refine hh_get C0 hp (C := RX1) (T := TX1) (N := 13) (ci := 1) (hh_b_h hr hi) (hh_E_h r hi) rfl hh_uX1 5 (by decide) hm_140 rfl rfl dX5_page_27 ?_
    refine lv_iconst (v := (-1)) hx hb dX5_page_30 (by decide) ?_
    refine lv_icmp_eq (tgt := 38) hx hb dX5_page_31 (by decide) (fun c_31 => ?_) (fun c_31 => ?_)
    · refine lv_iconst (v := 0) hx hb dX5_page_38 (by decide) ?_
      exact hh_zret C0 hp dX5_page_39 (Or.inl rfl) ⟨(by show (_, _) = _; unfold hf_X5_page; rw [hh_let_eq ex_4, if_pos c_7, hh_let_eq eq_19, hh_let_eq ev_23, if_pos c_31]), hTv_23, (by first | exact Or.inl rfl | exact Or.inr (by assumption) | exact Or.inr (hpq_60a.resolve_left c_63) | exact Or.inr (hpq_103a.resolve_left c_106) | exact Or.inr (hpq_114a.resolve_left c_117)), (by intro a b h9; simp only [ev_23, hh_upj h9])⟩
    · refine lv_iconst (v := 1) hx hb dX5_page_34 (by decide) ?_
      refine lv_goto (tgt := 39) hx hb dX5_page_35 (by decide) ?_
      exact hh_zret C0 hp dX5_page_39 (Or.inr rfl) ⟨(by show (_, _) = _; unfold hf_X5_page; rw [hh_let_eq ex_4, if_pos c_7, hh_let_eq eq_19, hh_let_eq ev_23, if_neg c_31]), hTv_23, (by first | exact Or.inl rfl | exact Or.inr (by assumption) | exact Or.inr (hpq_60a.resolve_left c_63) | exact Or.inr (hpq_103a.resolve_left c_106) | exact Or.inr (hpq_114a.resolve_left c_117)), (by intro a b h9; simp only [ev_23, hh_upj h9])⟩
def hf_X5_isMuchBetter (v : hh_M) (r : Nat) (candidate : Int32) (own_ : Int32) (place : Int32) : Int32 := (if candidate = (-1) then 0 else (hh_let (hf_X5_qualityAt v r candidate place : Int32) (fun (q_8 : Int32) => (hh_let (hf_X5_qualityAt v r own_ place : Int32) (fun (q_14 : Int32) => (if (q_8 - q_14) < 4 then 0 else 1))))))
set_option maxHeartbeats 4000000 in
set_option maxRecDepth 100000 in
theorem hk_X5_isMuchBetter (l : Launch) (D : va_G) (K : Nat → ClassId) (ad : Nat → Nat) {nm : Nat} {nh nc : Nat → Nat} {v : hh_M} (hT : hh_T nm nh nc v) (r : Nat) (candidate : Int32) (own_ : Int32) (place : Int32) (hr : r < 2) (h0 : -1 ≤ candidate ∧ candidate < nI nm) (h1 : vp_in own_ 6) (h2 : vp_in place 100) : hh_Ki l D K ad yX5_isMuchBetter (hh_wm yX5_isMuchBetter cX5_isMuchBetter 4 (some .boolean)) { frames := 1, cells := 0, slots := 0, locals := 22 } [.ref (ad (hh_rI r)), .int candidate, .int own_, .int place] v (fun (q : Int32) (v1 : hh_M) => q = hf_X5_isMuchBetter v r candidate own_ place ∧ v1 = v) := by
  refine hh_Ki_of (by decide) (Nat.le_of_ble_eq_true rfl) ?_
  intro p e s m args below meth c ls A C0 hp hl
  obtain ⟨hx, hb, hr9, hml, hown, hts, hK, hlk, hA⟩ := id C0
  have hnm := hT.1
  have hnh := hT.2.1
  have hnc := hT.2.2.1
  have hbHr := hnh r
  have hbCr := hnc r
  have hl : lv_has ls 4 [(0, .ref (ad (hh_rI r))), (1, .int candidate), (2, .int own_), (3, .int place)] := hl
  refine lv_iload_n hx hb dX5_isMuchBetter_0 rfl (lv_at hl 1 rfl) ?_
  refine lv_iconst (v := (-1)) hx hb dX5_isMuchBetter_1 (by decide) ?_
  refine lv_icmp_eq (tgt := 26) hx hb dX5_isMuchBetter_2 (by decide) (fun c_2 => ?_) (fun c_2 => ?_)
  · refine lv_iconst (v := 0) hx hb dX5_isMuchBetter_26 (by decide) ?_
    exact hh_zret C0 hp dX5_isMuchBetter_27 (Or.inl rfl) ⟨(by unfold hf_X5_isMuchBetter; rw [if_pos c_2]), rfl⟩
  · refine lv_aload_n hx hb dX5_isMuchBetter_5 rfl (lv_at hl 0 rfl) ?_
    refine lv_iload_n hx hb dX5_isMuchBetter_6 rfl (lv_at hl 1 rfl) ?_
    refine lv_iload_n hx hb dX5_isMuchBetter_7 rfl (lv_at hl 3 rfl) ?_
    refine hh_cVi C0 hp (As := [.int candidate, .int place]) (rest := []) (C := RX5) (T := TX5) (N := 10) (ci := 5) (n := 2) (hk_X5_qualityAt l D K ad hT r candidate place hr (hh_in h0 (by assumption) (by omega) (by decide)) (by assumption)) rfl (hh_b_r hr) (hh_E_r r) (hh_gV hm_125 hm_126 hm_127 hm_128 hm_122) ⟨rfl, rfl⟩ (by decide +kernel) ⟨Nat.le_of_ble_eq_true rfl, Nat.le_of_ble_eq_true rfl⟩ ⟨Nat.zero_le _, Nat.zero_le _⟩ hl.1 rfl rfl (Nat.le_of_ble_eq_true rfl) dX5_isMuchBetter_8 (fun q_8 v_8 H locs hv_8 hp => ?_)
    obtain ⟨eq_8, hv9⟩ := hv_8
    rw [hv9] at hp; clear hv9
    refine lv_aload_n hx hb dX5_isMuchBetter_11 rfl (lv_at hl 0 rfl) ?_
    refine lv_iload_n hx hb dX5_isMuchBetter_12 rfl (lv_at hl 2 rfl) ?_
    refine lv_iload_n hx hb dX5_isMuchBetter_13 rfl (lv_at hl 3 rfl) ?_
    refine hh_cVi C0 hp (As := [.int own_, .int place]) (rest := [.int q_8]) (C := RX5) (T := TX5) (N := 10) (ci := 5) (n := 2) (hk_X5_qualityAt l D K ad hT r own_ place hr (by assumption) (by assumption)) rfl (hh_b_r hr) (hh_E_r r) (hh_gV hm_125 hm_126 hm_127 hm_128 hm_122) ⟨rfl, rfl⟩ (by decide +kernel) ⟨Nat.le_of_ble_eq_true rfl, Nat.le_of_ble_eq_true rfl⟩ ⟨Nat.zero_le _, Nat.zero_le _⟩ hl.1 rfl rfl (Nat.le_of_ble_eq_true rfl) dX5_isMuchBetter_14 (fun q_14 v_14 H locs hv_14 hp => ?_)
    obtain ⟨eq_14, hv9⟩ := hv_14
    rw [hv9] at hp; clear hv9
    refine lv_isub hx hb dX5_isMuchBetter_17 ?_
    refine lv_iconst (v := 4) hx hb dX5_isMuchBetter_18 (by decide) ?_
    refine lv_icmp_lt (tgt := 26) hx hb dX5_isMuchBetter_19 (by decide) (fun c_19 => ?_) (fun c_19 => ?_)
    · refine lv_iconst (v := 0) hx hb dX5_isMuchBetter_26 (by decide) ?_
      exact hh_zret C0 hp dX5_isMuchBetter_27 (Or.inl rfl) ⟨(by unfold hf_X5_isMuchBetter; rw [if_neg c_2, hh_let_eq eq_8, hh_let_eq eq_14, if_pos c_19]), rfl⟩
    · refine lv_iconst (v := 1) hx hb dX5_isMuchBetter_22 (by decide) ?_
      refine lv_goto (tgt := 27) hx hb dX5_isMuchBetter_23 (by decide) ?_
      exact hh_zret C0 hp dX5_isMuchBetter_27 (Or.inr rfl) ⟨(by unfold hf_X5_isMuchBetter; rw [if_neg c_2, hh_let_eq eq_8, hh_let_eq eq_14, if_neg c_19]), rfl⟩
def hl_X5_candidateFor_10 (v : hh_M) (r : Nat) (own_ : Int32) (place : Int32) (i : Nat) (a10_3 : Int32) (a10_4 : Int32) : Int32 × Int32 := (if (nI i) = own_ then (a10_3, a10_4) else (if (v (hh_mI i) 6) = 0 then (a10_3, a10_4) else (hh_let (hf_X5_hasFreeChannels v r (nI i) 1 : Int32) (fun (q_48 : Int32) => (if q_48 = 0 then (a10_3, a10_4) else (hh_let (hf_X5_qualityAt v r (nI i) place : Int32) (fun (q_61 : Int32) => (if q_61 ≤ a10_4 then (a10_3, a10_4) else ((nI i), q_61)))))))))
def hf_X5_candidateFor (v : hh_M) (r : Nat) (own_ : Int32) (place : Int32) : Int32 := (hh_let ((hh_fld (fun (i9 : Nat) (z : Int32 × Int32) => hl_X5_candidateFor_10 v r own_ place i9 z.1 z.2) ((v 1 2).toNatClampNeg) ((-1), (-1000))).1 : Int32) (fun (a10_3 : Int32) => (hh_let ((hh_fld (fun (i9 : Nat) (z : Int32 × Int32) => hl_X5_candidateFor_10 v r own_ place i9 z.1 z.2) ((v 1 2).toNatClampNeg) ((-1), (-1000))).2 : Int32) (fun (a10_4 : Int32) => a10_3))))
set_option maxHeartbeats 4000000 in
set_option maxRecDepth 100000 in
theorem hk_X5_candidateFor (l : Launch) (D : va_G) (K : Nat → ClassId) (ad : Nat → Nat) {nm : Nat} {nh nc : Nat → Nat} {v : hh_M} (hT : hh_T nm nh nc v) (r : Nat) (own_ : Int32) (place : Int32) (hr : r < 2) (h2 : vp_in place 100) : hh_Ki l D K ad yX5_candidateFor (hh_wm yX5_candidateFor cX5_candidateFor 7 (some .int)) { frames := 1, cells := 0, slots := 0, locals := 22 } [.ref (ad (hh_rI r)), .int own_, .int place] v (fun (q : Int32) (v1 : hh_M) => q = hf_X5_candidateFor v r own_ place ∧ v1 = v ∧ (-1 ≤ q ∧ q < nI nm)) := by
  refine hh_Ki_of (by decide) (Nat.le_of_ble_eq_true rfl) ?_
  intro p e s m args below meth c ls A C0 hp hl
  obtain ⟨hx, hb, hr9, hml, hown, hts, hK, hlk, hA⟩ := id C0
  have hnm := hT.1
  have hnh := hT.2.1
  have hnc := hT.2.2.1
  have hbHr := hnh r
  have hbCr := hnc r
  have hl : lv_has ls 7 [(0, .ref (ad (hh_rI r))), (1, .int own_), (2, .int place)] := hl
  refine lv_iconst (v := (-1)) hx hb dX5_candidateFor_0 (by decide) ?_
  refine lv_istore_n (lv' := [(3, .int (-1)), (0, .ref (ad (hh_rI r))), (1, .int own_), (2, .int place)]) hx hb dX5_candidateFor_1 rfl hl (by decide) rfl (fun ls hl => ?_)
  refine lv_sipush (v := (-1000)) hx hb dX5_candidateFor_2 (by decide) ?_
  refine lv_istore (lv' := [(4, .int (-1000)), (3, .int (-1)), (0, .ref (ad (hh_rI r))), (1, .int own_), (2, .int place)]) hx hb dX5_candidateFor_5 hl (by decide) rfl (fun ls hl => ?_)
  refine lv_iconst (v := 0) hx hb dX5_candidateFor_7 (by decide) ?_
  refine lv_istore (lv' := [(5, .int 0), (4, .int (-1000)), (3, .int (-1)), (0, .ref (ad (hh_rI r))), (1, .int own_), (2, .int place)]) hx hb dX5_candidateFor_8 hl (by decide) rfl (fun ls hl => ?_)
  have hL_10 : ∀ (n i : Nat) (a10_3 : Int32) (a10_4 : Int32) (H : Heap) (locs : List Loc) (ls : Array Slot), i ≤ nm → nm - i < n → (a10_3, a10_4) = hh_fld (fun (i9 : Nat) (z : Int32 × Int32) => hl_X5_candidateFor_10 v r own_ place i9 z.1 z.2) i ((-1), (-1000)) → hh_H D K ad A s.heap v H locs → lv_has ls 7 [(5, .int (nI i)), (4, .int a10_4), (3, .int a10_3), (0, .ref (ad (hh_rI r))), (1, .int own_), (2, .int place)] → -1 ≤ a10_3 ∧ a10_3 < nI nm → W p l e ({ frames := 1, cells := 0, slots := 0, locals := 22 } : Room) s m args below meth c H locs 0 0 (MQ below (va_Qi (fun (q : Int32) (v1 : hh_M) => q = hf_X5_candidateFor v r own_ place ∧ v1 = v ∧ (-1 ≤ q ∧ q < nI nm)) (hh_B D K ad A) A) args s 0 0 A) (F0 m 10 ls []) := by
    intro n
    induction n with
    | zero => intro i a10_3 a10_4 H locs ls h1 h2; omega
    | succ n ih =>
      intro i a10_3 a10_4 H locs ls hii hni hsL_10 hp hl hf1
      refine lv_iload hx hb dX5_candidateFor_10 (lv_at hl 0 rfl) ?_
      refine lv_aload_n hx hb dX5_candidateFor_12 rfl (lv_at hl 3 rfl) ?_
      refine hh_get C0 hp (C := RX5) (T := TX5) (N := 10) (ci := 5) (hh_b_r hr) (hh_E_r r) rfl hh_uX5 0 (by decide) hm_97 rfl rfl dX5_candidateFor_13 ?_
      refine hh_get C0 hp (C := RX4) (T := TX4) (N := 3) (ci := 4) (by decide) hh_E_1 rfl hh_uX4 2 (by decide) hm_130 rfl rfl dX5_candidateFor_16 ?_
      refine lv_icmp_ge (tgt := 86) hx hb dX5_candidateFor_19 (by decide) (fun c_19 => ?_) (fun c_19 => ?_)
      · have hbc_19 : (v 1 2) = nI nm := hh_T_M hT
        rw [hbc_19] at c_19
        have hc_19 := (nI_leI (a := nm) (b := i) (by omega) (by omega))
        have hltc_19 : nm ≤ i := by exact hc_19.mp c_19
        have hNL_10 : i = nm := by omega
        rw [hNL_10] at hsL_10
        have hsL_10 : (a10_3, a10_4) = hh_fld (fun (i9 : Nat) (z : Int32 × Int32) => hl_X5_candidateFor_10 v r own_ place i9 z.1 z.2) ((v 1 2).toNatClampNeg) ((-1), (-1000)) := by rw [hsL_10, show (v 1 2).toNatClampNeg = nm from by rw [hh_T_M hT]; exact nI_clamp (by omega)]
        have ea10_3 : a10_3 = (hh_fld (fun (i9 : Nat) (z : Int32 × Int32) => hl_X5_candidateFor_10 v r own_ place i9 z.1 z.2) ((v 1 2).toNatClampNeg) ((-1), (-1000))).1 := congrArg (fun z => z.1) hsL_10
        have ea10_4 : a10_4 = (hh_fld (fun (i9 : Nat) (z : Int32 × Int32) => hl_X5_candidateFor_10 v r own_ place i9 z.1 z.2) ((v 1 2).toNatClampNeg) ((-1), (-1000))).2 := congrArg (fun z => z.2) hsL_10
        clear ih hsL_10
        refine lv_iload_n hx hb dX5_candidateFor_86 rfl (lv_at hl 2 rfl) ?_
        exact hh_iret C0 hp dX5_candidateFor_87 ⟨(by unfold hf_X5_candidateFor; rw [hh_let_eq ea10_3, hh_let_eq ea10_4]), rfl, (by assumption)⟩
      · have hbc_19 : (v 1 2) = nI nm := hh_T_M hT
        rw [hbc_19] at c_19
        have hc_19 := (nI_leI (a := nm) (b := i) (by omega) (by omega))
        have hltc_19 : i < nm := by exact Nat.not_le.mp (fun z => c_19 (hc_19.mpr z))
        refine lv_iload hx hb dX5_candidateFor_22 (lv_at hl 0 rfl) ?_
        refine lv_iload_n hx hb dX5_candidateFor_24 rfl (lv_at hl 4 rfl) ?_
        refine lv_icmp_eq (tgt := 80) hx hb dX5_candidateFor_25 (by decide) (fun c_25 => ?_) (fun c_25 => ?_)
        · refine lv_iinc (v := (nI (i + 1))) (lv' := [(5, .int (nI (i + 1))), (4, .int a10_4), (3, .int a10_3), (0, .ref (ad (hh_rI r))), (1, .int own_), (2, .int place)]) hx hb dX5_candidateFor_80 hl (k := 0) rfl (nI_1 i) (by decide) rfl (fun ls hl => ?_)
          refine lv_goto (tgt := 10) hx hb dX5_candidateFor_83 (by decide) ?_
          exact ih (i + 1) a10_3 a10_4 _ _ _ (by omega) (by omega) (by rw [hh_fld, ← hsL_10]; show _ = hl_X5_candidateFor_10 v r own_ place i a10_3 a10_4; unfold hl_X5_candidateFor_10; rw [if_pos c_25]) hp (lv_sub hl [0, 1, 2, 3, 4, 5] rfl) (by first | assumption | exact hh_rg (by omega) (by omega))
        · refine lv_aload_n hx hb dX5_candidateFor_28 rfl (lv_at hl 3 rfl) ?_
          refine hh_get C0 hp (C := RX5) (T := TX5) (N := 10) (ci := 5) (hh_b_r hr) (hh_E_r r) rfl hh_uX5 0 (by decide) hm_97 rfl rfl dX5_candidateFor_29 ?_
          refine hh_get C0 hp (C := RX4) (T := TX4) (N := 3) (ci := 4) (by decide) hh_E_1 rfl hh_uX4 0 (by decide) hm_136 rfl rfl dX5_candidateFor_32 ?_
          refine lv_iload hx hb dX5_candidateFor_35 (lv_at hl 0 rfl) ?_
          refine hh_aal C0 hp (t0 := 2) (f := hh_mI) (by decide) hh_E_2 rfl rfl (vp_in_nI (by omega) (by decide)) (nI_clamp (by omega)) dX5_candidateFor_37 ?_
          refine hh_get C0 hp (C := RX3) (T := TX3) (N := 7) (ci := 3) (hh_b_m (by omega : i < 6)) (hh_E_m (by omega : i < 6)) rfl hh_uX3 6 (by decide) hm_197 rfl rfl dX5_candidateFor_38 ?_
          refine lv_if_eq (tgt := 80) hx hb dX5_candidateFor_41 (by decide) (fun c_41 => ?_) (fun c_41 => ?_)
          · refine lv_iinc (v := (nI (i + 1))) (lv' := [(5, .int (nI (i + 1))), (4, .int a10_4), (3, .int a10_3), (0, .ref (ad (hh_rI r))), (1, .int own_), (2, .int place)]) hx hb dX5_candidateFor_80 hl (k := 0) rfl (nI_1 i) (by decide) rfl (fun ls hl => ?_)
            refine lv_goto (tgt := 10) hx hb dX5_candidateFor_83 (by decide) ?_
            exact ih (i + 1) a10_3 a10_4 _ _ _ (by omega) (by omega) (by rw [hh_fld, ← hsL_10]; show _ = hl_X5_candidateFor_10 v r own_ place i a10_3 a10_4; unfold hl_X5_candidateFor_10; rw [if_neg c_25, if_pos c_41]) hp (lv_sub hl [0, 1, 2, 3, 4, 5] rfl) (by first | assumption | exact hh_rg (by omega) (by omega))
          · refine lv_aload_n hx hb dX5_candidateFor_44 rfl (lv_at hl 3 rfl) ?_
            refine lv_iload hx hb dX5_candidateFor_45 (lv_at hl 0 rfl) ?_
            refine lv_iconst (v := 1) hx hb dX5_candidateFor_47 (by decide) ?_
            refine hh_cVi C0 hp (As := [.int (nI i), .int 1]) (rest := []) (C := RX5) (T := TX5) (N := 10) (ci := 5) (n := 2) (hk_X5_hasFreeChannels l D K ad hT r (nI i) 1 hr (vp_in_nI (by omega) (by decide))) rfl (hh_b_r hr) (hh_E_r r) (hh_gV hm_198 hm_199 hm_200 hm_128 hm_135) ⟨rfl, rfl⟩ (by decide +kernel) ⟨Nat.le_of_ble_eq_true rfl, Nat.le_of_ble_eq_true rfl⟩ ⟨Nat.zero_le _, Nat.zero_le _⟩ hl.1 rfl rfl (Nat.le_of_ble_eq_true rfl) dX5_candidateFor_48 (fun q_48 v_48 H locs hv_48 hp => ?_)
            obtain ⟨eq_48, hv9⟩ := hv_48
            rw [hv9] at hp; clear hv9
            refine lv_if_ne (tgt := 57) hx hb dX5_candidateFor_51 (by decide) (fun c_51 => ?_) (fun c_51 => ?_)
            · refine lv_aload_n hx hb dX5_candidateFor_57 rfl (lv_at hl 3 rfl) ?_
              refine lv_iload hx hb dX5_candidateFor_58 (lv_at hl 0 rfl) ?_
              refine lv_iload_n hx hb dX5_candidateFor_60 rfl (lv_at hl 5 rfl) ?_
              refine hh_cVi C0 hp (As := [.int (nI i), .int place]) (rest := []) (C := RX5) (T := TX5) (N := 10) (ci := 5) (n := 2) (hk_X5_qualityAt l D K ad hT r (nI i) place hr (vp_in_nI (by omega) (by decide)) (by assumption)) rfl (hh_b_r hr) (hh_E_r r) (hh_gV hm_125 hm_126 hm_127 hm_128 hm_122) ⟨rfl, rfl⟩ (by decide +kernel) ⟨Nat.le_of_ble_eq_true rfl, Nat.le_of_ble_eq_true rfl⟩ ⟨Nat.zero_le _, Nat.zero_le _⟩ hl.1 rfl rfl (Nat.le_of_ble_eq_true rfl) dX5_candidateFor_61 (fun q_61 v_61 H locs hv_61 hp => ?_)
              obtain ⟨eq_61, hv9⟩ := hv_61
              rw [hv9] at hp; clear hv9
              refine lv_istore (lv' := [(6, .int q_61), (5, .int (nI i)), (4, .int a10_4), (3, .int a10_3), (0, .ref (ad (hh_rI r))), (1, .int own_), (2, .int place)]) hx hb dX5_candidateFor_64 hl (by decide) rfl (fun ls hl => ?_)
              refine lv_iload hx hb dX5_candidateFor_66 (lv_at hl 0 rfl) ?_
              refine lv_iload hx hb dX5_candidateFor_68 (lv_at hl 2 rfl) ?_
              refine lv_icmp_le (tgt := 80) hx hb dX5_candidateFor_70 (by decide) (fun c_70 => ?_) (fun c_70 => ?_)
              · refine lv_iinc (v := (nI (i + 1))) (lv' := [(5, .int (nI (i + 1))), (6, .int q_61), (4, .int a10_4), (3, .int a10_3), (0, .ref (ad (hh_rI r))), (1, .int own_), (2, .int place)]) hx hb dX5_candidateFor_80 hl (k := 1) rfl (nI_1 i) (by decide) rfl (fun ls hl => ?_)
                refine lv_goto (tgt := 10) hx hb dX5_candidateFor_83 (by decide) ?_
                exact ih (i + 1) a10_3 a10_4 _ _ _ (by omega) (by omega) (by rw [hh_fld, ← hsL_10]; show _ = hl_X5_candidateFor_10 v r own_ place i a10_3 a10_4; unfold hl_X5_candidateFor_10; rw [if_neg c_25, if_neg c_41, hh_let_eq eq_48, if_neg c_51, hh_let_eq eq_61, if_pos c_70]) hp (lv_sub hl [0, 2, 3, 4, 5, 6] rfl) (by first | assumption | exact hh_rg (by omega) (by omega))
              · refine lv_iload hx hb dX5_candidateFor_73 (lv_at hl 1 rfl) ?_
                refine lv_istore_n (lv' := [(3, .int (nI i)), (6, .int q_61), (5, .int (nI i)), (4, .int a10_4), (0, .ref (ad (hh_rI r))), (1, .int own_), (2, .int place)]) hx hb dX5_candidateFor_75 rfl hl (by decide) rfl (fun ls hl => ?_)
                refine lv_iload hx hb dX5_candidateFor_76 (lv_at hl 1 rfl) ?_
                refine lv_istore (lv' := [(4, .int q_61), (3, .int (nI i)), (6, .int q_61), (5, .int (nI i)), (0, .ref (ad (hh_rI r))), (1, .int own_), (2, .int place)]) hx hb dX5_candidateFor_78 hl (by decide) rfl (fun ls hl => ?_)
                refine lv_iinc (v := (nI (i + 1))) (lv' := [(5, .int (nI (i + 1))), (4, .int q_61), (3, .int (nI i)), (6, .int q_61), (0, .ref (ad (hh_rI r))), (1, .int own_), (2, .int place)]) hx hb dX5_candidateFor_80 hl (k := 3) rfl (nI_1 i) (by decide) rfl (fun ls hl => ?_)
                refine lv_goto (tgt := 10) hx hb dX5_candidateFor_83 (by decide) ?_
                exact ih (i + 1) (nI i) q_61 _ _ _ (by omega) (by omega) (by rw [hh_fld, ← hsL_10]; show _ = hl_X5_candidateFor_10 v r own_ place i a10_3 a10_4; unfold hl_X5_candidateFor_10; rw [if_neg c_25, if_neg c_41, hh_let_eq eq_48, if_neg c_51, hh_let_eq eq_61, if_neg c_70]) hp (lv_sub hl [0, 1, 2, 4, 5, 6] rfl) (by first | assumption | exact hh_rg (by omega) (by omega))
            · refine lv_goto (tgt := 80) hx hb dX5_candidateFor_54 (by decide) ?_
              refine lv_iinc (v := (nI (i + 1))) (lv' := [(5, .int (nI (i + 1))), (4, .int a10_4), (3, .int a10_3), (0, .ref (ad (hh_rI r))), (1, .int own_), (2, .int place)]) hx hb dX5_candidateFor_80 hl (k := 0) rfl (nI_1 i) (by decide) rfl (fun ls hl => ?_)
              refine lv_goto (tgt := 10) hx hb dX5_candidateFor_83 (by decide) ?_
              exact ih (i + 1) a10_3 a10_4 _ _ _ (by omega) (by omega) (by rw [hh_fld, ← hsL_10]; show _ = hl_X5_candidateFor_10 v r own_ place i a10_3 a10_4; unfold hl_X5_candidateFor_10; rw [if_neg c_25, if_neg c_41, hh_let_eq eq_48, if_pos c_51]) hp (lv_sub hl [0, 1, 2, 3, 4, 5] rfl) (by first | assumption | exact hh_rg (by omega) (by omega))
  exact hL_10 (nm + 1) 0 (-1) (-1000) _ _ _ (Nat.zero_le _) (by omega) rfl hp (lv_sub hl [0, 1, 2, 3, 4, 5] rfl) (by exact hh_rg0 (by omega))
def hf_X5_chooseMast (v : hh_M) (r : Nat) (i : Nat) : hh_M := (hh_let (hf_X5_bestHeardAt v r (v (hh_hI r i) 1) : Int32) (fun (q_5 : Int32) => (if q_5 = (-1) then (hh_let (hh_up v (hh_hI r i) 5 q_5 : hh_M) (fun (v_24 : hh_M) => v_24)) else (if (v (hh_hI r i) 5) = (-1) then (hh_let (hh_up v (hh_hI r i) 5 q_5 : hh_M) (fun (v_24 : hh_M) => v_24)) else (hh_let (hf_X5_qualityAt v r (v (hh_hI r i) 5) (v (hh_hI r i) 1) : Int32) (fun (q_37 : Int32) => (if q_37 < 1 then (hh_let (hh_up v (hh_hI r i) 5 q_5 : hh_M) (fun (v_75 : hh_M) => v_75)) else (hh_let (hf_X5_qualityAt v r q_5 (v (hh_hI r i) 1) : Int32) (fun (q_52 : Int32) => (if 3 ≤ (q_52 - q_37) then (hh_let (hh_up v (hh_hI r i) 5 q_5 : hh_M) (fun (v_75 : hh_M) => v_75)) else v))))))))))
set_option maxHeartbeats 4000000 in
set_option maxRecDepth 100000 in
theorem hk_X5_chooseMast (l : Launch) (D : va_G) (K : Nat → ClassId) (ad : Nat → Nat) {nm : Nat} {nh nc : Nat → Nat} {v : hh_M} (hT : hh_T nm nh nc v) (r : Nat) (i : Nat) (hr : r < 2) (hi : i < 8) : hh_Kv l D K ad yX5_chooseMast (hh_wm yX5_chooseMast cX5_chooseMast 5 none) { frames := 2, cells := 0, slots := 0, locals := 47 } [.ref (ad (hh_rI r)), .ref (ad (hh_hI r i))] v (fun (v1 : hh_M) => v1 = hf_X5_chooseMast v r i ∧ hh_T nm nh nc v1) := by
  refine hh_Kv_of (by decide) (Nat.le_of_ble_eq_true rfl) ?_
  intro p e s m args below meth c ls A C0 hp hl
  obtain ⟨hx, hb, hr9, hml, hown, hts, hK, hlk, hA⟩ := id C0
  have hnm := hT.1
  have hnh := hT.2.1
  have hnc := hT.2.2.1
  have hbHr := hnh r
  have hbCr := hnc r
  have hl : lv_has ls 5 [(0, .ref (ad (hh_rI r))), (1, .ref (ad (hh_hI r i)))] := hl
  refine lv_aload_n hx hb dX5_chooseMast_0 rfl (lv_at hl 0 rfl) ?_
  refine lv_aload_n hx hb dX5_chooseMast_1 rfl (lv_at hl 1 rfl) ?_
  refine hh_get C0 hp (C := RX1) (T := TX1) (N := 13) (ci := 1) (hh_b_h hr hi) (hh_E_h r hi) rfl hh_uX1 1 (by decide) hm_171 rfl rfl dX5_chooseMast_2 ?_
  refine hh_cVi C0 hp (As := [.int (v (hh_hI r i) 1)]) (rest := []) (C := RX5) (T := TX5) (N := 10) (ci := 5) (n := 1) (hk_X5_bestHeardAt l D K ad hT r (v (hh_hI r i) 1) hr (hh_in99 (hh_T_h1 hT r hi))) rfl (hh_b_r hr) (hh_E_r r) (hh_gV hm_132 hm_133 hm_134 hm_128 hm_129) ⟨rfl, rfl⟩ (by decide +kernel) ⟨Nat.le_of_ble_eq_true rfl, Nat.le_of_ble_eq_true rfl⟩ ⟨Nat.zero_le _, Nat.zero_le _⟩ hl.1 rfl rfl (Nat.le_of_ble_eq_true rfl) dX5_chooseMast_5 (fun q_5 v_5 H locs hv_5 hp => ?_)
  obtain ⟨eq_5, hv9, hpq_5a⟩ := hv_5
  rw [hv9] at hp; clear hv9
  refine lv_istore_n (lv' := [(2, .int q_5), (0, .ref (ad (hh_rI r))), (1, .ref (ad (hh_hI r i)))]) hx hb dX5_chooseMast_8 rfl hl (by decide) rfl (fun ls hl => ?_)
  refine lv_iload_n hx hb dX5_chooseMast_9 rfl (lv_at hl 0 rfl) ?_
  refine lv_iconst (v := (-1)) hx hb dX5_chooseMast_10 (by decide) ?_
  refine lv_icmp_eq (tgt := 22) hx hb dX5_chooseMast_11 (by decide) (fun c_11 => ?_) (fun c_11 => ?_)
  · refine lv_aload_n hx hb dX5_chooseMast_22 rfl (lv_at hl 2 rfl) ?_
    refine lv_iload_n hx hb dX5_chooseMast_23 rfl (lv_at hl 0 rfl) ?_
    refine hh_put C0 hp (C := RX1) (T := TX1) (N := 13) (ci := 1) (k := 5) (ty := .int) (hh_b_h hr hi) (hh_E_h r hi) (hh_ph5 r hi) rfl hh_uX1 tyX1_ok nmX1 (by decide) hm_140 rfl rfl (by decide +kernel) rfl rfl (Nat.le_of_ble_eq_true rfl) dX5_chooseMast_24 (fun H locs hp => ?_)
    obtain ⟨v_24, ev_24⟩ : ∃ z : hh_M, z = hh_up v (hh_hI r i) 5 q_5 := ⟨_, rfl⟩
    rw [← ev_24] at hp
    have hTv_24 : hh_T nm nh nc v_24 := by rw [ev_24]; exact hh_T_up hT (hh_R_h5 hr hi (by assumption))
    exact hh_vret C0 hp dX5_chooseMast_27 ⟨(by show _ = _; unfold hf_X5_chooseMast; rw [hh_let_eq eq_5, if_pos c_11, hh_let_eq ev_24]), hTv_24⟩
  · refine lv_aload_n hx hb dX5_chooseMast_14 rfl (lv_at hl 2 rfl) ?_
    refine hh_get C0 hp (C := RX1) (T := TX1) (N := 13) (ci := 1) (hh_b_h hr hi) (hh_E_h r hi) rfl hh_uX1 5 (by decide) hm_140 rfl rfl dX5_chooseMast_15 ?_
    refine lv_iconst (v := (-1)) hx hb dX5_chooseMast_18 (by decide) ?_
    refine lv_icmp_ne (tgt := 28) hx hb dX5_chooseMast_19 (by decide) (fun c_19 => ?_) (fun c_19 => ?_)
    · refine lv_aload_n hx hb dX5_chooseMast_28 rfl (lv_at hl 1 rfl) ?_
      refine lv_aload_n hx hb dX5_chooseMast_29 rfl (lv_at hl 2 rfl) ?_
      refine hh_get C0 hp (C := RX1) (T := TX1) (N := 13) (ci := 1) (hh_b_h hr hi) (hh_E_h r hi) rfl hh_uX1 5 (by decide) hm_140 rfl rfl dX5_chooseMast_30 ?_
      refine lv_aload_n hx hb dX5_chooseMast_33 rfl (lv_at hl 2 rfl) ?_
      refine hh_get C0 hp (C := RX1) (T := TX1) (N := 13) (ci := 1) (hh_b_h hr hi) (hh_E_h r hi) rfl hh_uX1 1 (by decide) hm_171 rfl rfl dX5_chooseMast_34 ?_
      refine hh_cVi C0 hp (As := [.int (v (hh_hI r i) 5), .int (v (hh_hI r i) 1)]) (rest := []) (C := RX5) (T := TX5) (N := 10) (ci := 5) (n := 2) (hk_X5_qualityAt l D K ad hT r (v (hh_hI r i) 5) (v (hh_hI r i) 1) hr (hh_in (hh_T_h5 hT r hi) (by assumption) (by omega) (by decide)) (hh_in99 (hh_T_h1 hT r hi))) rfl (hh_b_r hr) (hh_E_r r) (hh_gV hm_125 hm_126 hm_127 hm_128 hm_122) ⟨rfl, rfl⟩ (by decide +kernel) ⟨Nat.le_of_ble_eq_true rfl, Nat.le_of_ble_eq_true rfl⟩ ⟨Nat.zero_le _, Nat.zero_le _⟩ hl.1 rfl rfl (Nat.le_of_ble_eq_true rfl) dX5_chooseMast_37 (fun q_37 v_37 H locs hv_37 hp => ?_)
      obtain ⟨eq_37, hv9⟩ := hv_37
      rw [hv9] at hp; clear hv9
      refine lv_istore_n (lv' := [(3, .int q_37), (2, .int q_5), (0, .ref (ad (hh_rI r))), (1, .ref (ad (hh_hI r i)))]) hx hb dX5_chooseMast_40 rfl hl (by decide) rfl (fun ls hl => ?_)
      refine lv_iload_n hx hb dX5_chooseMast_41 rfl (lv_at hl 0 rfl) ?_
      refine lv_iconst (v := 1) hx hb dX5_chooseMast_42 (by decide) ?_
      refine lv_icmp_lt (tgt := 65) hx hb dX5_chooseMast_43 (by decide) (fun c_43 => ?_) (fun c_43 => ?_)
      · refine lv_iconst (v := 0) hx hb dX5_chooseMast_65 (by decide) ?_
        refine lv_istore (lv' := [(4, .int 0), (3, .int q_37), (2, .int q_5), (0, .ref (ad (hh_rI r))), (1, .ref (ad (hh_hI r i)))]) hx hb dX5_chooseMast_66 hl (by decide) rfl (fun ls hl => ?_)
        refine lv_iload hx hb dX5_chooseMast_68 (lv_at hl 0 rfl) ?_
        refine lv_if_ne (tgt := 78) hx hb dX5_chooseMast_70 (by decide) (fun c_70 => ?_) (fun c_70 => ?_)
        · exact absurd c_70 (by decide)
        · refine lv_aload_n hx hb dX5_chooseMast_73 rfl (lv_at hl 4 rfl) ?_
          refine lv_iload_n hx hb dX5_chooseMast_74 rfl (lv_at hl 2 rfl) ?_
          refine hh_put C0 hp (C := RX1) (T := TX1) (N := 13) (ci := 1) (k := 5) (ty := .int) (hh_b_h hr hi) (hh_E_h r hi) (hh_ph5 r hi) rfl hh_uX1 tyX1_ok nmX1 (by decide) hm_140 rfl rfl (by decide +kernel) rfl rfl (Nat.le_of_ble_eq_true rfl) dX5_chooseMast_75 (fun H locs hp => ?_)
          obtain ⟨v_75, ev_75⟩ : ∃ z : hh_M, z = hh_up v (hh_hI r i) 5 q_5 := ⟨_, rfl⟩
          rw [← ev_75] at hp
          have hTv_75 : hh_T nm nh nc v_75 := by rw [ev_75]; exact hh_T_up hT (hh_R_h5 hr hi (by assumption))
          exact hh_vret C0 hp dX5_chooseMast_78 ⟨(by show _ = _; unfold hf_X5_chooseMast; rw [hh_let_eq eq_5, if_neg c_11, if_neg c_19, hh_let_eq eq_37, if_pos c_43, hh_let_eq ev_75]), hTv_75⟩
      · refine lv_aload_n hx hb dX5_chooseMast_46 rfl (lv_at hl 2 rfl) ?_
        refine lv_iload_n hx hb dX5_chooseMast_47 rfl (lv_at hl 1 rfl) ?_
        refine lv_aload_n hx hb dX5_chooseMast_48 rfl (lv_at hl 3 rfl) ?_
        refine hh_get C0 hp (C := RX1) (T := TX1) (N := 13) (ci := 1) (hh_b_h hr hi) (hh_E_h r hi) rfl hh_uX1 1 (by decide) hm_171 rfl rfl dX5_chooseMast_49 ?_
        refine hh_cVi C0 hp (As := [.int q_5, .int (v (hh_hI r i) 1)]) (rest := []) (C := RX5) (T := TX5) (N := 10) (ci := 5) (n := 2) (hk_X5_qualityAt l D K ad hT r q_5 (v (hh_hI r i) 1) hr (hh_in hpq_5a (by assumption) (by omega) (by decide)) (hh_in99 (hh_T_h1 hT r hi))) rfl (hh_b_r hr) (hh_E_r r) (hh_gV hm_125 hm_126 hm_127 hm_128 hm_122) ⟨rfl, rfl⟩ (by decide +kernel) ⟨Nat.le_of_ble_eq_true rfl, Nat.le_of_ble_eq_true rfl⟩ ⟨Nat.zero_le _, Nat.zero_le _⟩ hl.1 rfl rfl (Nat.le_of_ble_eq_true rfl) dX5_chooseMast_52 (fun q_52 v_52 H locs hv_52 hp => ?_)
        obtain ⟨eq_52, hv9⟩ := hv_52
        rw [hv9] at hp; clear hv9
        refine lv_iload_n hx hb dX5_chooseMast_55 rfl (lv_at hl 0 rfl) ?_
        refine lv_isub hx hb dX5_chooseMast_56 ?_
        refine lv_iconst (v := 3) hx hb dX5_chooseMast_57 (by decide) ?_
        refine lv_icmp_ge (tgt := 65) hx hb dX5_chooseMast_58 (by decide) (fun c_58 => ?_) (fun c_58 => ?_)
        · refine lv_iconst (v := 0) hx hb dX5_chooseMast_65 (by decide) ?_
          refine lv_istore (lv' := [(4, .int 0), (3, .int q_37), (2, .int q_5), (0, .ref (ad (hh_rI r))), (1, .ref (ad (hh_hI r i)))]) hx hb dX5_chooseMast_66 hl (by decide) rfl (fun ls hl => ?_)
          refine lv_iload hx hb dX5_chooseMast_68 (lv_at hl 0 rfl) ?_
          refine lv_if_ne (tgt := 78) hx hb dX5_chooseMast_70 (by decide) (fun c_70 => ?_) (fun c_70 => ?_)
          · exact absurd c_70 (by decide)
          · refine lv_aload_n hx hb dX5_chooseMast_73 rfl (lv_at hl 4 rfl) ?_
            refine lv_iload_n hx hb dX5_chooseMast_74 rfl (lv_at hl 2 rfl) ?_
            refine hh_put C0 hp (C := RX1) (T := TX1) (N := 13) (ci := 1) (k := 5) (ty := .int) (hh_b_h hr hi) (hh_E_h r hi) (hh_ph5 r hi) rfl hh_uX1 tyX1_ok nmX1 (by decide) hm_140 rfl rfl (by decide +kernel) rfl rfl (Nat.le_of_ble_eq_true rfl) dX5_chooseMast_75 (fun H locs hp => ?_)
            obtain ⟨v_75, ev_75⟩ : ∃ z : hh_M, z = hh_up v (hh_hI r i) 5 q_5 := ⟨_, rfl⟩
            rw [← ev_75] at hp
            have hTv_75 : hh_T nm nh nc v_75 := by rw [ev_75]; exact hh_T_up hT (hh_R_h5 hr hi (by assumption))
            exact hh_vret C0 hp dX5_chooseMast_78 ⟨(by show _ = _; unfold hf_X5_chooseMast; rw [hh_let_eq eq_5, if_neg c_11, if_neg c_19, hh_let_eq eq_37, if_neg c_43, hh_let_eq eq_52, if_pos c_58, hh_let_eq ev_75]), hTv_75⟩
        · refine lv_iconst (v := 1) hx hb dX5_chooseMast_61 (by decide) ?_
          refine lv_goto (tgt := 66) hx hb dX5_chooseMast_62 (by decide) ?_
          refine lv_istore (lv' := [(4, .int 1), (3, .int q_37), (2, .int q_5), (0, .ref (ad (hh_rI r))), (1, .ref (ad (hh_hI r i)))]) hx hb dX5_chooseMast_66 hl (by decide) rfl (fun ls hl => ?_)
          refine lv_iload hx hb dX5_chooseMast_68 (lv_at hl 0 rfl) ?_
          refine lv_if_ne (tgt := 78) hx hb dX5_chooseMast_70 (by decide) (fun c_70 => ?_) (fun c_70 => ?_)
          · exact hh_vret C0 hp dX5_chooseMast_78 ⟨(by show _ = _; unfold hf_X5_chooseMast; rw [hh_let_eq eq_5, if_neg c_11, if_neg c_19, hh_let_eq eq_37, if_neg c_43, hh_let_eq eq_52, if_neg c_58]), hT⟩
          · exact absurd c_70 (by decide)
    · refine lv_aload_n hx hb dX5_chooseMast_22 rfl (lv_at hl 2 rfl) ?_
      refine lv_iload_n hx hb dX5_chooseMast_23 rfl (lv_at hl 0 rfl) ?_
      refine hh_put C0 hp (C := RX1) (T := TX1) (N := 13) (ci := 1) (k := 5) (ty := .int) (hh_b_h hr hi) (hh_E_h r hi) (hh_ph5 r hi) rfl hh_uX1 tyX1_ok nmX1 (by decide) hm_140 rfl rfl (by decide +kernel) rfl rfl (Nat.le_of_ble_eq_true rfl) dX5_chooseMast_24 (fun H locs hp => ?_)
      obtain ⟨v_24, ev_24⟩ : ∃ z : hh_M, z = hh_up v (hh_hI r i) 5 q_5 := ⟨_, rfl⟩
      rw [← ev_24] at hp
      have hTv_24 : hh_T nm nh nc v_24 := by rw [ev_24]; exact hh_T_up hT (hh_R_h5 hr hi (by assumption))
      exact hh_vret C0 hp dX5_chooseMast_27 ⟨(by show _ = _; unfold hf_X5_chooseMast; rw [hh_let_eq eq_5, if_neg c_11, if_pos c_19, hh_let_eq ev_24]), hTv_24⟩
def hf_X5_tellArea (v : hh_M) (r : Nat) (i : Nat) : hh_M := (if (v (hh_hI r i) 5) = (-1) then v else (hh_let ((v (hh_mI ((v (hh_hI r i) 5).toNatClampNeg)) 4) : Int32) (fun (x_24 : Int32) => (if x_24 = (v (hh_hI r i) 8) then (if ((v (hh_rI r) 8) - (v (hh_hI r i) 9)) < 20 then v else (hh_let (hf_X1_tell v r i x_24 (v (hh_rI r) 8) : hh_M) (fun (v_53 : hh_M) => v_53))) else (hh_let (hf_X1_tell v r i x_24 (v (hh_rI r) 8) : hh_M) (fun (v_53 : hh_M) => v_53))))))
set_option maxHeartbeats 4000000 in
set_option maxRecDepth 100000 in
theorem hk_X5_tellArea (l : Launch) (D : va_G) (K : Nat → ClassId) (ad : Nat → Nat) {nm : Nat} {nh nc : Nat → Nat} {v : hh_M} (hT : hh_T nm nh nc v) (r : Nat) (i : Nat) (hr : r < 2) (hi : i < 8) : hh_Kv l D K ad yX5_tellArea (hh_wm yX5_tellArea cX5_tellArea 3 none) { frames := 1, cells := 0, slots := 0, locals := 22 } [.ref (ad (hh_rI r)), .ref (ad (hh_hI r i))] v (fun (v1 : hh_M) => v1 = hf_X5_tellArea v r i ∧ hh_T nm nh nc v1) := by
  refine hh_Kv_of (by decide) (Nat.le_of_ble_eq_true rfl) ?_
  intro p e s m args below meth c ls A C0 hp hl
  obtain ⟨hx, hb, hr9, hml, hown, hts, hK, hlk, hA⟩ := id C0
  have hnm := hT.1
  have hnh := hT.2.1
  have hnc := hT.2.2.1
  have hbHr := hnh r
  have hbCr := hnc r
  have hl : lv_has ls 3 [(0, .ref (ad (hh_rI r))), (1, .ref (ad (hh_hI r i)))] := hl
  refine lv_aload_n hx hb dX5_tellArea_0 rfl (lv_at hl 1 rfl) ?_
  refine hh_get C0 hp (C := RX1) (T := TX1) (N := 13) (ci := 1) (hh_b_h hr hi) (hh_E_h r hi) rfl hh_uX1 5 (by decide) hm_140 rfl rfl dX5_tellArea_1 ?_
  refine lv_iconst (v := (-1)) hx hb dX5_tellArea_4 (by decide) ?_
  refine lv_icmp_ne (tgt := 9) hx hb dX5_tellArea_5 (by decide) (fun c_5 => ?_) (fun c_5 => ?_)
  · refine lv_aload_n hx hb dX5_tellArea_9 rfl (lv_at hl 0 rfl) ?_
    refine hh_get C0 hp (C := RX5) (T := TX5) (N := 10) (ci := 5) (hh_b_r hr) (hh_E_r r) rfl hh_uX5 0 (by decide) hm_97 rfl rfl dX5_tellArea_10 ?_
    refine hh_get C0 hp (C := RX4) (T := TX4) (N := 3) (ci := 4) (by decide) hh_E_1 rfl hh_uX4 0 (by decide) hm_136 rfl rfl dX5_tellArea_13 ?_
    refine lv_aload_n hx hb dX5_tellArea_16 rfl (lv_at hl 1 rfl) ?_
    refine hh_get C0 hp (C := RX1) (T := TX1) (N := 13) (ci := 1) (hh_b_h hr hi) (hh_E_h r hi) rfl hh_uX1 5 (by decide) hm_140 rfl rfl dX5_tellArea_17 ?_
    have hin_20 : vp_in (v (hh_hI r i) 5) 6 := hh_in (hh_T_h5 hT r hi) (by assumption) (by omega) (by decide)
    refine hh_aal C0 hp (t0 := 2) (f := hh_mI) (by decide) hh_E_2 rfl rfl hin_20 rfl dX5_tellArea_20 ?_
    refine hh_get C0 hp (C := RX3) (T := TX3) (N := 7) (ci := 3) (hh_b_m (hh_lt hin_20)) (hh_E_m (hh_lt hin_20)) rfl hh_uX3 4 (by decide) hm_151 rfl rfl dX5_tellArea_21 ?_
    refine lv_topi (fun x_24 ex_24 => ?_)
    refine lv_istore_n (lv' := [(2, .int x_24), (0, .ref (ad (hh_rI r))), (1, .ref (ad (hh_hI r i)))]) hx hb dX5_tellArea_24 rfl hl (by decide) rfl (fun ls hl => ?_)
    refine lv_iload_n hx hb dX5_tellArea_25 rfl (lv_at hl 0 rfl) ?_
    refine lv_aload_n hx hb dX5_tellArea_26 rfl (lv_at hl 2 rfl) ?_
    refine hh_get C0 hp (C := RX1) (T := TX1) (N := 13) (ci := 1) (hh_b_h hr hi) (hh_E_h r hi) rfl hh_uX1 8 (by decide) hm_176 rfl rfl dX5_tellArea_27 ?_
    refine lv_icmp_ne (tgt := 47) hx hb dX5_tellArea_30 (by decide) (fun c_30 => ?_) (fun c_30 => ?_)
    · refine lv_aload_n hx hb dX5_tellArea_47 rfl (lv_at hl 2 rfl) ?_
      refine lv_iload_n hx hb dX5_tellArea_48 rfl (lv_at hl 0 rfl) ?_
      refine lv_aload_n hx hb dX5_tellArea_49 rfl (lv_at hl 1 rfl) ?_
      refine hh_get C0 hp (C := RX5) (T := TX5) (N := 10) (ci := 5) (hh_b_r hr) (hh_E_r r) rfl hh_uX5 8 (by decide) hm_114 rfl rfl dX5_tellArea_50 ?_
      refine hh_cVv C0 hp (As := [.int x_24, .int (v (hh_rI r) 8)]) (rest := []) (C := RX1) (T := TX1) (N := 13) (ci := 1) (n := 2) (hk_X1_tell l D K ad hT r i x_24 (v (hh_rI r) 8) hr hi) rfl (hh_b_h hr hi) (hh_E_h r hi) (hh_gV hm_178 hm_179 hm_180 hm_103 hm_43) ⟨rfl, rfl⟩ (by decide +kernel) ⟨Nat.le_of_ble_eq_true rfl, Nat.le_of_ble_eq_true rfl⟩ ⟨Nat.zero_le _, Nat.zero_le _⟩ hl.1 rfl rfl (Nat.le_of_ble_eq_true rfl) dX5_tellArea_53 (fun v_53 H locs hv_53 hp => ?_)
      obtain ⟨ev_53, hTv_53⟩ := hv_53
      exact hh_vret C0 hp dX5_tellArea_56 ⟨(by show _ = _; unfold hf_X5_tellArea; rw [if_neg c_5, hh_let_eq ex_24, if_neg c_30, hh_let_eq ev_53]), hTv_53⟩
    · refine lv_aload_n hx hb dX5_tellArea_33 rfl (lv_at hl 1 rfl) ?_
      refine hh_get C0 hp (C := RX5) (T := TX5) (N := 10) (ci := 5) (hh_b_r hr) (hh_E_r r) rfl hh_uX5 8 (by decide) hm_114 rfl rfl dX5_tellArea_34 ?_
      refine lv_aload_n hx hb dX5_tellArea_37 rfl (lv_at hl 2 rfl) ?_
      refine hh_get C0 hp (C := RX1) (T := TX1) (N := 13) (ci := 1) (hh_b_h hr hi) (hh_E_h r hi) rfl hh_uX1 9 (by decide) hm_177 rfl rfl dX5_tellArea_38 ?_
      refine lv_isub hx hb dX5_tellArea_41 ?_
      refine lv_bipush (v := 20) hx hb dX5_tellArea_42 (by decide) ?_
      refine lv_icmp_lt (tgt := 56) hx hb dX5_tellArea_44 (by decide) (fun c_44 => ?_) (fun c_44 => ?_)
      · exact hh_vret C0 hp dX5_tellArea_56 ⟨(by show _ = _; unfold hf_X5_tellArea; rw [if_neg c_5, hh_let_eq ex_24, if_pos c_30, if_pos c_44]), hT⟩
      · refine lv_aload_n hx hb dX5_tellArea_47 rfl (lv_at hl 2 rfl) ?_
        refine lv_iload_n hx hb dX5_tellArea_48 rfl (lv_at hl 0 rfl) ?_
        refine lv_aload_n hx hb dX5_tellArea_49 rfl (lv_at hl 1 rfl) ?_
        refine hh_get C0 hp (C := RX5) (T := TX5) (N := 10) (ci := 5) (hh_b_r hr) (hh_E_r r) rfl hh_uX5 8 (by decide) hm_114 rfl rfl dX5_tellArea_50 ?_
        refine hh_cVv C0 hp (As := [.int x_24, .int (v (hh_rI r) 8)]) (rest := []) (C := RX1) (T := TX1) (N := 13) (ci := 1) (n := 2) (hk_X1_tell l D K ad hT r i x_24 (v (hh_rI r) 8) hr hi) rfl (hh_b_h hr hi) (hh_E_h r hi) (hh_gV hm_178 hm_179 hm_180 hm_103 hm_43) ⟨rfl, rfl⟩ (by decide +kernel) ⟨Nat.le_of_ble_eq_true rfl, Nat.le_of_ble_eq_true rfl⟩ ⟨Nat.zero_le _, Nat.zero_le _⟩ hl.1 rfl rfl (Nat.le_of_ble_eq_true rfl) dX5_tellArea_53 (fun v_53 H locs hv_53 hp => ?_)
        obtain ⟨ev_53, hTv_53⟩ := hv_53
        exact hh_vret C0 hp dX5_tellArea_56 ⟨(by show _ = _; unfold hf_X5_tellArea; rw [if_neg c_5, hh_let_eq ex_24, if_pos c_30, if_neg c_44, hh_let_eq ev_53]), hTv_53⟩
  · exact hh_vret C0 hp dX5_tellArea_8 ⟨(by show _ = _; unfold hf_X5_tellArea; rw [if_pos c_5]), hT⟩
end
section
/-! 12.calls: laid by program (wip/gen/mk10.py) -/
def hf_X5_release (v : hh_M) (r : Nat) (i : Nat) (g : Nat) : hh_M := (hh_let (hh_up v (hh_lI r) ((v (hh_gI r i g) 1).toNatClampNeg) ((v (hh_lI r) ((v (hh_gI r i g) 1).toNatClampNeg)) - 1) : hh_M) (fun (v_12 : hh_M) => (hh_let (hh_up v_12 (hh_hI r ((v_12 (hh_gI r i g) 0).toNatClampNeg)) 6 (-1) : hh_M) (fun (v_23 : hh_M) => v_23))))
set_option maxHeartbeats 4000000 in
set_option maxRecDepth 100000 in
theorem hk_X5_release (l : Launch) (D : va_G) (K : Nat → ClassId) (ad : Nat → Nat) {nm : Nat} {nh nc : Nat → Nat} {v : hh_M} (hT : hh_T nm nh nc v) (r : Nat) (i : Nat) (g : Nat) (hr : r < 2) (hi : i < 24) (hg : g < 2) (hu0 : ¬ v (hh_gI r i g) 0 = -1) (hu1 : ¬ v (hh_gI r i g) 1 = -1) : hh_Kv l D K ad yX5_release (hh_wm yX5_release cX5_release 2 none) { frames := 0, cells := 0, slots := 0, locals := 0 } [.ref (ad (hh_rI r)), .ref (ad (hh_gI r i g))] v (fun (v1 : hh_M) => v1 = hf_X5_release v r i g ∧ hh_T nm nh nc v1) := by
  refine hh_Kv_of (by decide) (Nat.le_of_ble_eq_true rfl) ?_
  intro p e s m args below meth c ls A C0 hp hl
  obtain ⟨hx, hb, hr9, hml, hown, hts, hK, hlk, hA⟩ := id C0
  have hnm := hT.1
  have hnh := hT.2.1
  have hnc := hT.2.2.1
  have hbHr := hnh r
  have hbCr := hnc r
  have hl : lv_has ls 2 [(0, .ref (ad (hh_rI r))), (1, .ref (ad (hh_gI r i g)))] := hl
  refine lv_aload_n hx hb dX5_release_0 rfl (lv_at hl 0 rfl) ?_
  refine hh_get C0 hp (C := RX5) (T := TX5) (N := 10) (ci := 5) (hh_b_r hr) (hh_E_r r) rfl hh_uX5 1 (by decide) hm_98 rfl rfl dX5_release_1 ?_
  refine lv_aload_n hx hb dX5_release_4 rfl (lv_at hl 1 rfl) ?_
  refine hh_get C0 hp (C := RX2) (T := TX2) (N := 6) (ci := 2) (hh_b_g hr hi hg) (hh_E_g r hi hg) rfl hh_uX2 1 (by decide) hm_187 rfl rfl dX5_release_5 ?_
  refine lv_dup2_11 hx hb dX5_release_8 rfl rfl ?_
  have hin_9 : vp_in (v (hh_gI r i g) 1) 6 := hh_in (hh_T_g1 hT r hi hg) hu1 (by omega) (by decide)
  refine hh_ial C0 hp (hh_b_l hr) (hh_E_l r) hin_9 rfl dX5_release_9 ?_
  refine lv_iconst (v := 1) hx hb dX5_release_10 (by decide) ?_
  refine lv_isub hx hb dX5_release_11 ?_
  have hin_12 : vp_in (v (hh_gI r i g) 1) 6 := by assumption
  refine hh_ias C0 hp (hh_b_l hr) (fun _ => (hh_E_l r)) hin_12 rfl dX5_release_12 (fun H locs hp => ?_)
  obtain ⟨v_12, ev_12⟩ : ∃ z : hh_M, z = hh_up v (hh_lI r) ((v (hh_gI r i g) 1).toNatClampNeg) ((v (hh_lI r) ((v (hh_gI r i g) 1).toNatClampNeg)) - 1) := ⟨_, rfl⟩
  rw [← ev_12] at hp
  have hTv_12 : hh_T nm nh nc v_12 := by rw [ev_12]; exact hh_T_up hT (hh_Rt_l hr)
  refine lv_aload_n hx hb dX5_release_13 rfl (lv_at hl 0 rfl) ?_
  refine hh_get C0 hp (C := RX5) (T := TX5) (N := 10) (ci := 5) (hh_b_r hr) (hh_E_r r) rfl hh_uX5 3 (by decide) hm_101 rfl rfl dX5_release_14 ?_
  refine lv_aload_n hx hb dX5_release_17 rfl (lv_at hl 1 rfl) ?_
  refine hh_get C0 hp (C := RX2) (T := TX2) (N := 6) (ci := 2) (hh_b_g hr hi hg) (hh_E_g r hi hg) rfl hh_uX2 0 (by decide) hm_186 rfl rfl dX5_release_18 ?_
  have hin_21 : vp_in (v_12 (hh_gI r i g) 0) 8 := hh_in (hh_T_g0 hTv_12 r hi hg) (by rw [ev_12, hh_upj (hh_ne_gl hr hr hi hg)]; exact hu0) (by omega) (by decide)
  refine hh_aal C0 hp (t0 := 3) (f := (hh_hI r)) (hh_b_H hr) (hh_E_H r) rfl rfl hin_21 rfl dX5_release_21 ?_
  refine lv_iconst (v := (-1)) hx hb dX5_release_22 (by decide) ?_
  refine hh_put C0 hp (C := RX1) (T := TX1) (N := 13) (ci := 1) (k := 6) (ty := .int) (hh_b_h hr (hh_lt hin_21)) (hh_E_h r (hh_lt hin_21)) (hh_ph6 r (hh_lt hin_21)) rfl hh_uX1 tyX1_ok nmX1 (by decide) hm_224 rfl rfl (by decide +kernel) rfl rfl (Nat.le_of_ble_eq_true rfl) dX5_release_23 (fun H locs hp => ?_)
  obtain ⟨v_23, ev_23⟩ : ∃ z : hh_M, z = hh_up v_12 (hh_hI r ((v_12 (hh_gI r i g) 0).toNatClampNeg)) 6 (-1) := ⟨_, rfl⟩
  rw [← ev_23] at hp
  have hTv_23 : hh_T nm nh nc v_23 := by rw [ev_23]; exact hh_T_up hTv_12 (hh_R_h6 hr (hh_lt hin_21) (hh_rg0 (by decide)))
  exact hh_vret C0 hp dX5_release_26 ⟨(by show _ = _; unfold hf_X5_release; rw [hh_let_eq ev_12, hh_let_eq ev_23]), hTv_23⟩
def hf_X5_end (v : hh_M) (r : Nat) (i : Nat) (how : Int32) : hh_M := (hh_let (hh_up v (hh_cI r i) 6 how : hh_M) (fun (v_2 : hh_M) => (hh_let (hf_X2_isUsed v_2 r i 0 : Int32) (fun (q_9 : Int32) => (if q_9 = 0 then (hh_let (hf_X2_isUsed v_2 r i 1 : Int32) (fun (q_27 : Int32) => (if q_27 = 0 then v_2 else (hh_let (hf_X5_release v_2 r i 1 : hh_M) (fun (v_38 : hh_M) => v_38))))) else (hh_let (hf_X5_release v_2 r i 0 : hh_M) (fun (v_20 : hh_M) => (hh_let (hf_X2_isUsed v_20 r i 1 : Int32) (fun (q_27 : Int32) => (if q_27 = 0 then v_20 else (hh_let (hf_X5_release v_20 r i 1 : hh_M) (fun (v_38 : hh_M) => v_38))))))))))))
set_option maxHeartbeats 4000000 in
set_option maxRecDepth 100000 in
theorem hk_X5_end (l : Launch) (D : va_G) (K : Nat → ClassId) (ad : Nat → Nat) {nm : Nat} {nh nc : Nat → Nat} {v : hh_M} (hT : hh_T nm nh nc v) (r : Nat) (i : Nat) (how : Int32) (hr : r < 2) (hi : i < 24) : hh_Kv l D K ad yX5_end (hh_wm yX5_end cX5_end 3 none) { frames := 1, cells := 0, slots := 0, locals := 21 } [.ref (ad (hh_rI r)), .ref (ad (hh_cI r i)), .int how] v (fun (v1 : hh_M) => v1 = hf_X5_end v r i how ∧ hh_T nm nh nc v1) := by
  refine hh_Kv_of (by decide) (Nat.le_of_ble_eq_true rfl) ?_
  intro p e s m args below meth c ls A C0 hp hl
  obtain ⟨hx, hb, hr9, hml, hown, hts, hK, hlk, hA⟩ := id C0
  have hnm := hT.1
  have hnh := hT.2.1
  have hnc := hT.2.2.1
  have hbHr := hnh r
  have hbCr := hnc r
  have hl : lv_has ls 3 [(0, .ref (ad (hh_rI r))), (1, .ref (ad (hh_cI r i))), (2, .int how)] := hl
  refine lv_aload_n hx hb dX5_end_0 rfl (lv_at hl 1 rfl) ?_
  refine lv_iload_n hx hb dX5_end_1 rfl (lv_at hl 2 rfl) ?_
  refine hh_put C0 hp (C := RX0) (T := TX0) (N := 7) (ci := 0) (k := 6) (ty := .int) (hh_b_c hr hi) (hh_E_c r hi) (hh_pc6 r hi) rfl hh_uX0 tyX0_ok nmX0 (by decide) hm_185 rfl rfl (by decide +kernel) rfl rfl (Nat.le_of_ble_eq_true rfl) dX5_end_2 (fun H locs hp => ?_)
  obtain ⟨v_2, ev_2⟩ : ∃ z : hh_M, z = hh_up v (hh_cI r i) 6 how := ⟨_, rfl⟩
  rw [← ev_2] at hp
  have hTv_2 : hh_T nm nh nc v_2 := by rw [ev_2]; exact hh_T_up hT (hh_Rt_c hr hi (by decide))
  refine lv_aload_n hx hb dX5_end_5 rfl (lv_at hl 1 rfl) ?_
  refine hh_get C0 hp (C := RX0) (T := TX0) (N := 7) (ci := 0) (hh_b_c hr hi) (hh_E_c r hi) rfl hh_uX0 0 (by decide) hm_159 rfl rfl dX5_end_6 ?_
  refine hh_cVi C0 hp (As := []) (rest := []) (C := RX2) (T := TX2) (N := 6) (ci := 2) (n := 0) (hk_X2_isUsed l D K ad hTv_2 r i 0 hr hi (by decide : 0 < 2)) rfl (hh_b_g hr hi (by decide : 0 < 2)) (hh_E_g r hi (by decide : 0 < 2)) (hh_gV hm_190 hm_191 hm_192 hm_6 hm_52) ⟨rfl, rfl⟩ (by decide +kernel) ⟨Nat.le_of_ble_eq_true rfl, Nat.le_of_ble_eq_true rfl⟩ ⟨Nat.zero_le _, Nat.zero_le _⟩ hl.1 rfl rfl (Nat.le_of_ble_eq_true rfl) dX5_end_9 (fun q_9 v_9 H locs hv_9 hp => ?_)
  obtain ⟨eq_9, hv9, hpq_9a⟩ := hv_9
  rw [hv9] at hp; clear hv9
  refine lv_if_eq (tgt := 23) hx hb dX5_end_12 (by decide) (fun c_12 => ?_) (fun c_12 => ?_)
  · refine lv_aload_n hx hb dX5_end_23 rfl (lv_at hl 1 rfl) ?_
    refine hh_get C0 hp (C := RX0) (T := TX0) (N := 7) (ci := 0) (hh_b_c hr hi) (hh_E_c r hi) rfl hh_uX0 1 (by decide) hm_160 rfl rfl dX5_end_24 ?_
    refine hh_cVi C0 hp (As := []) (rest := []) (C := RX2) (T := TX2) (N := 6) (ci := 2) (n := 0) (hk_X2_isUsed l D K ad hTv_2 r i 1 hr hi (by decide : 1 < 2)) rfl (hh_b_g hr hi (by decide : 1 < 2)) (hh_E_g r hi (by decide : 1 < 2)) (hh_gV hm_190 hm_191 hm_192 hm_6 hm_52) ⟨rfl, rfl⟩ (by decide +kernel) ⟨Nat.le_of_ble_eq_true rfl, Nat.le_of_ble_eq_true rfl⟩ ⟨Nat.zero_le _, Nat.zero_le _⟩ hl.1 rfl rfl (Nat.le_of_ble_eq_true rfl) dX5_end_27 (fun q_27 v_27 H locs hv_27 hp => ?_)
    obtain ⟨eq_27, hv9, hpq_27a⟩ := hv_27
    rw [hv9] at hp; clear hv9
    refine lv_if_eq (tgt := 41) hx hb dX5_end_30 (by decide) (fun c_30 => ?_) (fun c_30 => ?_)
    · exact hh_vret C0 hp dX5_end_41 ⟨(by show _ = _; unfold hf_X5_end; rw [hh_let_eq ev_2, hh_let_eq eq_9, if_pos c_12, hh_let_eq eq_27, if_pos c_30]), hTv_2⟩
    · refine lv_aload_n hx hb dX5_end_33 rfl (lv_at hl 0 rfl) ?_
      refine lv_aload_n hx hb dX5_end_34 rfl (lv_at hl 1 rfl) ?_
      refine hh_get C0 hp (C := RX0) (T := TX0) (N := 7) (ci := 0) (hh_b_c hr hi) (hh_E_c r hi) rfl hh_uX0 1 (by decide) hm_160 rfl rfl dX5_end_35 ?_
      refine hh_cVv C0 hp (As := [.ref (ad (hh_gI r i 1))]) (rest := []) (C := RX5) (T := TX5) (N := 10) (ci := 5) (n := 1) (hk_X5_release l D K ad hTv_2 r i 1 hr hi (by decide : 1 < 2) ((hpq_27a.resolve_left c_30).1) ((hpq_27a.resolve_left c_30).2)) rfl (hh_b_r hr) (hh_E_r r) (hh_gV hm_220 hm_221 hm_222 hm_128 hm_223) ⟨rfl, rfl⟩ (by decide +kernel) ⟨Nat.le_of_ble_eq_true rfl, Nat.le_of_ble_eq_true rfl⟩ ⟨Nat.zero_le _, Nat.zero_le _⟩ hl.1 rfl rfl (Nat.le_of_ble_eq_true rfl) dX5_end_38 (fun v_38 H locs hv_38 hp => ?_)
      obtain ⟨ev_38, hTv_38⟩ := hv_38
      exact hh_vret C0 hp dX5_end_41 ⟨(by show _ = _; unfold hf_X5_end; rw [hh_let_eq ev_2, hh_let_eq eq_9, if_pos c_12, hh_let_eq eq_27, if_neg c_30, hh_let_eq ev_38]), hTv_38⟩
  · refine lv_aload_n hx hb dX5_end_15 rfl (lv_at hl 0 rfl) ?_
    refine lv_aload_n hx hb dX5_end_16 rfl (lv_at hl 1 rfl) ?_
    refine hh_get C0 hp (C := RX0) (T := TX0) (N := 7) (ci := 0) (hh_b_c hr hi) (hh_E_c r hi) rfl hh_uX0 0 (by decide) hm_159 rfl rfl dX5_end_17 ?_
    refine hh_cVv C0 hp (As := [.ref (ad (hh_gI r i 0))]) (rest := []) (C := RX5) (T := TX5) (N := 10) (ci := 5) (n := 1) (hk_X5_release l D K ad hTv_2 r i 0 hr hi (by decide : 0 < 2) ((hpq_9a.resolve_left c_12).1) ((hpq_9a.resolve_left c_12).2)) rfl (hh_b_r hr) (hh_E_r r) (hh_gV hm_220 hm_221 hm_222 hm_128 hm_223) ⟨rfl, rfl⟩ (by decide +kernel) ⟨Nat.le_of_ble_eq_true rfl, Nat.le_of_ble_eq_true rfl⟩ ⟨Nat.zero_le _, Nat.zero_le _⟩ hl.1 rfl rfl (Nat.le_of_ble_eq_true rfl) dX5_end_20 (fun v_20 H locs hv_20 hp => ?_)
    obtain ⟨ev_20, hTv_20⟩ := hv_20
    refine lv_aload_n hx hb dX5_end_23 rfl (lv_at hl 1 rfl) ?_
    refine hh_get C0 hp (C := RX0) (T := TX0) (N := 7) (ci := 0) (hh_b_c hr hi) (hh_E_c r hi) rfl hh_uX0 1 (by decide) hm_160 rfl rfl dX5_end_24 ?_
    refine hh_cVi C0 hp (As := []) (rest := []) (C := RX2) (T := TX2) (N := 6) (ci := 2) (n := 0) (hk_X2_isUsed l D K ad hTv_20 r i 1 hr hi (by decide : 1 < 2)) rfl (hh_b_g hr hi (by decide : 1 < 2)) (hh_E_g r hi (by decide : 1 < 2)) (hh_gV hm_190 hm_191 hm_192 hm_6 hm_52) ⟨rfl, rfl⟩ (by decide +kernel) ⟨Nat.le_of_ble_eq_true rfl, Nat.le_of_ble_eq_true rfl⟩ ⟨Nat.zero_le _, Nat.zero_le _⟩ hl.1 rfl rfl (Nat.le_of_ble_eq_true rfl) dX5_end_27 (fun q_27 v_27 H locs hv_27 hp => ?_)
    obtain ⟨eq_27, hv9, hpq_27a⟩ := hv_27
    rw [hv9] at hp; clear hv9
    refine lv_if_eq (tgt := 41) hx hb dX5_end_30 (by decide) (fun c_30 => ?_) (fun c_30 => ?_)
    · exact hh_vret C0 hp dX5_end_41 ⟨(by show _ = _; unfold hf_X5_end; rw [hh_let_eq ev_2, hh_let_eq eq_9, if_neg c_12, hh_let_eq ev_20, hh_let_eq eq_27, if_pos c_30]), hTv_20⟩
    · refine lv_aload_n hx hb dX5_end_33 rfl (lv_at hl 0 rfl) ?_
      refine lv_aload_n hx hb dX5_end_34 rfl (lv_at hl 1 rfl) ?_
      refine hh_get C0 hp (C := RX0) (T := TX0) (N := 7) (ci := 0) (hh_b_c hr hi) (hh_E_c r hi) rfl hh_uX0 1 (by decide) hm_160 rfl rfl dX5_end_35 ?_
      refine hh_cVv C0 hp (As := [.ref (ad (hh_gI r i 1))]) (rest := []) (C := RX5) (T := TX5) (N := 10) (ci := 5) (n := 1) (hk_X5_release l D K ad hTv_20 r i 1 hr hi (by decide : 1 < 2) ((hpq_27a.resolve_left c_30).1) ((hpq_27a.resolve_left c_30).2)) rfl (hh_b_r hr) (hh_E_r r) (hh_gV hm_220 hm_221 hm_222 hm_128 hm_223) ⟨rfl, rfl⟩ (by decide +kernel) ⟨Nat.le_of_ble_eq_true rfl, Nat.le_of_ble_eq_true rfl⟩ ⟨Nat.zero_le _, Nat.zero_le _⟩ hl.1 rfl rfl (Nat.le_of_ble_eq_true rfl) dX5_end_38 (fun v_38 H locs hv_38 hp => ?_)
      obtain ⟨ev_38, hTv_38⟩ := hv_38
      exact hh_vret C0 hp dX5_end_41 ⟨(by show _ = _; unfold hf_X5_end; rw [hh_let_eq ev_2, hh_let_eq eq_9, if_neg c_12, hh_let_eq ev_20, hh_let_eq eq_27, if_neg c_30, hh_let_eq ev_38]), hTv_38⟩
def hf_X5_price (v : hh_M) (r : Nat) (i : Nat) (i2 : Nat) : Int32 := (hh_let (hf_X2_isUsed v r i 1 : Int32) (fun (q_4 : Int32) => (if q_4 = 0 then 0 else (if (v (hh_mI ((v (hh_gI r i 0) 1).toNatClampNeg)) 5) = (v (hh_hI r i2) 0) then 1 else 3))))
set_option maxHeartbeats 4000000 in
set_option maxRecDepth 100000 in
theorem hk_X5_price (l : Launch) (D : va_G) (K : Nat → ClassId) (ad : Nat → Nat) {nm : Nat} {nh nc : Nat → Nat} {v : hh_M} (hT : hh_T nm nh nc v) (r : Nat) (i : Nat) (i2 : Nat) (hr : r < 2) (hi : i < 24) (hi2 : i2 < 8) (hu : ¬ v (hh_gI r i 0) 1 = -1) : hh_Ki l D K ad yX5_price (hh_wm yX5_price cX5_price 3 (some .int)) { frames := 1, cells := 0, slots := 0, locals := 20 } [.ref (ad (hh_rI r)), .ref (ad (hh_cI r i)), .ref (ad (hh_hI r i2))] v (fun (q : Int32) (v1 : hh_M) => q = hf_X5_price v r i i2 ∧ v1 = v) := by
  refine hh_Ki_of (by decide) (Nat.le_of_ble_eq_true rfl) ?_
  intro p e s m args below meth c ls A C0 hp hl
  obtain ⟨hx, hb, hr9, hml, hown, hts, hK, hlk, hA⟩ := id C0
  have hnm := hT.1
  have hnh := hT.2.1
  have hnc := hT.2.2.1
  have hbHr := hnh r
  have hbCr := hnc r
  have hl : lv_has ls 3 [(0, .ref (ad (hh_rI r))), (1, .ref (ad (hh_cI r i))), (2, .ref (ad (hh_hI r i2)))] := hl
  refine lv_aload_n hx hb dX5_price_0 rfl (lv_at hl 1 rfl) ?_
  refine hh_get C0 hp (C := RX0) (T := TX0) (N := 7) (ci := 0) (hh_b_c hr hi) (hh_E_c r hi) rfl hh_uX0 1 (by decide) hm_160 rfl rfl dX5_price_1 ?_
  refine hh_cVi C0 hp (As := []) (rest := []) (C := RX2) (T := TX2) (N := 6) (ci := 2) (n := 0) (hk_X2_isUsed l D K ad hT r i 1 hr hi (by decide : 1 < 2)) rfl (hh_b_g hr hi (by decide : 1 < 2)) (hh_E_g r hi (by decide : 1 < 2)) (hh_gV hm_190 hm_191 hm_192 hm_6 hm_52) ⟨rfl, rfl⟩ (by decide +kernel) ⟨Nat.le_of_ble_eq_true rfl, Nat.le_of_ble_eq_true rfl⟩ ⟨Nat.zero_le _, Nat.zero_le _⟩ hl.1 rfl rfl (Nat.le_of_ble_eq_true rfl) dX5_price_4 (fun q_4 v_4 H locs hv_4 hp => ?_)
  obtain ⟨eq_4, hv9, hpq_4a⟩ := hv_4
  rw [hv9] at hp; clear hv9
  refine lv_if_ne (tgt := 12) hx hb dX5_price_7 (by decide) (fun c_7 => ?_) (fun c_7 => ?_)
  · refine lv_aload_n hx hb dX5_price_12 rfl (lv_at hl 0 rfl) ?_
    refine hh_get C0 hp (C := RX5) (T := TX5) (N := 10) (ci := 5) (hh_b_r hr) (hh_E_r r) rfl hh_uX5 0 (by decide) hm_97 rfl rfl dX5_price_13 ?_
    refine hh_get C0 hp (C := RX4) (T := TX4) (N := 3) (ci := 4) (by decide) hh_E_1 rfl hh_uX4 0 (by decide) hm_136 rfl rfl dX5_price_16 ?_
    refine lv_aload_n hx hb dX5_price_19 rfl (lv_at hl 1 rfl) ?_
    refine hh_get C0 hp (C := RX0) (T := TX0) (N := 7) (ci := 0) (hh_b_c hr hi) (hh_E_c r hi) rfl hh_uX0 0 (by decide) hm_159 rfl rfl dX5_price_20 ?_
    refine hh_get C0 hp (C := RX2) (T := TX2) (N := 6) (ci := 2) (hh_b_g hr hi (by decide : 0 < 2)) (hh_E_g r hi (by decide : 0 < 2)) rfl hh_uX2 1 (by decide) hm_187 rfl rfl dX5_price_23 ?_
    have hin_26 : vp_in (v (hh_gI r i 0) 1) 6 := hh_in (hh_T_g1 hT r hi (by decide)) hu (by omega) (by decide)
    refine hh_aal C0 hp (t0 := 2) (f := hh_mI) (by decide) hh_E_2 rfl rfl hin_26 rfl dX5_price_26 ?_
    refine hh_get C0 hp (C := RX3) (T := TX3) (N := 7) (ci := 3) (hh_b_m (hh_lt hin_26)) (hh_E_m (hh_lt hin_26)) rfl hh_uX3 5 (by decide) hm_236 rfl rfl dX5_price_27 ?_
    refine lv_aload_n hx hb dX5_price_30 rfl (lv_at hl 2 rfl) ?_
    refine hh_get C0 hp (C := RX1) (T := TX1) (N := 13) (ci := 1) (hh_b_h hr hi2) (hh_E_h r hi2) rfl hh_uX1 0 (by decide) hm_237 rfl rfl dX5_price_31 ?_
    refine lv_icmp_ne (tgt := 41) hx hb dX5_price_34 (by decide) (fun c_34 => ?_) (fun c_34 => ?_)
    · refine lv_iconst (v := 3) hx hb dX5_price_41 (by decide) ?_
      exact hh_iret C0 hp dX5_price_42 ⟨(by unfold hf_X5_price; rw [hh_let_eq eq_4, if_neg c_7, if_neg c_34]), rfl⟩
    · refine lv_iconst (v := 1) hx hb dX5_price_37 (by decide) ?_
      refine lv_goto (tgt := 42) hx hb dX5_price_38 (by decide) ?_
      exact hh_iret C0 hp dX5_price_42 ⟨(by unfold hf_X5_price; rw [hh_let_eq eq_4, if_neg c_7, if_pos c_34]), rfl⟩
  · refine lv_iconst (v := 0) hx hb dX5_price_10 (by decide) ?_
    exact hh_iret C0 hp dX5_price_11 ⟨(by unfold hf_X5_price; rw [hh_let_eq eq_4, if_pos c_7]), rfl⟩
def hf_X5_carry (v : hh_M) (r : Nat) (i : Nat) (g : Nat) : hh_M := (hh_let (hf_X2_isUsed v r i g : Int32) (fun (q_1 : Int32) => (if q_1 = 0 then v else (hh_let (hh_up v (hh_kI r) ((v (hh_gI r i g) 1).toNatClampNeg) ((v (hh_kI r) ((v (hh_gI r i g) 1).toNatClampNeg)) + 1) : hh_M) (fun (v_19 : hh_M) => v_19)))))
set_option maxHeartbeats 4000000 in
set_option maxRecDepth 100000 in
theorem hk_X5_carry (l : Launch) (D : va_G) (K : Nat → ClassId) (ad : Nat → Nat) {nm : Nat} {nh nc : Nat → Nat} {v : hh_M} (hT : hh_T nm nh nc v) (r : Nat) (i : Nat) (g : Nat) (hr : r < 2) (hi : i < 24) (hg : g < 2) : hh_Kv l D K ad yX5_carry (hh_wm yX5_carry cX5_carry 2 none) { frames := 1, cells := 0, slots := 0, locals := 20 } [.ref (ad (hh_rI r)), .ref (ad (hh_gI r i g))] v (fun (v1 : hh_M) => v1 = hf_X5_carry v r i g ∧ hh_T nm nh nc v1) := by
  refine hh_Kv_of (by decide) (Nat.le_of_ble_eq_true rfl) ?_
  intro p e s m args below meth c ls A C0 hp hl
  obtain ⟨hx, hb, hr9, hml, hown, hts, hK, hlk, hA⟩ := id C0
  have hnm := hT.1
  have hnh := hT.2.1
  have hnc := hT.2.2.1
  have hbHr := hnh r
  have hbCr := hnc r
  have hl : lv_has ls 2 [(0, .ref (ad (hh_rI r))), (1, .ref (ad (hh_gI r i g)))] := hl
  refine lv_aload_n hx hb dX5_carry_0 rfl (lv_at hl 1 rfl) ?_
  refine hh_cVi C0 hp (As := []) (rest := []) (C := RX2) (T := TX2) (N := 6) (ci := 2) (n := 0) (hk_X2_isUsed l D K ad hT r i g hr hi hg) rfl (hh_b_g hr hi hg) (hh_E_g r hi hg) (hh_gV hm_190 hm_191 hm_192 hm_6 hm_52) ⟨rfl, rfl⟩ (by decide +kernel) ⟨Nat.le_of_ble_eq_true rfl, Nat.le_of_ble_eq_true rfl⟩ ⟨Nat.zero_le _, Nat.zero_le _⟩ hl.1 rfl rfl (Nat.le_of_ble_eq_true rfl) dX5_carry_1 (fun q_1 v_1 H locs hv_1 hp => ?_)
  obtain ⟨eq_1, hv9, hpq_1a⟩ := hv_1
  rw [hv9] at hp; clear hv9
  refine lv_if_eq (tgt := 20) hx hb dX5_carry_4 (by decide) (fun c_4 => ?_) (fun c_4 => ?_)
  · exact hh_vret C0 hp dX5_carry_20 ⟨(by show _ = _; unfold hf_X5_carry; rw [hh_let_eq eq_1, if_pos c_4]), hT⟩
  · refine lv_aload_n hx hb dX5_carry_7 rfl (lv_at hl 0 rfl) ?_
    refine hh_get C0 hp (C := RX5) (T := TX5) (N := 10) (ci := 5) (hh_b_r hr) (hh_E_r r) rfl hh_uX5 2 (by decide) hm_99 rfl rfl dX5_carry_8 ?_
    refine lv_aload_n hx hb dX5_carry_11 rfl (lv_at hl 1 rfl) ?_
    refine hh_get C0 hp (C := RX2) (T := TX2) (N := 6) (ci := 2) (hh_b_g hr hi hg) (hh_E_g r hi hg) rfl hh_uX2 1 (by decide) hm_187 rfl rfl dX5_carry_12 ?_
    refine lv_dup2_11 hx hb dX5_carry_15 rfl rfl ?_
    have hin_16 : vp_in (v (hh_gI r i g) 1) 6 := hh_in (hh_T_g1 hT r hi hg) (hpq_1a.resolve_left c_4).2 (by omega) (by decide)
    refine hh_ial C0 hp (hh_b_k hr) (hh_E_k r) hin_16 rfl dX5_carry_16 ?_
    refine lv_iconst (v := 1) hx hb dX5_carry_17 (by decide) ?_
    refine lv_iadd hx hb dX5_carry_18 ?_
    have hin_19 : vp_in (v (hh_gI r i g) 1) 6 := by assumption
    refine hh_ias C0 hp (hh_b_k hr) (fun _ => (hh_E_k r)) hin_19 rfl dX5_carry_19 (fun H locs hp => ?_)
    obtain ⟨v_19, ev_19⟩ : ∃ z : hh_M, z = hh_up v (hh_kI r) ((v (hh_gI r i g) 1).toNatClampNeg) ((v (hh_kI r) ((v (hh_gI r i g) 1).toNatClampNeg)) + 1) := ⟨_, rfl⟩
    rw [← ev_19] at hp
    have hTv_19 : hh_T nm nh nc v_19 := by rw [ev_19]; exact hh_T_up hT (hh_Rt_k hr)
    exact hh_vret C0 hp dX5_carry_20 ⟨(by show _ = _; unfold hf_X5_carry; rw [hh_let_eq eq_1, if_neg c_4, hh_let_eq ev_19]), hTv_19⟩
def hf_X5_charge (v : hh_M) (r : Nat) (i : Nat) : hh_M := (if (v (hh_cI r i) 6) = 0 then (hh_let (hf_X2_isUsed v r i 0 : Int32) (fun (q_11 : Int32) => (if q_11 = 0 then v else (hh_let (hf_X5_price v r i ((v (hh_gI r i 0) 0).toNatClampNeg) : Int32) (fun (q_34 : Int32) => (if q_34 ≤ (v (hh_hI r ((v (hh_gI r i 0) 0).toNatClampNeg)) 3) then (hh_let (hh_up v (hh_hI r ((v (hh_gI r i 0) 0).toNatClampNeg)) 3 ((v (hh_hI r ((v (hh_gI r i 0) 0).toNatClampNeg)) 3) - q_34) : hh_M) (fun (v_60 : hh_M) => (hh_let (hh_up v_60 (hh_cI r i) 3 ((v_60 (hh_cI r i) 3) + q_34) : hh_M) (fun (v_70 : hh_M) => (hh_let (hh_up v_70 (hh_cI r i) 2 ((v_70 (hh_cI r i) 2) + 1) : hh_M) (fun (v_80 : hh_M) => (hh_let (hf_X5_carry v_80 r i 0 : hh_M) (fun (v_88 : hh_M) => (hh_let (hf_X5_carry v_88 r i 1 : hh_M) (fun (v_96 : hh_M) => v_96)))))))))) else (hh_let (hf_X5_end v r i 3 : hh_M) (fun (v_49 : hh_M) => v_49)))))))) else v)
set_option maxHeartbeats 4000000 in
set_option maxRecDepth 100000 in
theorem hk_X5_charge (l : Launch) (D : va_G) (K : Nat → ClassId) (ad : Nat → Nat) {nm : Nat} {nh nc : Nat → Nat} {v : hh_M} (hT : hh_T nm nh nc v) (r : Nat) (i : Nat) (hr : r < 2) (hi : i < 24) : hh_Kv l D K ad yX5_charge (hh_wm yX5_charge cX5_charge 4 none) { frames := 2, cells := 0, slots := 0, locals := 43 } [.ref (ad (hh_rI r)), .ref (ad (hh_cI r i))] v (fun (v1 : hh_M) => v1 = hf_X5_charge v r i ∧ hh_T nm nh nc v1) := by
  refine hh_Kv_of (by decide) (Nat.le_of_ble_eq_true rfl) ?_
  intro p e s m args below meth c ls A C0 hp hl
  obtain ⟨hx, hb, hr9, hml, hown, hts, hK, hlk, hA⟩ := id C0
  have hnm := hT.1
  have hnh := hT.2.1
  have hnc := hT.2.2.1
  have hbHr := hnh r
  have hbCr := hnc r
  have hl : lv_has ls 4 [(0, .ref (ad (hh_rI r))), (1, .ref (ad (hh_cI r i)))] := hl
  refine lv_aload_n hx hb dX5_charge_0 rfl (lv_at hl 1 rfl) ?_
  refine hh_get C0 hp (C := RX0) (T := TX0) (N := 7) (ci := 0) (hh_b_c hr hi) (hh_E_c r hi) rfl hh_uX0 6 (by decide) hm_185 rfl rfl dX5_charge_1 ?_
  refine lv_if_ne (tgt := 17) hx hb dX5_charge_4 (by decide) (fun c_4 => ?_) (fun c_4 => ?_)
  · exact hh_vret C0 hp dX5_charge_17 ⟨(by show _ = _; unfold hf_X5_charge; rw [if_neg c_4]), hT⟩
  · refine lv_aload_n hx hb dX5_charge_7 rfl (lv_at hl 1 rfl) ?_
    refine hh_get C0 hp (C := RX0) (T := TX0) (N := 7) (ci := 0) (hh_b_c hr hi) (hh_E_c r hi) rfl hh_uX0 0 (by decide) hm_159 rfl rfl dX5_charge_8 ?_
    refine hh_cVi C0 hp (As := []) (rest := []) (C := RX2) (T := TX2) (N := 6) (ci := 2) (n := 0) (hk_X2_isUsed l D K ad hT r i 0 hr hi (by decide : 0 < 2)) rfl (hh_b_g hr hi (by decide : 0 < 2)) (hh_E_g r hi (by decide : 0 < 2)) (hh_gV hm_190 hm_191 hm_192 hm_6 hm_52) ⟨rfl, rfl⟩ (by decide +kernel) ⟨Nat.le_of_ble_eq_true rfl, Nat.le_of_ble_eq_true rfl⟩ ⟨Nat.zero_le _, Nat.zero_le _⟩ hl.1 rfl rfl (Nat.le_of_ble_eq_true rfl) dX5_charge_11 (fun q_11 v_11 H locs hv_11 hp => ?_)
    obtain ⟨eq_11, hv9, hpq_11a⟩ := hv_11
    rw [hv9] at hp; clear hv9
    refine lv_if_ne (tgt := 18) hx hb dX5_charge_14 (by decide) (fun c_14 => ?_) (fun c_14 => ?_)
    · refine lv_aload_n hx hb dX5_charge_18 rfl (lv_at hl 0 rfl) ?_
      refine hh_get C0 hp (C := RX5) (T := TX5) (N := 10) (ci := 5) (hh_b_r hr) (hh_E_r r) rfl hh_uX5 3 (by decide) hm_101 rfl rfl dX5_charge_19 ?_
      refine lv_aload_n hx hb dX5_charge_22 rfl (lv_at hl 1 rfl) ?_
      refine hh_get C0 hp (C := RX0) (T := TX0) (N := 7) (ci := 0) (hh_b_c hr hi) (hh_E_c r hi) rfl hh_uX0 0 (by decide) hm_159 rfl rfl dX5_charge_23 ?_
      refine hh_get C0 hp (C := RX2) (T := TX2) (N := 6) (ci := 2) (hh_b_g hr hi (by decide : 0 < 2)) (hh_E_g r hi (by decide : 0 < 2)) rfl hh_uX2 0 (by decide) hm_186 rfl rfl dX5_charge_26 ?_
      have hin_29 : vp_in (v (hh_gI r i 0) 0) 8 := hh_in (hh_T_g0 hT r hi (by decide)) (hpq_11a.resolve_left c_14).1 (by omega) (by decide)
      refine hh_aal C0 hp (t0 := 3) (f := (hh_hI r)) (hh_b_H hr) (hh_E_H r) rfl rfl hin_29 rfl dX5_charge_29 ?_
      refine lv_astore_n (lv' := [(2, .ref (ad (hh_hI r ((v (hh_gI r i 0) 0).toNatClampNeg)))), (0, .ref (ad (hh_rI r))), (1, .ref (ad (hh_cI r i)))]) hx hb dX5_charge_30 rfl hl (by decide) rfl (fun ls hl => ?_)
      refine lv_aload_n hx hb dX5_charge_31 rfl (lv_at hl 1 rfl) ?_
      refine lv_aload_n hx hb dX5_charge_32 rfl (lv_at hl 2 rfl) ?_
      refine lv_aload_n hx hb dX5_charge_33 rfl (lv_at hl 0 rfl) ?_
      refine hh_cVi C0 hp (As := [.ref (ad (hh_cI r i)), .ref (ad (hh_hI r ((v (hh_gI r i 0) 0).toNatClampNeg)))]) (rest := []) (C := RX5) (T := TX5) (N := 10) (ci := 5) (n := 2) (hk_X5_price l D K ad hT r i ((v (hh_gI r i 0) 0).toNatClampNeg) hr hi (hh_lt hin_29) ((hpq_11a.resolve_left c_14).2)) rfl (hh_b_r hr) (hh_E_r r) (hh_gV hm_232 hm_233 hm_234 hm_128 hm_235) ⟨rfl, rfl⟩ (by decide +kernel) ⟨Nat.le_of_ble_eq_true rfl, Nat.le_of_ble_eq_true rfl⟩ ⟨Nat.zero_le _, Nat.zero_le _⟩ hl.1 rfl rfl (Nat.le_of_ble_eq_true rfl) dX5_charge_34 (fun q_34 v_34 H locs hv_34 hp => ?_)
      obtain ⟨eq_34, hv9⟩ := hv_34
      rw [hv9] at hp; clear hv9
      refine lv_istore_n (lv' := [(3, .int q_34), (2, .ref (ad (hh_hI r ((v (hh_gI r i 0) 0).toNatClampNeg)))), (0, .ref (ad (hh_rI r))), (1, .ref (ad (hh_cI r i)))]) hx hb dX5_charge_37 rfl hl (by decide) rfl (fun ls hl => ?_)
      refine lv_aload_n hx hb dX5_charge_38 rfl (lv_at hl 1 rfl) ?_
      refine hh_get C0 hp (C := RX1) (T := TX1) (N := 13) (ci := 1) (hh_b_h hr (hh_lt hin_29)) (hh_E_h r (hh_lt hin_29)) rfl hh_uX1 3 (by decide) hm_229 rfl rfl dX5_charge_39 ?_
      refine lv_iload_n hx hb dX5_charge_42 rfl (lv_at hl 0 rfl) ?_
      refine lv_icmp_ge (tgt := 53) hx hb dX5_charge_43 (by decide) (fun c_43 => ?_) (fun c_43 => ?_)
      · refine lv_aload_n hx hb dX5_charge_53 rfl (lv_at hl 1 rfl) ?_
        refine lv_dup hx hb dX5_charge_54 rfl ?_
        refine hh_get C0 hp (C := RX1) (T := TX1) (N := 13) (ci := 1) (hh_b_h hr (hh_lt hin_29)) (hh_E_h r (hh_lt hin_29)) rfl hh_uX1 3 (by decide) hm_229 rfl rfl dX5_charge_55 ?_
        refine lv_iload_n hx hb dX5_charge_58 rfl (lv_at hl 0 rfl) ?_
        refine lv_isub hx hb dX5_charge_59 ?_
        refine hh_put C0 hp (C := RX1) (T := TX1) (N := 13) (ci := 1) (k := 3) (ty := .int) (hh_b_h hr (hh_lt hin_29)) (hh_E_h r (hh_lt hin_29)) (hh_ph3 r (hh_lt hin_29)) rfl hh_uX1 tyX1_ok nmX1 (by decide) hm_229 rfl rfl (by decide +kernel) rfl rfl (Nat.le_of_ble_eq_true rfl) dX5_charge_60 (fun H locs hp => ?_)
        obtain ⟨v_60, ev_60⟩ : ∃ z : hh_M, z = hh_up v (hh_hI r ((v (hh_gI r i 0) 0).toNatClampNeg)) 3 ((v (hh_hI r ((v (hh_gI r i 0) 0).toNatClampNeg)) 3) - q_34) := ⟨_, rfl⟩
        rw [← ev_60] at hp
        have hTv_60 : hh_T nm nh nc v_60 := by rw [ev_60]; exact hh_T_up hT (hh_Rt_h hr (hh_lt hin_29) (by decide))
        refine lv_aload_n hx hb dX5_charge_63 rfl (lv_at hl 3 rfl) ?_
        refine lv_dup hx hb dX5_charge_64 rfl ?_
        refine hh_get C0 hp (C := RX0) (T := TX0) (N := 7) (ci := 0) (hh_b_c hr hi) (hh_E_c r hi) rfl hh_uX0 3 (by decide) hm_230 rfl rfl dX5_charge_65 ?_
        refine lv_iload_n hx hb dX5_charge_68 rfl (lv_at hl 0 rfl) ?_
        refine lv_iadd hx hb dX5_charge_69 ?_
        refine hh_put C0 hp (C := RX0) (T := TX0) (N := 7) (ci := 0) (k := 3) (ty := .int) (hh_b_c hr hi) (hh_E_c r hi) (hh_pc3 r hi) rfl hh_uX0 tyX0_ok nmX0 (by decide) hm_230 rfl rfl (by decide +kernel) rfl rfl (Nat.le_of_ble_eq_true rfl) dX5_charge_70 (fun H locs hp => ?_)
        obtain ⟨v_70, ev_70⟩ : ∃ z : hh_M, z = hh_up v_60 (hh_cI r i) 3 ((v_60 (hh_cI r i) 3) + q_34) := ⟨_, rfl⟩
        rw [← ev_70] at hp
        have hTv_70 : hh_T nm nh nc v_70 := by rw [ev_70]; exact hh_T_up hTv_60 (hh_Rt_c hr hi (by decide))
        refine lv_aload_n hx hb dX5_charge_73 rfl (lv_at hl 3 rfl) ?_
        refine lv_dup hx hb dX5_charge_74 rfl ?_
        refine hh_get C0 hp (C := RX0) (T := TX0) (N := 7) (ci := 0) (hh_b_c hr hi) (hh_E_c r hi) rfl hh_uX0 2 (by decide) hm_231 rfl rfl dX5_charge_75 ?_
        refine lv_iconst (v := 1) hx hb dX5_charge_78 (by decide) ?_
        refine lv_iadd hx hb dX5_charge_79 ?_
        refine hh_put C0 hp (C := RX0) (T := TX0) (N := 7) (ci := 0) (k := 2) (ty := .int) (hh_b_c hr hi) (hh_E_c r hi) (hh_pc2 r hi) rfl hh_uX0 tyX0_ok nmX0 (by decide) hm_231 rfl rfl (by decide +kernel) rfl rfl (Nat.le_of_ble_eq_true rfl) dX5_charge_80 (fun H locs hp => ?_)
        obtain ⟨v_80, ev_80⟩ : ∃ z : hh_M, z = hh_up v_70 (hh_cI r i) 2 ((v_70 (hh_cI r i) 2) + 1) := ⟨_, rfl⟩
        rw [← ev_80] at hp
        have hTv_80 : hh_T nm nh nc v_80 := by rw [ev_80]; exact hh_T_up hTv_70 (hh_Rt_c hr hi (by decide))
        refine lv_aload_n hx hb dX5_charge_83 rfl (lv_at hl 2 rfl) ?_
        refine lv_aload_n hx hb dX5_charge_84 rfl (lv_at hl 3 rfl) ?_
        refine hh_get C0 hp (C := RX0) (T := TX0) (N := 7) (ci := 0) (hh_b_c hr hi) (hh_E_c r hi) rfl hh_uX0 0 (by decide) hm_159 rfl rfl dX5_charge_85 ?_
        refine hh_cVv C0 hp (As := [.ref (ad (hh_gI r i 0))]) (rest := []) (C := RX5) (T := TX5) (N := 10) (ci := 5) (n := 1) (hk_X5_carry l D K ad hTv_80 r i 0 hr hi (by decide : 0 < 2)) rfl (hh_b_r hr) (hh_E_r r) (hh_gV hm_238 hm_239 hm_240 hm_128 hm_241) ⟨rfl, rfl⟩ (by decide +kernel) ⟨Nat.le_of_ble_eq_true rfl, Nat.le_of_ble_eq_true rfl⟩ ⟨Nat.zero_le _, Nat.zero_le _⟩ hl.1 rfl rfl (Nat.le_of_ble_eq_true rfl) dX5_charge_88 (fun v_88 H locs hv_88 hp => ?_)
        obtain ⟨ev_88, hTv_88⟩ := hv_88
        refine lv_aload_n hx hb dX5_charge_91 rfl (lv_at hl 2 rfl) ?_
        refine lv_aload_n hx hb dX5_charge_92 rfl (lv_at hl 3 rfl) ?_
        refine hh_get C0 hp (C := RX0) (T := TX0) (N := 7) (ci := 0) (hh_b_c hr hi) (hh_E_c r hi) rfl hh_uX0 1 (by decide) hm_160 rfl rfl dX5_charge_93 ?_
        refine hh_cVv C0 hp (As := [.ref (ad (hh_gI r i 1))]) (rest := []) (C := RX5) (T := TX5) (N := 10) (ci := 5) (n := 1) (hk_X5_carry l D K ad hTv_88 r i 1 hr hi (by decide : 1 < 2)) rfl (hh_b_r hr) (hh_E_r r) (hh_gV hm_238 hm_239 hm_240 hm_128 hm_241) ⟨rfl, rfl⟩ (by decide +kernel) ⟨Nat.le_of_ble_eq_true rfl, Nat.le_of_ble_eq_true rfl⟩ ⟨Nat.zero_le _, Nat.zero_le _⟩ hl.1 rfl rfl (Nat.le_of_ble_eq_true rfl) dX5_charge_96 (fun v_96 H locs hv_96 hp => ?_)
        obtain ⟨ev_96, hTv_96⟩ := hv_96
        exact hh_vret C0 hp dX5_charge_99 ⟨(by show _ = _; unfold hf_X5_charge; rw [if_pos c_4, hh_let_eq eq_11, if_neg c_14, hh_let_eq eq_34, if_pos c_43, hh_let_eq ev_60, hh_let_eq ev_70, hh_let_eq ev_80, hh_let_eq ev_88, hh_let_eq ev_96]), hTv_96⟩
      · refine lv_aload_n hx hb dX5_charge_46 rfl (lv_at hl 2 rfl) ?_
        refine lv_aload_n hx hb dX5_charge_47 rfl (lv_at hl 3 rfl) ?_
        refine lv_iconst (v := 3) hx hb dX5_charge_48 (by decide) ?_
        refine hh_cVv C0 hp (As := [.ref (ad (hh_cI r i)), .int 3]) (rest := []) (C := RX5) (T := TX5) (N := 10) (ci := 5) (n := 2) (hk_X5_end l D K ad hT r i 3 hr hi) rfl (hh_b_r hr) (hh_E_r r) (hh_gV hm_216 hm_217 hm_218 hm_128 hm_219) ⟨rfl, rfl⟩ (by decide +kernel) ⟨Nat.le_of_ble_eq_true rfl, Nat.le_of_ble_eq_true rfl⟩ ⟨Nat.zero_le _, Nat.zero_le _⟩ hl.1 rfl rfl (Nat.le_of_ble_eq_true rfl) dX5_charge_49 (fun v_49 H locs hv_49 hp => ?_)
        obtain ⟨ev_49, hTv_49⟩ := hv_49
        exact hh_vret C0 hp dX5_charge_52 ⟨(by show _ = _; unfold hf_X5_charge; rw [if_pos c_4, hh_let_eq eq_11, if_neg c_14, hh_let_eq eq_34, if_neg c_43, hh_let_eq ev_49]), hTv_49⟩
    · exact hh_vret C0 hp dX5_charge_17 ⟨(by show _ = _; unfold hf_X5_charge; rw [if_pos c_4, hh_let_eq eq_11, if_pos c_14]), hT⟩
def hf_X5_deliverTexts (v : hh_M) (r : Nat) (i : Nat) : hh_M := (if (v (hh_hI r i) 5) = (-1) then v else (hh_let (hh_up v (hh_hI r i) 11 ((v (hh_hI r i) 11) + (v (hh_hI r i) 12)) : hh_M) (fun (v_18 : hh_M) => (hh_let (hh_up v_18 (hh_hI r i) 12 0 : hh_M) (fun (v_23 : hh_M) => v_23)))))
set_option maxHeartbeats 4000000 in
set_option maxRecDepth 100000 in
theorem hk_X5_deliverTexts (l : Launch) (D : va_G) (K : Nat → ClassId) (ad : Nat → Nat) {nm : Nat} {nh nc : Nat → Nat} {v : hh_M} (hT : hh_T nm nh nc v) (r : Nat) (i : Nat) (hr : r < 2) (hi : i < 8) : hh_Kv l D K ad yX5_deliverTexts (hh_wm yX5_deliverTexts cX5_deliverTexts 2 none) { frames := 0, cells := 0, slots := 0, locals := 0 } [.ref (ad (hh_rI r)), .ref (ad (hh_hI r i))] v (fun (v1 : hh_M) => v1 = hf_X5_deliverTexts v r i ∧ hh_T nm nh nc v1) := by
  refine hh_Kv_of (by decide) (Nat.le_of_ble_eq_true rfl) ?_
  intro p e s m args below meth c ls A C0 hp hl
  obtain ⟨hx, hb, hr9, hml, hown, hts, hK, hlk, hA⟩ := id C0
  have hnm := hT.1
  have hnh := hT.2.1
  have hnc := hT.2.2.1
  have hbHr := hnh r
  have hbCr := hnc r
  have hl : lv_has ls 2 [(0, .ref (ad (hh_rI r))), (1, .ref (ad (hh_hI r i)))] := hl
  refine lv_aload_n hx hb dX5_deliverTexts_0 rfl (lv_at hl 1 rfl) ?_
  refine hh_get C0 hp (C := RX1) (T := TX1) (N := 13) (ci := 1) (hh_b_h hr hi) (hh_E_h r hi) rfl hh_uX1 5 (by decide) hm_140 rfl rfl dX5_deliverTexts_1 ?_
  refine lv_iconst (v := (-1)) hx hb dX5_deliverTexts_4 (by decide) ?_
  refine lv_icmp_eq (tgt := 26) hx hb dX5_deliverTexts_5 (by decide) (fun c_5 => ?_) (fun c_5 => ?_)
  · exact hh_vret C0 hp dX5_deliverTexts_26 ⟨(by show _ = _; unfold hf_X5_deliverTexts; rw [if_pos c_5]), hT⟩
  · refine lv_aload_n hx hb dX5_deliverTexts_8 rfl (lv_at hl 1 rfl) ?_
    refine lv_dup hx hb dX5_deliverTexts_9 rfl ?_
    refine hh_get C0 hp (C := RX1) (T := TX1) (N := 13) (ci := 1) (hh_b_h hr hi) (hh_E_h r hi) rfl hh_uX1 11 (by decide) hm_246 rfl rfl dX5_deliverTexts_10 ?_
    refine lv_aload_n hx hb dX5_deliverTexts_13 rfl (lv_at hl 1 rfl) ?_
    refine hh_get C0 hp (C := RX1) (T := TX1) (N := 13) (ci := 1) (hh_b_h hr hi) (hh_E_h r hi) rfl hh_uX1 12 (by decide) hm_247 rfl rfl dX5_deliverTexts_14 ?_
    refine lv_iadd hx hb dX5_deliverTexts_17 ?_
    refine hh_put C0 hp (C := RX1) (T := TX1) (N := 13) (ci := 1) (k := 11) (ty := .int) (hh_b_h hr hi) (hh_E_h r hi) (hh_ph11 r hi) rfl hh_uX1 tyX1_ok nmX1 (by decide) hm_246 rfl rfl (by decide +kernel) rfl rfl (Nat.le_of_ble_eq_true rfl) dX5_deliverTexts_18 (fun H locs hp => ?_)
    obtain ⟨v_18, ev_18⟩ : ∃ z : hh_M, z = hh_up v (hh_hI r i) 11 ((v (hh_hI r i) 11) + (v (hh_hI r i) 12)) := ⟨_, rfl⟩
    rw [← ev_18] at hp
    have hTv_18 : hh_T nm nh nc v_18 := by rw [ev_18]; exact hh_T_up hT (hh_Rt_h hr hi (by decide))
    refine lv_aload_n hx hb dX5_deliverTexts_21 rfl (lv_at hl 1 rfl) ?_
    refine lv_iconst (v := 0) hx hb dX5_deliverTexts_22 (by decide) ?_
    refine hh_put C0 hp (C := RX1) (T := TX1) (N := 13) (ci := 1) (k := 12) (ty := .int) (hh_b_h hr hi) (hh_E_h r hi) (hh_ph12 r hi) rfl hh_uX1 tyX1_ok nmX1 (by decide) hm_247 rfl rfl (by decide +kernel) rfl rfl (Nat.le_of_ble_eq_true rfl) dX5_deliverTexts_23 (fun H locs hp => ?_)
    obtain ⟨v_23, ev_23⟩ : ∃ z : hh_M, z = hh_up v_18 (hh_hI r i) 12 0 := ⟨_, rfl⟩
    rw [← ev_23] at hp
    have hTv_23 : hh_T nm nh nc v_23 := by rw [ev_23]; exact hh_T_up hTv_18 (hh_Rt_h hr hi (by decide))
    exact hh_vret C0 hp dX5_deliverTexts_26 ⟨(by show _ = _; unfold hf_X5_deliverTexts; rw [if_neg c_5, hh_let_eq ev_18, hh_let_eq ev_23]), hTv_23⟩
def hf_X5_handOver (v : hh_M) (r : Nat) (i : Nat) (g : Nat) (mast : Int32) : hh_M := (hh_let (hh_up v (hh_cI r i) 4 ((v (hh_cI r i) 4) + 1) : hh_M) (fun (v_7 : hh_M) => (hh_let ((if (v_7 (hh_gI r i g) 4) = mast then (if 5 < ((v_7 (hh_rI r) 8) - (v_7 (hh_gI r i g) 5)) then v_7 else (hh_let (hh_up v_7 (hh_cI r i) 5 ((v_7 (hh_cI r i) 5) + 1) : hh_M) (fun (v_38 : hh_M) => v_38))) else v_7) : hh_M) (fun (vj_41 : hh_M) => (hh_let (hh_up vj_41 (hh_gI r i g) 4 (vj_41 (hh_gI r i g) 1) : hh_M) (fun (v_46 : hh_M) => (hh_let (hh_up v_46 (hh_gI r i g) 5 (v_46 (hh_rI r) 8) : hh_M) (fun (v_54 : hh_M) => (hh_let (hh_up v_54 (hh_gI r i g) 2 0 : hh_M) (fun (v_59 : hh_M) => (hh_let (hh_up v_59 (hh_lI r) ((v_59 (hh_gI r i g) 1).toNatClampNeg) ((v_59 (hh_lI r) ((v_59 (hh_gI r i g) 1).toNatClampNeg)) - 1) : hh_M) (fun (v_74 : hh_M) => (hh_let (hh_up v_74 (hh_lI r) mast.toNatClampNeg ((v_74 (hh_lI r) mast.toNatClampNeg) + 1) : hh_M) (fun (v_84 : hh_M) => (hh_let (hh_up v_84 (hh_gI r i g) 1 mast : hh_M) (fun (v_87 : hh_M) => (hh_let (hh_up v_87 (hh_hI r ((v_87 (hh_gI r i g) 0).toNatClampNeg)) 5 mast : hh_M) (fun (v_100 : hh_M) => v_100))))))))))))))))))
set_option maxHeartbeats 4000000 in
set_option maxRecDepth 100000 in
theorem hk_X5_handOver (l : Launch) (D : va_G) (K : Nat → ClassId) (ad : Nat → Nat) {nm : Nat} {nh nc : Nat → Nat} {v : hh_M} (hT : hh_T nm nh nc v) (r : Nat) (i : Nat) (g : Nat) (mast : Int32) (hr : r < 2) (hi : i < 24) (hg : g < 2) (hu0 : ¬ v (hh_gI r i g) 0 = -1) (hu1 : ¬ v (hh_gI r i g) 1 = -1) (hm : vp_in mast 6) (hm2 : -1 ≤ mast ∧ mast < nI nm) : hh_Kv l D K ad yX5_handOver (hh_wm yX5_handOver cX5_handOver 4 none) { frames := 0, cells := 0, slots := 0, locals := 0 } [.ref (ad (hh_rI r)), .ref (ad (hh_cI r i)), .ref (ad (hh_gI r i g)), .int mast] v (fun (v1 : hh_M) => v1 = hf_X5_handOver v r i g mast ∧ hh_T nm nh nc v1 ∧ (vp_in (v1 (hh_gI r i g) 1) 6)) := by
  refine hh_Kv_of (by decide) (Nat.le_of_ble_eq_true rfl) ?_
  intro p e s m args below meth c ls A C0 hp hl
  obtain ⟨hx, hb, hr9, hml, hown, hts, hK, hlk, hA⟩ := id C0
  have hnm := hT.1
  have hnh := hT.2.1
  have hnc := hT.2.2.1
  have hbHr := hnh r
  have hbCr := hnc r
  have hl : lv_has ls 4 [(0, .ref (ad (hh_rI r))), (1, .ref (ad (hh_cI r i))), (2, .ref (ad (hh_gI r i g))), (3, .int mast)] := hl
  refine lv_aload_n hx hb dX5_handOver_0 rfl (lv_at hl 1 rfl) ?_
  refine lv_dup hx hb dX5_handOver_1 rfl ?_
  refine hh_get C0 hp (C := RX0) (T := TX0) (N := 7) (ci := 0) (hh_b_c hr hi) (hh_E_c r hi) rfl hh_uX0 4 (by decide) hm_212 rfl rfl dX5_handOver_2 ?_
  refine lv_iconst (v := 1) hx hb dX5_handOver_5 (by decide) ?_
  refine lv_iadd hx hb dX5_handOver_6 ?_
  refine hh_put C0 hp (C := RX0) (T := TX0) (N := 7) (ci := 0) (k := 4) (ty := .int) (hh_b_c hr hi) (hh_E_c r hi) (hh_pc4 r hi) rfl hh_uX0 tyX0_ok nmX0 (by decide) hm_212 rfl rfl (by decide +kernel) rfl rfl (Nat.le_of_ble_eq_true rfl) dX5_handOver_7 (fun H locs hp => ?_)
  obtain ⟨v_7, ev_7⟩ : ∃ z : hh_M, z = hh_up v (hh_cI r i) 4 ((v (hh_cI r i) 4) + 1) := ⟨_, rfl⟩
  rw [← ev_7] at hp
  have hTv_7 : hh_T nm nh nc v_7 := by rw [ev_7]; exact hh_T_up hT (hh_Rt_c hr hi (by decide))
  have hu1_7 : ¬ v_7 (hh_gI r i g) 1 = -1 := by rw [ev_7, hh_upj (hh_ne_gc hr hr hi hg hi)]; exact hu1
  have hu0_7 : ¬ v_7 (hh_gI r i g) 0 = -1 := by rw [ev_7, hh_upj (hh_ne_gc hr hr hi hg hi)]; exact hu0
  have hJ_41 : ∀ (vj_41 : hh_M) (H : Heap) (locs : List Loc) (ls : Array Slot), vj_41 = (if (v_7 (hh_gI r i g) 4) = mast then (if 5 < ((v_7 (hh_rI r) 8) - (v_7 (hh_gI r i g) 5)) then v_7 else (hh_let (hh_up v_7 (hh_cI r i) 5 ((v_7 (hh_cI r i) 5) + 1) : hh_M) (fun (v_38 : hh_M) => v_38))) else v_7) → hh_T nm nh nc vj_41 → hh_H D K ad A s.heap vj_41 H locs → lv_has ls 4 [(0, .ref (ad (hh_rI r))), (1, .ref (ad (hh_cI r i))), (2, .ref (ad (hh_gI r i g))), (3, .int mast)] → ¬ vj_41 (hh_gI r i g) 1 = -1 → ¬ vj_41 (hh_gI r i g) 0 = -1 → W p l e ({ frames := 0, cells := 0, slots := 0, locals := 0 } : Room) s m args below meth c H locs 0 0 (MQ below (va_Qv (fun (v1 : hh_M) => v1 = hf_X5_handOver v r i g mast ∧ hh_T nm nh nc v1 ∧ (vp_in (v1 (hh_gI r i g) 1) 6)) (hh_B D K ad A) A) args s 0 0 A) (F0 m 41 ls []) := by
    intro vj_41 H locs ls eJ_41 hTvj_41 hp hl hu1b hu0b
    have evj_41 : vj_41 = (if (v_7 (hh_gI r i g) 4) = mast then (if 5 < ((v_7 (hh_rI r) 8) - (v_7 (hh_gI r i g) 5)) then v_7 else (hh_let (hh_up v_7 (hh_cI r i) 5 ((v_7 (hh_cI r i) 5) + 1) : hh_M) (fun (v_38 : hh_M) => v_38))) else v_7) := eJ_41
    clear eJ_41
    refine lv_aload_n hx hb dX5_handOver_41 rfl (lv_at hl 2 rfl) ?_
    refine lv_aload_n hx hb dX5_handOver_42 rfl (lv_at hl 2 rfl) ?_
    refine hh_get C0 hp (C := RX2) (T := TX2) (N := 6) (ci := 2) (hh_b_g hr hi hg) (hh_E_g r hi hg) rfl hh_uX2 1 (by decide) hm_187 rfl rfl dX5_handOver_43 ?_
    refine hh_put C0 hp (C := RX2) (T := TX2) (N := 6) (ci := 2) (k := 4) (ty := .int) (hh_b_g hr hi hg) (hh_E_g r hi hg) (hh_pg4 r hi hg) rfl hh_uX2 tyX2_ok nmX2 (by decide) hm_213 rfl rfl (by decide +kernel) rfl rfl (Nat.le_of_ble_eq_true rfl) dX5_handOver_46 (fun H locs hp => ?_)
    obtain ⟨v_46, ev_46⟩ : ∃ z : hh_M, z = hh_up vj_41 (hh_gI r i g) 4 (vj_41 (hh_gI r i g) 1) := ⟨_, rfl⟩
    rw [← ev_46] at hp
    have hTv_46 : hh_T nm nh nc v_46 := by rw [ev_46]; exact hh_T_up hTvj_41 (hh_Rt_g hr hi hg (by decide))
    refine lv_aload_n hx hb dX5_handOver_49 rfl (lv_at hl 2 rfl) ?_
    refine lv_aload_n hx hb dX5_handOver_50 rfl (lv_at hl 0 rfl) ?_
    refine hh_get C0 hp (C := RX5) (T := TX5) (N := 10) (ci := 5) (hh_b_r hr) (hh_E_r r) rfl hh_uX5 8 (by decide) hm_114 rfl rfl dX5_handOver_51 ?_
    refine hh_put C0 hp (C := RX2) (T := TX2) (N := 6) (ci := 2) (k := 5) (ty := .int) (hh_b_g hr hi hg) (hh_E_g r hi hg) (hh_pg5 r hi hg) rfl hh_uX2 tyX2_ok nmX2 (by decide) hm_214 rfl rfl (by decide +kernel) rfl rfl (Nat.le_of_ble_eq_true rfl) dX5_handOver_54 (fun H locs hp => ?_)
    obtain ⟨v_54, ev_54⟩ : ∃ z : hh_M, z = hh_up v_46 (hh_gI r i g) 5 (v_46 (hh_rI r) 8) := ⟨_, rfl⟩
    rw [← ev_54] at hp
    have hTv_54 : hh_T nm nh nc v_54 := by rw [ev_54]; exact hh_T_up hTv_46 (hh_Rt_g hr hi hg (by decide))
    refine lv_aload_n hx hb dX5_handOver_57 rfl (lv_at hl 2 rfl) ?_
    refine lv_iconst (v := 0) hx hb dX5_handOver_58 (by decide) ?_
    refine hh_put C0 hp (C := RX2) (T := TX2) (N := 6) (ci := 2) (k := 2) (ty := .int) (hh_b_g hr hi hg) (hh_E_g r hi hg) (hh_pg2 r hi hg) rfl hh_uX2 tyX2_ok nmX2 (by decide) hm_188 rfl rfl (by decide +kernel) rfl rfl (Nat.le_of_ble_eq_true rfl) dX5_handOver_59 (fun H locs hp => ?_)
    obtain ⟨v_59, ev_59⟩ : ∃ z : hh_M, z = hh_up v_54 (hh_gI r i g) 2 0 := ⟨_, rfl⟩
    rw [← ev_59] at hp
    have hTv_59 : hh_T nm nh nc v_59 := by rw [ev_59]; exact hh_T_up hTv_54 (hh_Rt_g hr hi hg (by decide))
    refine lv_aload_n hx hb dX5_handOver_62 rfl (lv_at hl 0 rfl) ?_
    refine hh_get C0 hp (C := RX5) (T := TX5) (N := 10) (ci := 5) (hh_b_r hr) (hh_E_r r) rfl hh_uX5 1 (by decide) hm_98 rfl rfl dX5_handOver_63 ?_
    refine lv_aload_n hx hb dX5_handOver_66 rfl (lv_at hl 2 rfl) ?_
    refine hh_get C0 hp (C := RX2) (T := TX2) (N := 6) (ci := 2) (hh_b_g hr hi hg) (hh_E_g r hi hg) rfl hh_uX2 1 (by decide) hm_187 rfl rfl dX5_handOver_67 ?_
    refine lv_dup2_11 hx hb dX5_handOver_70 rfl rfl ?_
    have hin_71 : vp_in (v_59 (hh_gI r i g) 1) 6 := hh_in (hh_T_g1 hTv_59 r hi hg) (by rw [ev_59, hh_upx (by decide : (1 : Nat) ≠ 2), ev_54, hh_upx (by decide : (1 : Nat) ≠ 5), ev_46, hh_upx (by decide : (1 : Nat) ≠ 4)]; exact hu1b) (by omega) (by decide)
    refine hh_ial C0 hp (hh_b_l hr) (hh_E_l r) hin_71 rfl dX5_handOver_71 ?_
    refine lv_iconst (v := 1) hx hb dX5_handOver_72 (by decide) ?_
    refine lv_isub hx hb dX5_handOver_73 ?_
    have hin_74 : vp_in (v_59 (hh_gI r i g) 1) 6 := by assumption
    refine hh_ias C0 hp (hh_b_l hr) (fun _ => (hh_E_l r)) hin_74 rfl dX5_handOver_74 (fun H locs hp => ?_)
    obtain ⟨v_74, ev_74⟩ : ∃ z : hh_M, z = hh_up v_59 (hh_lI r) ((v_59 (hh_gI r i g) 1).toNatClampNeg) ((v_59 (hh_lI r) ((v_59 (hh_gI r i g) 1).toNatClampNeg)) - 1) := ⟨_, rfl⟩
    rw [← ev_74] at hp
    have hTv_74 : hh_T nm nh nc v_74 := by rw [ev_74]; exact hh_T_up hTv_59 (hh_Rt_l hr)
    refine lv_aload_n hx hb dX5_handOver_75 rfl (lv_at hl 0 rfl) ?_
    refine hh_get C0 hp (C := RX5) (T := TX5) (N := 10) (ci := 5) (hh_b_r hr) (hh_E_r r) rfl hh_uX5 1 (by decide) hm_98 rfl rfl dX5_handOver_76 ?_
    refine lv_iload_n hx hb dX5_handOver_79 rfl (lv_at hl 3 rfl) ?_
    refine lv_dup2_11 hx hb dX5_handOver_80 rfl rfl ?_
    have hin_81 : vp_in mast 6 := by assumption
    refine hh_ial C0 hp (hh_b_l hr) (hh_E_l r) hin_81 rfl dX5_handOver_81 ?_
    refine lv_iconst (v := 1) hx hb dX5_handOver_82 (by decide) ?_
    refine lv_iadd hx hb dX5_handOver_83 ?_
    have hin_84 : vp_in mast 6 := by assumption
    refine hh_ias C0 hp (hh_b_l hr) (fun _ => (hh_E_l r)) hin_84 rfl dX5_handOver_84 (fun H locs hp => ?_)
    obtain ⟨v_84, ev_84⟩ : ∃ z : hh_M, z = hh_up v_74 (hh_lI r) mast.toNatClampNeg ((v_74 (hh_lI r) mast.toNatClampNeg) + 1) := ⟨_, rfl⟩
    rw [← ev_84] at hp
    have hTv_84 : hh_T nm nh nc v_84 := by rw [ev_84]; exact hh_T_up hTv_74 (hh_Rt_l hr)
    refine lv_aload_n hx hb dX5_handOver_85 rfl (lv_at hl 2 rfl) ?_
    refine lv_iload_n hx hb dX5_handOver_86 rfl (lv_at hl 3 rfl) ?_
    refine hh_put C0 hp (C := RX2) (T := TX2) (N := 6) (ci := 2) (k := 1) (ty := .int) (hh_b_g hr hi hg) (hh_E_g r hi hg) (hh_pg1 r hi hg) rfl hh_uX2 tyX2_ok nmX2 (by decide) hm_187 rfl rfl (by decide +kernel) rfl rfl (Nat.le_of_ble_eq_true rfl) dX5_handOver_87 (fun H locs hp => ?_)
    obtain ⟨v_87, ev_87⟩ : ∃ z : hh_M, z = hh_up v_84 (hh_gI r i g) 1 mast := ⟨_, rfl⟩
    rw [← ev_87] at hp
    have hTv_87 : hh_T nm nh nc v_87 := by rw [ev_87]; exact hh_T_up hTv_84 (hh_R_g1 hr hi hg (by assumption))
    refine lv_aload_n hx hb dX5_handOver_90 rfl (lv_at hl 0 rfl) ?_
    refine hh_get C0 hp (C := RX5) (T := TX5) (N := 10) (ci := 5) (hh_b_r hr) (hh_E_r r) rfl hh_uX5 3 (by decide) hm_101 rfl rfl dX5_handOver_91 ?_
    refine lv_aload_n hx hb dX5_handOver_94 rfl (lv_at hl 2 rfl) ?_
    refine hh_get C0 hp (C := RX2) (T := TX2) (N := 6) (ci := 2) (hh_b_g hr hi hg) (hh_E_g r hi hg) rfl hh_uX2 0 (by decide) hm_186 rfl rfl dX5_handOver_95 ?_
    have hin_98 : vp_in (v_87 (hh_gI r i g) 0) 8 := hh_in (hh_T_g0 hTv_87 r hi hg) (by rw [ev_87, hh_upx (by decide : (0 : Nat) ≠ 1), ev_84, hh_upj (hh_ne_gl hr hr hi hg), ev_74, hh_upj (hh_ne_gl hr hr hi hg), ev_59, hh_upx (by decide : (0 : Nat) ≠ 2), ev_54, hh_upx (by decide : (0 : Nat) ≠ 5), ev_46, hh_upx (by decide : (0 : Nat) ≠ 4)]; exact hu0b) (by omega) (by decide)
    refine hh_aal C0 hp (t0 := 3) (f := (hh_hI r)) (hh_b_H hr) (hh_E_H r) rfl rfl hin_98 rfl dX5_handOver_98 ?_
    refine lv_iload_n hx hb dX5_handOver_99 rfl (lv_at hl 3 rfl) ?_
    refine hh_put C0 hp (C := RX1) (T := TX1) (N := 13) (ci := 1) (k := 5) (ty := .int) (hh_b_h hr (hh_lt hin_98)) (hh_E_h r (hh_lt hin_98)) (hh_ph5 r (hh_lt hin_98)) rfl hh_uX1 tyX1_ok nmX1 (by decide) hm_140 rfl rfl (by decide +kernel) rfl rfl (Nat.le_of_ble_eq_true rfl) dX5_handOver_100 (fun H locs hp => ?_)
    obtain ⟨v_100, ev_100⟩ : ∃ z : hh_M, z = hh_up v_87 (hh_hI r ((v_87 (hh_gI r i g) 0).toNatClampNeg)) 5 mast := ⟨_, rfl⟩
    rw [← ev_100] at hp
    have hTv_100 : hh_T nm nh nc v_100 := by rw [ev_100]; exact hh_T_up hTv_87 (hh_R_h5 hr (hh_lt hin_98) (by assumption))
    exact hh_vret C0 hp dX5_handOver_103 ⟨(by show _ = _; unfold hf_X5_handOver; rw [hh_let_eq ev_7, hh_let_eq evj_41, hh_let_eq ev_46, hh_let_eq ev_54, hh_let_eq ev_59, hh_let_eq ev_74, hh_let_eq ev_84, hh_let_eq ev_87, hh_let_eq ev_100]), hTv_100, (by rw [ev_100, hh_upx (by decide : (1 : Nat) ≠ 5), ev_87, hh_ups]; exact hm)⟩
  refine lv_aload_n hx hb dX5_handOver_10 rfl (lv_at hl 2 rfl) ?_
  refine hh_get C0 hp (C := RX2) (T := TX2) (N := 6) (ci := 2) (hh_b_g hr hi hg) (hh_E_g r hi hg) rfl hh_uX2 4 (by decide) hm_213 rfl rfl dX5_handOver_11 ?_
  refine lv_iload_n hx hb dX5_handOver_14 rfl (lv_at hl 3 rfl) ?_
  refine lv_icmp_ne (tgt := 41) hx hb dX5_handOver_15 (by decide) (fun c_15 => ?_) (fun c_15 => ?_)
  · exact hJ_41 v_7 _ _ _ (by rw [if_neg c_15]) hTv_7 hp (lv_sub hl [0, 1, 2, 3] rfl) (by assumption) (by assumption)
  · refine lv_aload_n hx hb dX5_handOver_18 rfl (lv_at hl 0 rfl) ?_
    refine hh_get C0 hp (C := RX5) (T := TX5) (N := 10) (ci := 5) (hh_b_r hr) (hh_E_r r) rfl hh_uX5 8 (by decide) hm_114 rfl rfl dX5_handOver_19 ?_
    refine lv_aload_n hx hb dX5_handOver_22 rfl (lv_at hl 2 rfl) ?_
    refine hh_get C0 hp (C := RX2) (T := TX2) (N := 6) (ci := 2) (hh_b_g hr hi hg) (hh_E_g r hi hg) rfl hh_uX2 5 (by decide) hm_214 rfl rfl dX5_handOver_23 ?_
    refine lv_isub hx hb dX5_handOver_26 ?_
    refine lv_iconst (v := 5) hx hb dX5_handOver_27 (by decide) ?_
    refine lv_icmp_gt (tgt := 41) hx hb dX5_handOver_28 (by decide) (fun c_28 => ?_) (fun c_28 => ?_)
    · exact hJ_41 v_7 _ _ _ (by rw [if_pos c_15, if_pos c_28]) hTv_7 hp (lv_sub hl [0, 1, 2, 3] rfl) (by assumption) (by assumption)
    · refine lv_aload_n hx hb dX5_handOver_31 rfl (lv_at hl 1 rfl) ?_
      refine lv_dup hx hb dX5_handOver_32 rfl ?_
      refine hh_get C0 hp (C := RX0) (T := TX0) (N := 7) (ci := 0) (hh_b_c hr hi) (hh_E_c r hi) rfl hh_uX0 5 (by decide) hm_215 rfl rfl dX5_handOver_33 ?_
      refine lv_iconst (v := 1) hx hb dX5_handOver_36 (by decide) ?_
      refine lv_iadd hx hb dX5_handOver_37 ?_
      refine hh_put C0 hp (C := RX0) (T := TX0) (N := 7) (ci := 0) (k := 5) (ty := .int) (hh_b_c hr hi) (hh_E_c r hi) (hh_pc5 r hi) rfl hh_uX0 tyX0_ok nmX0 (by decide) hm_215 rfl rfl (by decide +kernel) rfl rfl (Nat.le_of_ble_eq_true rfl) dX5_handOver_38 (fun H locs hp => ?_)
      obtain ⟨v_38, ev_38⟩ : ∃ z : hh_M, z = hh_up v_7 (hh_cI r i) 5 ((v_7 (hh_cI r i) 5) + 1) := ⟨_, rfl⟩
      rw [← ev_38] at hp
      have hTv_38 : hh_T nm nh nc v_38 := by rw [ev_38]; exact hh_T_up hTv_7 (hh_Rt_c hr hi (by decide))
      have hu1_38 : ¬ v_38 (hh_gI r i g) 1 = -1 := by rw [ev_38, hh_upj (hh_ne_gc hr hr hi hg hi)]; exact hu1_7
      have hu0_38 : ¬ v_38 (hh_gI r i g) 0 = -1 := by rw [ev_38, hh_upj (hh_ne_gc hr hr hi hg hi)]; exact hu0_7
      exact hJ_41 v_38 _ _ _ (by rw [if_pos c_15, if_neg c_28, hh_let_eq ev_38]) hTv_38 hp (lv_sub hl [0, 1, 2, 3] rfl) (by assumption) (by assumption)
def hf_X5_lookAtLeg (v : hh_M) (r : Nat) (i : Nat) (g : Nat) : hh_M := (if (v (hh_cI r i) 6) = 0 then (hh_let (hf_X2_isUsed v r i g : Int32) (fun (q_8 : Int32) => (if q_8 = 0 then v else (hh_let ((v (hh_hI r ((v (hh_gI r i g) 0).toNatClampNeg)) 1) : Int32) (fun (x_27 : Int32) => (hh_let (hf_X5_candidateFor v r (v (hh_gI r i g) 1) x_27 : Int32) (fun (q_34 : Int32) => (hh_let (hf_X5_isHeard v r (v (hh_gI r i g) 1) x_27 : Int32) (fun (q_45 : Int32) => (hh_let (hf_X5_isMuchBetter v r q_34 (v (hh_gI r i g) 1) x_27 : Int32) (fun (q_59 : Int32) => (hh_let ((if q_59 = 0 then 0 else ((v (hh_gI r i g) 2) + 1)) : Int32) (fun (j75_0 : Int32) => (hh_let (hh_up v (hh_gI r i g) 2 j75_0 : hh_M) (fun (v_75 : hh_M) => (hh_let ((if q_45 = 0 then (if q_34 = (-1) then 0 else (hh_let (hf_X5_isHeard v_75 r q_34 x_27 : Int32) (fun (q_93 : Int32) => (if q_93 = 0 then 0 else 1)))) else 0) : Int32) (fun (j104_0 : Int32) => (hh_let ((if q_34 = (-1) then (if q_45 = 0 then (hh_let (hh_up v_75 (hh_gI r i g) 3 ((v_75 (hh_gI r i g) 3) + 1) : hh_M) (fun (v_148 : hh_M) => v_148)) else v_75) else (if 2 ≤ (v_75 (hh_gI r i g) 2) then (hh_let (hf_X5_handOver v_75 r i g q_34 : hh_M) (fun (v_130 : hh_M) => v_130)) else (if j104_0 = 0 then (if q_45 = 0 then (hh_let (hh_up v_75 (hh_gI r i g) 3 ((v_75 (hh_gI r i g) 3) + 1) : hh_M) (fun (v_148 : hh_M) => v_148)) else v_75) else (hh_let (hf_X5_handOver v_75 r i g q_34 : hh_M) (fun (v_130 : hh_M) => v_130))))) : hh_M) (fun (vj_151 : hh_M) => (hh_let (hf_X5_isHeard vj_151 r (vj_151 (hh_gI r i g) 1) x_27 : Int32) (fun (q_157 : Int32) => (hh_let ((if q_157 = 0 then vj_151 else (hh_let (hh_up vj_151 (hh_gI r i g) 3 0 : hh_M) (fun (v_165 : hh_M) => v_165))) : hh_M) (fun (vj_168 : hh_M) => (if (vj_168 (hh_gI r i g) 3) < 3 then vj_168 else (hh_let (hf_X5_end vj_168 r i 2 : hh_M) (fun (v_179 : hh_M) => v_179)))))))))))))))))))))))))) else v)
set_option maxHeartbeats 4000000 in
set_option maxRecDepth 100000 in
theorem hk_X5_lookAtLeg (l : Launch) (D : va_G) (K : Nat → ClassId) (ad : Nat → Nat) {nm : Nat} {nh nc : Nat → Nat} {v : hh_M} (hT : hh_T nm nh nc v) (r : Nat) (i : Nat) (g : Nat) (hr : r < 2) (hi : i < 24) (hg : g < 2) : hh_Kv l D K ad yX5_lookAtLeg (hh_wm yX5_lookAtLeg cX5_lookAtLeg 7 none) { frames := 2, cells := 0, slots := 0, locals := 48 } [.ref (ad (hh_rI r)), .ref (ad (hh_cI r i)), .ref (ad (hh_gI r i g))] v (fun (v1 : hh_M) => v1 = hf_X5_lookAtLeg v r i g ∧ hh_T nm nh nc v1) := by
  refine hh_Kv_of (by decide) (Nat.le_of_ble_eq_true rfl) ?_
  intro p e s m args below meth c ls A C0 hp hl
  obtain ⟨hx, hb, hr9, hml, hown, hts, hK, hlk, hA⟩ := id C0
  have hnm := hT.1
  have hnh := hT.2.1
  have hnc := hT.2.2.1
  have hbHr := hnh r
  have hbCr := hnc r
  have hl : lv_has ls 7 [(0, .ref (ad (hh_rI r))), (1, .ref (ad (hh_cI r i))), (2, .ref (ad (hh_gI r i g)))] := hl
  refine lv_aload_n hx hb dX5_lookAtLeg_0 rfl (lv_at hl 1 rfl) ?_
  refine hh_get C0 hp (C := RX0) (T := TX0) (N := 7) (ci := 0) (hh_b_c hr hi) (hh_E_c r hi) rfl hh_uX0 6 (by decide) hm_185 rfl rfl dX5_lookAtLeg_1 ?_
  refine lv_if_ne (tgt := 14) hx hb dX5_lookAtLeg_4 (by decide) (fun c_4 => ?_) (fun c_4 => ?_)
  · exact hh_vret C0 hp dX5_lookAtLeg_14 ⟨(by show _ = _; unfold hf_X5_lookAtLeg; rw [if_neg c_4]), hT⟩
  · refine lv_aload_n hx hb dX5_lookAtLeg_7 rfl (lv_at hl 2 rfl) ?_
    refine hh_cVi C0 hp (As := []) (rest := []) (C := RX2) (T := TX2) (N := 6) (ci := 2) (n := 0) (hk_X2_isUsed l D K ad hT r i g hr hi hg) rfl (hh_b_g hr hi hg) (hh_E_g r hi hg) (hh_gV hm_190 hm_191 hm_192 hm_6 hm_52) ⟨rfl, rfl⟩ (by decide +kernel) ⟨Nat.le_of_ble_eq_true rfl, Nat.le_of_ble_eq_true rfl⟩ ⟨Nat.zero_le _, Nat.zero_le _⟩ hl.1 rfl rfl (Nat.le_of_ble_eq_true rfl) dX5_lookAtLeg_8 (fun q_8 v_8 H locs hv_8 hp => ?_)
    obtain ⟨eq_8, hv9, hpq_8a⟩ := hv_8
    rw [hv9] at hp; clear hv9
    refine lv_if_ne (tgt := 15) hx hb dX5_lookAtLeg_11 (by decide) (fun c_11 => ?_) (fun c_11 => ?_)
    · have hus := hpq_8a.resolve_left c_11
      have hmi : vp_in (v (hh_gI r i g) 1) 6 := hh_in (hh_T_g1 hT r hi hg) hus.2 (by omega) (by decide)
      refine lv_aload_n hx hb dX5_lookAtLeg_15 rfl (lv_at hl 0 rfl) ?_
      refine hh_get C0 hp (C := RX5) (T := TX5) (N := 10) (ci := 5) (hh_b_r hr) (hh_E_r r) rfl hh_uX5 3 (by decide) hm_101 rfl rfl dX5_lookAtLeg_16 ?_
      refine lv_aload_n hx hb dX5_lookAtLeg_19 rfl (lv_at hl 2 rfl) ?_
      refine hh_get C0 hp (C := RX2) (T := TX2) (N := 6) (ci := 2) (hh_b_g hr hi hg) (hh_E_g r hi hg) rfl hh_uX2 0 (by decide) hm_186 rfl rfl dX5_lookAtLeg_20 ?_
      have hin_23 : vp_in (v (hh_gI r i g) 0) 8 := hh_in (hh_T_g0 hT r hi hg) hus.1 (by omega) (by decide)
      refine hh_aal C0 hp (t0 := 3) (f := (hh_hI r)) (hh_b_H hr) (hh_E_H r) rfl rfl hin_23 rfl dX5_lookAtLeg_23 ?_
      refine hh_get C0 hp (C := RX1) (T := TX1) (N := 13) (ci := 1) (hh_b_h hr (hh_lt hin_23)) (hh_E_h r (hh_lt hin_23)) rfl hh_uX1 1 (by decide) hm_171 rfl rfl dX5_lookAtLeg_24 ?_
      refine lv_topi (fun x_27 ex_27 => ?_)
      refine lv_istore_n (lv' := [(3, .int x_27), (0, .ref (ad (hh_rI r))), (1, .ref (ad (hh_cI r i))), (2, .ref (ad (hh_gI r i g)))]) hx hb dX5_lookAtLeg_27 rfl hl (by decide) rfl (fun ls hl => ?_)
      have hpl : vp_in x_27 100 := by rw [ex_27]; exact hh_in99 (hh_T_h1 hT r (hh_lt hin_23))
      refine lv_aload_n hx hb dX5_lookAtLeg_28 rfl (lv_at hl 1 rfl) ?_
      refine lv_aload_n hx hb dX5_lookAtLeg_29 rfl (lv_at hl 3 rfl) ?_
      refine hh_get C0 hp (C := RX2) (T := TX2) (N := 6) (ci := 2) (hh_b_g hr hi hg) (hh_E_g r hi hg) rfl hh_uX2 1 (by decide) hm_187 rfl rfl dX5_lookAtLeg_30 ?_
      refine lv_iload_n hx hb dX5_lookAtLeg_33 rfl (lv_at hl 0 rfl) ?_
      refine hh_cVi C0 hp (As := [.int (v (hh_gI r i g) 1), .int x_27]) (rest := []) (C := RX5) (T := TX5) (N := 10) (ci := 5) (n := 2) (hk_X5_candidateFor l D K ad hT r (v (hh_gI r i g) 1) x_27 hr (by assumption)) rfl (hh_b_r hr) (hh_E_r r) (hh_gV hm_193 hm_194 hm_195 hm_128 hm_196) ⟨rfl, rfl⟩ (by decide +kernel) ⟨Nat.le_of_ble_eq_true rfl, Nat.le_of_ble_eq_true rfl⟩ ⟨Nat.zero_le _, Nat.zero_le _⟩ hl.1 rfl rfl (Nat.le_of_ble_eq_true rfl) dX5_lookAtLeg_34 (fun q_34 v_34 H locs hv_34 hp => ?_)
      obtain ⟨eq_34, hv9, hpq_34a⟩ := hv_34
      rw [hv9] at hp; clear hv9
      refine lv_istore (lv' := [(4, .int q_34), (3, .int x_27), (0, .ref (ad (hh_rI r))), (1, .ref (ad (hh_cI r i))), (2, .ref (ad (hh_gI r i g)))]) hx hb dX5_lookAtLeg_37 hl (by decide) rfl (fun ls hl => ?_)
      refine lv_aload_n hx hb dX5_lookAtLeg_39 rfl (lv_at hl 2 rfl) ?_
      refine lv_aload_n hx hb dX5_lookAtLeg_40 rfl (lv_at hl 4 rfl) ?_
      refine hh_get C0 hp (C := RX2) (T := TX2) (N := 6) (ci := 2) (hh_b_g hr hi hg) (hh_E_g r hi hg) rfl hh_uX2 1 (by decide) hm_187 rfl rfl dX5_lookAtLeg_41 ?_
      refine lv_iload_n hx hb dX5_lookAtLeg_44 rfl (lv_at hl 1 rfl) ?_
      refine hh_cVi C0 hp (As := [.int (v (hh_gI r i g) 1), .int x_27]) (rest := []) (C := RX5) (T := TX5) (N := 10) (ci := 5) (n := 2) (hk_X5_isHeard l D K ad hT r (v (hh_gI r i g) 1) x_27 hr (by assumption) (by assumption)) rfl (hh_b_r hr) (hh_E_r r) (hh_gV hm_201 hm_202 hm_203 hm_128 hm_124) ⟨rfl, rfl⟩ (by decide +kernel) ⟨Nat.le_of_ble_eq_true rfl, Nat.le_of_ble_eq_true rfl⟩ ⟨Nat.zero_le _, Nat.zero_le _⟩ hl.1 rfl rfl (Nat.le_of_ble_eq_true rfl) dX5_lookAtLeg_45 (fun q_45 v_45 H locs hv_45 hp => ?_)
      obtain ⟨eq_45, hv9⟩ := hv_45
      rw [hv9] at hp; clear hv9
      refine lv_istore (lv' := [(5, .int q_45), (4, .int q_34), (3, .int x_27), (0, .ref (ad (hh_rI r))), (1, .ref (ad (hh_cI r i))), (2, .ref (ad (hh_gI r i g)))]) hx hb dX5_lookAtLeg_48 hl (by decide) rfl (fun ls hl => ?_)
      refine lv_aload_n hx hb dX5_lookAtLeg_50 rfl (lv_at hl 5 rfl) ?_
      refine lv_aload_n hx hb dX5_lookAtLeg_51 rfl (lv_at hl 3 rfl) ?_
      refine lv_iload hx hb dX5_lookAtLeg_52 (lv_at hl 1 rfl) ?_
      refine lv_aload_n hx hb dX5_lookAtLeg_54 rfl (lv_at hl 5 rfl) ?_
      refine hh_get C0 hp (C := RX2) (T := TX2) (N := 6) (ci := 2) (hh_b_g hr hi hg) (hh_E_g r hi hg) rfl hh_uX2 1 (by decide) hm_187 rfl rfl dX5_lookAtLeg_55 ?_
      refine lv_iload_n hx hb dX5_lookAtLeg_58 rfl (lv_at hl 2 rfl) ?_
      refine hh_cVi C0 hp (As := [.int q_34, .int (v (hh_gI r i g) 1), .int x_27]) (rest := [.ref (ad (hh_gI r i g))]) (C := RX5) (T := TX5) (N := 10) (ci := 5) (n := 3) (hk_X5_isMuchBetter l D K ad hT r q_34 (v (hh_gI r i g) 1) x_27 hr (by assumption) (by assumption) (by assumption)) rfl (hh_b_r hr) (hh_E_r r) (hh_gV hm_204 hm_205 hm_206 hm_128 hm_207) ⟨rfl, rfl⟩ (by decide +kernel) ⟨Nat.le_of_ble_eq_true rfl, Nat.le_of_ble_eq_true rfl⟩ ⟨Nat.zero_le _, Nat.zero_le _⟩ hl.1 rfl rfl (Nat.le_of_ble_eq_true rfl) dX5_lookAtLeg_59 (fun q_59 v_59 H locs hv_59 hp => ?_)
      obtain ⟨eq_59, hv9⟩ := hv_59
      rw [hv9] at hp; clear hv9
      have hJ_75 : ∀ (j75_0 : Int32) (H : Heap) (locs : List Loc) (ls : Array Slot), j75_0 = (if q_59 = 0 then 0 else ((v (hh_gI r i g) 2) + 1)) → hh_H D K ad A s.heap v H locs → lv_has ls 7 [(5, .int q_45), (4, .int q_34), (3, .int x_27), (0, .ref (ad (hh_rI r))), (1, .ref (ad (hh_cI r i))), (2, .ref (ad (hh_gI r i g)))] → W p l e ({ frames := 2, cells := 0, slots := 0, locals := 48 } : Room) s m args below meth c H locs 0 0 (MQ below (va_Qv (fun (v1 : hh_M) => v1 = hf_X5_lookAtLeg v r i g ∧ hh_T nm nh nc v1) (hh_B D K ad A) A) args s 0 0 A) (F0 m 75 ls [.int j75_0, .ref (ad (hh_gI r i g))]) := by
        intro j75_0 H locs ls eJ_75 hp hl
        have ej75_0 : j75_0 = (if q_59 = 0 then 0 else ((v (hh_gI r i g) 2) + 1)) := eJ_75
        clear eJ_75
        refine hh_put C0 hp (C := RX2) (T := TX2) (N := 6) (ci := 2) (k := 2) (ty := .int) (hh_b_g hr hi hg) (hh_E_g r hi hg) (hh_pg2 r hi hg) rfl hh_uX2 tyX2_ok nmX2 (by decide) hm_188 rfl rfl (by decide +kernel) rfl rfl (Nat.le_of_ble_eq_true rfl) dX5_lookAtLeg_75 (fun H locs hp => ?_)
        obtain ⟨v_75, ev_75⟩ : ∃ z : hh_M, z = hh_up v (hh_gI r i g) 2 j75_0 := ⟨_, rfl⟩
        rw [← ev_75] at hp
        have hTv_75 : hh_T nm nh nc v_75 := by rw [ev_75]; exact hh_T_up hT (hh_Rt_g hr hi hg (by decide))
        have hmi75 : vp_in (v_75 (hh_gI r i g) 1) 6 := by rw [ev_75, hh_upx (by decide : (1 : Nat) ≠ 2)]; exact hmi
        have hJ_104 : ∀ (j104_0 : Int32) (H : Heap) (locs : List Loc) (ls : Array Slot), j104_0 = (if q_45 = 0 then (if q_34 = (-1) then 0 else (hh_let (hf_X5_isHeard v_75 r q_34 x_27 : Int32) (fun (q_93 : Int32) => (if q_93 = 0 then 0 else 1)))) else 0) → hh_H D K ad A s.heap v_75 H locs → lv_has ls 7 [(5, .int q_45), (4, .int q_34), (3, .int x_27), (0, .ref (ad (hh_rI r))), (1, .ref (ad (hh_cI r i))), (2, .ref (ad (hh_gI r i g)))] → W p l e ({ frames := 2, cells := 0, slots := 0, locals := 48 } : Room) s m args below meth c H locs 0 0 (MQ below (va_Qv (fun (v1 : hh_M) => v1 = hf_X5_lookAtLeg v r i g ∧ hh_T nm nh nc v1) (hh_B D K ad A) A) args s 0 0 A) (F0 m 104 ls [.int j104_0]) := by
          intro j104_0 H locs ls eJ_104 hp hl
          have ej104_0 : j104_0 = (if q_45 = 0 then (if q_34 = (-1) then 0 else (hh_let (hf_X5_isHeard v_75 r q_34 x_27 : Int32) (fun (q_93 : Int32) => (if q_93 = 0 then 0 else 1)))) else 0) := eJ_104
          clear eJ_104
          refine lv_istore (lv' := [(6, .int j104_0), (5, .int q_45), (4, .int q_34), (3, .int x_27), (0, .ref (ad (hh_rI r))), (1, .ref (ad (hh_cI r i))), (2, .ref (ad (hh_gI r i g)))]) hx hb dX5_lookAtLeg_104 hl (by decide) rfl (fun ls hl => ?_)
          have hJ_151 : ∀ (vj_151 : hh_M) (H : Heap) (locs : List Loc) (ls : Array Slot), vj_151 = (if q_34 = (-1) then (if q_45 = 0 then (hh_let (hh_up v_75 (hh_gI r i g) 3 ((v_75 (hh_gI r i g) 3) + 1) : hh_M) (fun (v_148 : hh_M) => v_148)) else v_75) else (if 2 ≤ (v_75 (hh_gI r i g) 2) then (hh_let (hf_X5_handOver v_75 r i g q_34 : hh_M) (fun (v_130 : hh_M) => v_130)) else (if j104_0 = 0 then (if q_45 = 0 then (hh_let (hh_up v_75 (hh_gI r i g) 3 ((v_75 (hh_gI r i g) 3) + 1) : hh_M) (fun (v_148 : hh_M) => v_148)) else v_75) else (hh_let (hf_X5_handOver v_75 r i g q_34 : hh_M) (fun (v_130 : hh_M) => v_130))))) → hh_T nm nh nc vj_151 → hh_H D K ad A s.heap vj_151 H locs → lv_has ls 7 [(6, .int j104_0), (5, .int q_45), (4, .int q_34), (3, .int x_27), (0, .ref (ad (hh_rI r))), (1, .ref (ad (hh_cI r i))), (2, .ref (ad (hh_gI r i g)))] → vp_in (vj_151 (hh_gI r i g) 1) 6 → W p l e ({ frames := 2, cells := 0, slots := 0, locals := 48 } : Room) s m args below meth c H locs 0 0 (MQ below (va_Qv (fun (v1 : hh_M) => v1 = hf_X5_lookAtLeg v r i g ∧ hh_T nm nh nc v1) (hh_B D K ad A) A) args s 0 0 A) (F0 m 151 ls []) := by
            intro vj_151 H locs ls eJ_151 hTvj_151 hp hl hmj
            have evj_151 : vj_151 = (if q_34 = (-1) then (if q_45 = 0 then (hh_let (hh_up v_75 (hh_gI r i g) 3 ((v_75 (hh_gI r i g) 3) + 1) : hh_M) (fun (v_148 : hh_M) => v_148)) else v_75) else (if 2 ≤ (v_75 (hh_gI r i g) 2) then (hh_let (hf_X5_handOver v_75 r i g q_34 : hh_M) (fun (v_130 : hh_M) => v_130)) else (if j104_0 = 0 then (if q_45 = 0 then (hh_let (hh_up v_75 (hh_gI r i g) 3 ((v_75 (hh_gI r i g) 3) + 1) : hh_M) (fun (v_148 : hh_M) => v_148)) else v_75) else (hh_let (hf_X5_handOver v_75 r i g q_34 : hh_M) (fun (v_130 : hh_M) => v_130))))) := eJ_151
            clear eJ_151
            refine lv_aload_n hx hb dX5_lookAtLeg_151 rfl (lv_at hl 4 rfl) ?_
            refine lv_aload_n hx hb dX5_lookAtLeg_152 rfl (lv_at hl 6 rfl) ?_
            refine hh_get C0 hp (C := RX2) (T := TX2) (N := 6) (ci := 2) (hh_b_g hr hi hg) (hh_E_g r hi hg) rfl hh_uX2 1 (by decide) hm_187 rfl rfl dX5_lookAtLeg_153 ?_
            refine lv_iload_n hx hb dX5_lookAtLeg_156 rfl (lv_at hl 3 rfl) ?_
            refine hh_cVi C0 hp (As := [.int (vj_151 (hh_gI r i g) 1), .int x_27]) (rest := []) (C := RX5) (T := TX5) (N := 10) (ci := 5) (n := 2) (hk_X5_isHeard l D K ad hTvj_151 r (vj_151 (hh_gI r i g) 1) x_27 hr (by assumption) (by assumption)) rfl (hh_b_r hr) (hh_E_r r) (hh_gV hm_201 hm_202 hm_203 hm_128 hm_124) ⟨rfl, rfl⟩ (by decide +kernel) ⟨Nat.le_of_ble_eq_true rfl, Nat.le_of_ble_eq_true rfl⟩ ⟨Nat.zero_le _, Nat.zero_le _⟩ hl.1 rfl rfl (Nat.le_of_ble_eq_true rfl) dX5_lookAtLeg_157 (fun q_157 v_157 H locs hv_157 hp => ?_)
            obtain ⟨eq_157, hv9⟩ := hv_157
            rw [hv9] at hp; clear hv9
            have hJ_168 : ∀ (vj_168 : hh_M) (H : Heap) (locs : List Loc) (ls : Array Slot), vj_168 = (if q_157 = 0 then vj_151 else (hh_let (hh_up vj_151 (hh_gI r i g) 3 0 : hh_M) (fun (v_165 : hh_M) => v_165))) → hh_T nm nh nc vj_168 → hh_H D K ad A s.heap vj_168 H locs → lv_has ls 7 [(6, .int j104_0), (5, .int q_45), (4, .int q_34), (3, .int x_27), (0, .ref (ad (hh_rI r))), (1, .ref (ad (hh_cI r i))), (2, .ref (ad (hh_gI r i g)))] → W p l e ({ frames := 2, cells := 0, slots := 0, locals := 48 } : Room) s m args below meth c H locs 0 0 (MQ below (va_Qv (fun (v1 : hh_M) => v1 = hf_X5_lookAtLeg v r i g ∧ hh_T nm nh nc v1) (hh_B D K ad A) A) args s 0 0 A) (F0 m 168 ls []) := by
              intro vj_168 H locs ls eJ_168 hTvj_168 hp hl
              have evj_168 : vj_168 = (if q_157 = 0 then vj_151 else (hh_let (hh_up vj_151 (hh_gI r i g) 3 0 : hh_M) (fun (v_165 : hh_M) => v_165))) := eJ_168
              clear eJ_168
              refine lv_aload_n hx hb dX5_lookAtLeg_168 rfl (lv_at hl 6 rfl) ?_
              refine hh_get C0 hp (C := RX2) (T := TX2) (N := 6) (ci := 2) (hh_b_g hr hi hg) (hh_E_g r hi hg) rfl hh_uX2 3 (by decide) hm_189 rfl rfl dX5_lookAtLeg_169 ?_
              refine lv_iconst (v := 3) hx hb dX5_lookAtLeg_172 (by decide) ?_
              refine lv_icmp_lt (tgt := 182) hx hb dX5_lookAtLeg_173 (by decide) (fun c_173 => ?_) (fun c_173 => ?_)
              · exact hh_vret C0 hp dX5_lookAtLeg_182 ⟨(by show _ = _; unfold hf_X5_lookAtLeg; rw [if_pos c_4, hh_let_eq eq_8, if_neg c_11, hh_let_eq ex_27, hh_let_eq eq_34, hh_let_eq eq_45, hh_let_eq eq_59, hh_let_eq ej75_0, hh_let_eq ev_75, hh_let_eq ej104_0, hh_let_eq evj_151, hh_let_eq eq_157, hh_let_eq evj_168, if_pos c_173]), hTvj_168⟩
              · refine lv_aload_n hx hb dX5_lookAtLeg_176 rfl (lv_at hl 4 rfl) ?_
                refine lv_aload_n hx hb dX5_lookAtLeg_177 rfl (lv_at hl 5 rfl) ?_
                refine lv_iconst (v := 2) hx hb dX5_lookAtLeg_178 (by decide) ?_
                refine hh_cVv C0 hp (As := [.ref (ad (hh_cI r i)), .int 2]) (rest := []) (C := RX5) (T := TX5) (N := 10) (ci := 5) (n := 2) (hk_X5_end l D K ad hTvj_168 r i 2 hr hi) rfl (hh_b_r hr) (hh_E_r r) (hh_gV hm_216 hm_217 hm_218 hm_128 hm_219) ⟨rfl, rfl⟩ (by decide +kernel) ⟨Nat.le_of_ble_eq_true rfl, Nat.le_of_ble_eq_true rfl⟩ ⟨Nat.zero_le _, Nat.zero_le _⟩ hl.1 rfl rfl (Nat.le_of_ble_eq_true rfl) dX5_lookAtLeg_179 (fun v_179 H locs hv_179 hp => ?_)
                obtain ⟨ev_179, hTv_179⟩ := hv_179
                exact hh_vret C0 hp dX5_lookAtLeg_182 ⟨(by show _ = _; unfold hf_X5_lookAtLeg; rw [if_pos c_4, hh_let_eq eq_8, if_neg c_11, hh_let_eq ex_27, hh_let_eq eq_34, hh_let_eq eq_45, hh_let_eq eq_59, hh_let_eq ej75_0, hh_let_eq ev_75, hh_let_eq ej104_0, hh_let_eq evj_151, hh_let_eq eq_157, hh_let_eq evj_168, if_neg c_173, hh_let_eq ev_179]), hTv_179⟩
            refine lv_if_eq (tgt := 168) hx hb dX5_lookAtLeg_160 (by decide) (fun c_160 => ?_) (fun c_160 => ?_)
            · exact hJ_168 vj_151 _ _ _ (by rw [if_pos c_160]) hTvj_151 hp (lv_sub hl [0, 1, 2, 3, 4, 5, 6] rfl)
            · refine lv_aload_n hx hb dX5_lookAtLeg_163 rfl (lv_at hl 6 rfl) ?_
              refine lv_iconst (v := 0) hx hb dX5_lookAtLeg_164 (by decide) ?_
              refine hh_put C0 hp (C := RX2) (T := TX2) (N := 6) (ci := 2) (k := 3) (ty := .int) (hh_b_g hr hi hg) (hh_E_g r hi hg) (hh_pg3 r hi hg) rfl hh_uX2 tyX2_ok nmX2 (by decide) hm_189 rfl rfl (by decide +kernel) rfl rfl (Nat.le_of_ble_eq_true rfl) dX5_lookAtLeg_165 (fun H locs hp => ?_)
              obtain ⟨v_165, ev_165⟩ : ∃ z : hh_M, z = hh_up vj_151 (hh_gI r i g) 3 0 := ⟨_, rfl⟩
              rw [← ev_165] at hp
              have hTv_165 : hh_T nm nh nc v_165 := by rw [ev_165]; exact hh_T_up hTvj_151 (hh_Rt_g hr hi hg (by decide))
              exact hJ_168 v_165 _ _ _ (by rw [if_neg c_160, hh_let_eq ev_165]) hTv_165 hp (lv_sub hl [0, 1, 2, 3, 4, 5, 6] rfl)
          refine lv_iload hx hb dX5_lookAtLeg_106 (lv_at hl 2 rfl) ?_
          refine lv_iconst (v := (-1)) hx hb dX5_lookAtLeg_108 (by decide) ?_
          refine lv_icmp_eq (tgt := 136) hx hb dX5_lookAtLeg_109 (by decide) (fun c_109 => ?_) (fun c_109 => ?_)
          · refine lv_iload hx hb dX5_lookAtLeg_136 (lv_at hl 1 rfl) ?_
            refine lv_if_ne (tgt := 151) hx hb dX5_lookAtLeg_138 (by decide) (fun c_138 => ?_) (fun c_138 => ?_)
            · exact hJ_151 v_75 _ _ _ (by rw [if_pos c_109, if_neg c_138]) hTv_75 hp (lv_sub hl [0, 1, 2, 3, 4, 5, 6] rfl) (by assumption)
            · refine lv_aload_n hx hb dX5_lookAtLeg_141 rfl (lv_at hl 6 rfl) ?_
              refine lv_dup hx hb dX5_lookAtLeg_142 rfl ?_
              refine hh_get C0 hp (C := RX2) (T := TX2) (N := 6) (ci := 2) (hh_b_g hr hi hg) (hh_E_g r hi hg) rfl hh_uX2 3 (by decide) hm_189 rfl rfl dX5_lookAtLeg_143 ?_
              refine lv_iconst (v := 1) hx hb dX5_lookAtLeg_146 (by decide) ?_
              refine lv_iadd hx hb dX5_lookAtLeg_147 ?_
              refine hh_put C0 hp (C := RX2) (T := TX2) (N := 6) (ci := 2) (k := 3) (ty := .int) (hh_b_g hr hi hg) (hh_E_g r hi hg) (hh_pg3 r hi hg) rfl hh_uX2 tyX2_ok nmX2 (by decide) hm_189 rfl rfl (by decide +kernel) rfl rfl (Nat.le_of_ble_eq_true rfl) dX5_lookAtLeg_148 (fun H locs hp => ?_)
              obtain ⟨v_148, ev_148⟩ : ∃ z : hh_M, z = hh_up v_75 (hh_gI r i g) 3 ((v_75 (hh_gI r i g) 3) + 1) := ⟨_, rfl⟩
              rw [← ev_148] at hp
              have hTv_148 : hh_T nm nh nc v_148 := by rw [ev_148]; exact hh_T_up hTv_75 (hh_Rt_g hr hi hg (by decide))
              have hmi148 : vp_in (v_148 (hh_gI r i g) 1) 6 := by rw [ev_148, hh_upx (by decide : (1 : Nat) ≠ 3)]; exact hmi75
              exact hJ_151 v_148 _ _ _ (by rw [if_pos c_109, if_pos c_138, hh_let_eq ev_148]) hTv_148 hp (lv_sub hl [0, 1, 2, 3, 4, 5, 6] rfl) (by assumption)
          · refine lv_aload_n hx hb dX5_lookAtLeg_112 rfl (lv_at hl 6 rfl) ?_
            refine hh_get C0 hp (C := RX2) (T := TX2) (N := 6) (ci := 2) (hh_b_g hr hi hg) (hh_E_g r hi hg) rfl hh_uX2 2 (by decide) hm_188 rfl rfl dX5_lookAtLeg_113 ?_
            refine lv_iconst (v := 2) hx hb dX5_lookAtLeg_116 (by decide) ?_
            refine lv_icmp_ge (tgt := 125) hx hb dX5_lookAtLeg_117 (by decide) (fun c_117 => ?_) (fun c_117 => ?_)
            · refine lv_aload_n hx hb dX5_lookAtLeg_125 rfl (lv_at hl 4 rfl) ?_
              refine lv_aload_n hx hb dX5_lookAtLeg_126 rfl (lv_at hl 5 rfl) ?_
              refine lv_aload_n hx hb dX5_lookAtLeg_127 rfl (lv_at hl 6 rfl) ?_
              refine lv_iload hx hb dX5_lookAtLeg_128 (lv_at hl 2 rfl) ?_
              refine hh_cVv C0 hp (As := [.ref (ad (hh_cI r i)), .ref (ad (hh_gI r i g)), .int q_34]) (rest := []) (C := RX5) (T := TX5) (N := 10) (ci := 5) (n := 3) (hk_X5_handOver l D K ad hTv_75 r i g q_34 hr hi hg (by rw [ev_75, hh_upx (by decide : (0 : Nat) ≠ 2)]; exact hus.1) (by rw [ev_75, hh_upx (by decide : (1 : Nat) ≠ 2)]; exact hus.2) (hh_in hpq_34a c_109 (by omega) (by decide)) (by assumption)) rfl (hh_b_r hr) (hh_E_r r) (hh_gV hm_208 hm_209 hm_210 hm_128 hm_211) ⟨rfl, rfl⟩ (by decide +kernel) ⟨Nat.le_of_ble_eq_true rfl, Nat.le_of_ble_eq_true rfl⟩ ⟨Nat.zero_le _, Nat.zero_le _⟩ hl.1 rfl rfl (Nat.le_of_ble_eq_true rfl) dX5_lookAtLeg_130 (fun v_130 H locs hv_130 hp => ?_)
              obtain ⟨ev_130, hTv_130, hpv_1300⟩ := hv_130
              refine lv_goto (tgt := 151) hx hb dX5_lookAtLeg_133 (by decide) ?_
              exact hJ_151 v_130 _ _ _ (by rw [if_neg c_109, if_pos c_117, hh_let_eq ev_130]) hTv_130 hp (lv_sub hl [0, 1, 2, 3, 4, 5, 6] rfl) (by assumption)
            · refine lv_iload hx hb dX5_lookAtLeg_120 (lv_at hl 0 rfl) ?_
              refine lv_if_eq (tgt := 136) hx hb dX5_lookAtLeg_122 (by decide) (fun c_122 => ?_) (fun c_122 => ?_)
              · refine lv_iload hx hb dX5_lookAtLeg_136 (lv_at hl 1 rfl) ?_
                refine lv_if_ne (tgt := 151) hx hb dX5_lookAtLeg_138 (by decide) (fun c_138 => ?_) (fun c_138 => ?_)
                · exact hJ_151 v_75 _ _ _ (by rw [if_neg c_109, if_neg c_117, if_pos c_122, if_neg c_138]) hTv_75 hp (lv_sub hl [0, 1, 2, 3, 4, 5, 6] rfl) (by assumption)
                · refine lv_aload_n hx hb dX5_lookAtLeg_141 rfl (lv_at hl 6 rfl) ?_
                  refine lv_dup hx hb dX5_lookAtLeg_142 rfl ?_
                  refine hh_get C0 hp (C := RX2) (T := TX2) (N := 6) (ci := 2) (hh_b_g hr hi hg) (hh_E_g r hi hg) rfl hh_uX2 3 (by decide) hm_189 rfl rfl dX5_lookAtLeg_143 ?_
                  refine lv_iconst (v := 1) hx hb dX5_lookAtLeg_146 (by decide) ?_
                  refine lv_iadd hx hb dX5_lookAtLeg_147 ?_
                  refine hh_put C0 hp (C := RX2) (T := TX2) (N := 6) (ci := 2) (k := 3) (ty := .int) (hh_b_g hr hi hg) (hh_E_g r hi hg) (hh_pg3 r hi hg) rfl hh_uX2 tyX2_ok nmX2 (by decide) hm_189 rfl rfl (by decide +kernel) rfl rfl (Nat.le_of_ble_eq_true rfl) dX5_lookAtLeg_148 (fun H locs hp => ?_)
                  obtain ⟨v_148, ev_148⟩ : ∃ z : hh_M, z = hh_up v_75 (hh_gI r i g) 3 ((v_75 (hh_gI r i g) 3) + 1) := ⟨_, rfl⟩
                  rw [← ev_148] at hp
                  have hTv_148 : hh_T nm nh nc v_148 := by rw [ev_148]; exact hh_T_up hTv_75 (hh_Rt_g hr hi hg (by decide))
                  have hmi148 : vp_in (v_148 (hh_gI r i g) 1) 6 := by rw [ev_148, hh_upx (by decide : (1 : Nat) ≠ 3)]; exact hmi75
                  exact hJ_151 v_148 _ _ _ (by rw [if_neg c_109, if_neg c_117, if_pos c_122, if_pos c_138, hh_let_eq ev_148]) hTv_148 hp (lv_sub hl [0, 1, 2, 3, 4, 5, 6] rfl) (by assumption)
              · refine lv_aload_n hx hb dX5_lookAtLeg_125 rfl (lv_at hl 4 rfl) ?_
                refine lv_aload_n hx hb dX5_lookAtLeg_126 rfl (lv_at hl 5 rfl) ?_
                refine lv_aload_n hx hb dX5_lookAtLeg_127 rfl (lv_at hl 6 rfl) ?_
                refine lv_iload hx hb dX5_lookAtLeg_128 (lv_at hl 2 rfl) ?_
                refine hh_cVv C0 hp (As := [.ref (ad (hh_cI r i)), .ref (ad (hh_gI r i g)), .int q_34]) (rest := []) (C := RX5) (T := TX5) (N := 10) (ci := 5) (n := 3) (hk_X5_handOver l D K ad hTv_75 r i g q_34 hr hi hg (by rw [ev_75, hh_upx (by decide : (0 : Nat) ≠ 2)]; exact hus.1) (by rw [ev_75, hh_upx (by decide : (1 : Nat) ≠ 2)]; exact hus.2) (hh_in hpq_34a c_109 (by omega) (by decide)) (by assumption)) rfl (hh_b_r hr) (hh_E_r r) (hh_gV hm_208 hm_209 hm_210 hm_128 hm_211) ⟨rfl, rfl⟩ (by decide +kernel) ⟨Nat.le_of_ble_eq_true rfl, Nat.le_of_ble_eq_true rfl⟩ ⟨Nat.zero_le _, Nat.zero_le _⟩ hl.1 rfl rfl (Nat.le_of_ble_eq_true rfl) dX5_lookAtLeg_130 (fun v_130 H locs hv_130 hp => ?_)
                obtain ⟨ev_130, hTv_130, hpv_1300⟩ := hv_130
                refine lv_goto (tgt := 151) hx hb dX5_lookAtLeg_133 (by decide) ?_
                exact hJ_151 v_130 _ _ _ (by rw [if_neg c_109, if_neg c_117, if_neg c_122, hh_let_eq ev_130]) hTv_130 hp (lv_sub hl [0, 1, 2, 3, 4, 5, 6] rfl) (by assumption)
        refine lv_iload hx hb dX5_lookAtLeg_78 (lv_at hl 0 rfl) ?_
        refine lv_if_ne (tgt := 103) hx hb dX5_lookAtLeg_80 (by decide) (fun c_80 => ?_) (fun c_80 => ?_)
        · refine lv_iconst (v := 0) hx hb dX5_lookAtLeg_103 (by decide) ?_
          exact hJ_104 0 _ _ _ (by rw [if_neg c_80]) hp (lv_sub hl [0, 1, 2, 3, 4, 5] rfl)
        · refine lv_iload hx hb dX5_lookAtLeg_83 (lv_at hl 1 rfl) ?_
          refine lv_iconst (v := (-1)) hx hb dX5_lookAtLeg_85 (by decide) ?_
          refine lv_icmp_eq (tgt := 103) hx hb dX5_lookAtLeg_86 (by decide) (fun c_86 => ?_) (fun c_86 => ?_)
          · refine lv_iconst (v := 0) hx hb dX5_lookAtLeg_103 (by decide) ?_
            exact hJ_104 0 _ _ _ (by rw [if_pos c_80, if_pos c_86]) hp (lv_sub hl [0, 1, 2, 3, 4, 5] rfl)
          · refine lv_aload_n hx hb dX5_lookAtLeg_89 rfl (lv_at hl 3 rfl) ?_
            refine lv_iload hx hb dX5_lookAtLeg_90 (lv_at hl 1 rfl) ?_
            refine lv_iload_n hx hb dX5_lookAtLeg_92 rfl (lv_at hl 2 rfl) ?_
            refine hh_cVi C0 hp (As := [.int q_34, .int x_27]) (rest := []) (C := RX5) (T := TX5) (N := 10) (ci := 5) (n := 2) (hk_X5_isHeard l D K ad hTv_75 r q_34 x_27 hr (hh_in hpq_34a c_86 (by omega) (by decide)) (by assumption)) rfl (hh_b_r hr) (hh_E_r r) (hh_gV hm_201 hm_202 hm_203 hm_128 hm_124) ⟨rfl, rfl⟩ (by decide +kernel) ⟨Nat.le_of_ble_eq_true rfl, Nat.le_of_ble_eq_true rfl⟩ ⟨Nat.zero_le _, Nat.zero_le _⟩ hl.1 rfl rfl (Nat.le_of_ble_eq_true rfl) dX5_lookAtLeg_93 (fun q_93 v_93 H locs hv_93 hp => ?_)
            obtain ⟨eq_93, hv9⟩ := hv_93
            rw [hv9] at hp; clear hv9
            refine lv_if_eq (tgt := 103) hx hb dX5_lookAtLeg_96 (by decide) (fun c_96 => ?_) (fun c_96 => ?_)
            · refine lv_iconst (v := 0) hx hb dX5_lookAtLeg_103 (by decide) ?_
              exact hJ_104 0 _ _ _ (by rw [if_pos c_80, if_neg c_86, hh_let_eq eq_93, if_pos c_96]) hp (lv_sub hl [0, 1, 2, 3, 4, 5] rfl)
            · refine lv_iconst (v := 1) hx hb dX5_lookAtLeg_99 (by decide) ?_
              refine lv_goto (tgt := 104) hx hb dX5_lookAtLeg_100 (by decide) ?_
              exact hJ_104 1 _ _ _ (by rw [if_pos c_80, if_neg c_86, hh_let_eq eq_93, if_neg c_96]) hp (lv_sub hl [0, 1, 2, 3, 4, 5] rfl)
      refine lv_if_eq (tgt := 74) hx hb dX5_lookAtLeg_62 (by decide) (fun c_62 => ?_) (fun c_62 => ?_)
      · refine lv_iconst (v := 0) hx hb dX5_lookAtLeg_74 (by decide) ?_
        exact hJ_75 0 _ _ _ (by rw [if_pos c_62]) hp (lv_sub hl [0, 1, 2, 3, 4, 5] rfl)
      · refine lv_aload_n hx hb dX5_lookAtLeg_65 rfl (lv_at hl 5 rfl) ?_
        refine hh_get C0 hp (C := RX2) (T := TX2) (N := 6) (ci := 2) (hh_b_g hr hi hg) (hh_E_g r hi hg) rfl hh_uX2 2 (by decide) hm_188 rfl rfl dX5_lookAtLeg_66 ?_
        refine lv_iconst (v := 1) hx hb dX5_lookAtLeg_69 (by decide) ?_
        refine lv_iadd hx hb dX5_lookAtLeg_70 ?_
        refine lv_goto (tgt := 75) hx hb dX5_lookAtLeg_71 (by decide) ?_
        exact hJ_75 ((v (hh_gI r i g) 2) + 1) _ _ _ (by rw [if_neg c_62]) hp (lv_sub hl [0, 1, 2, 3, 4, 5] rfl)
    · exact hh_vret C0 hp dX5_lookAtLeg_14 ⟨(by show _ = _; unfold hf_X5_lookAtLeg; rw [if_pos c_4, hh_let_eq eq_8, if_pos c_11]), hT⟩
end
section
/-! 13.second: laid by program (wip/gen/mk10.py) -/
def hl_X5_second_12 (r : Nat) (i : Nat) (w_12 : hh_M) : hh_M := (hh_let (hf_X1_move w_12 r i : hh_M) (fun (v_26 : hh_M) => v_26))
def hl_X5_second_37 (r : Nat) (i : Nat) (w_37 : hh_M) : hh_M := (hh_let (hf_X1_isIdle w_37 r i : Int32) (fun (q_51 : Int32) => (if q_51 = 0 then w_37 else (hh_let (hf_X5_chooseMast w_37 r i : hh_M) (fun (v_64 : hh_M) => (hh_let (hf_X5_tellArea v_64 r i : hh_M) (fun (v_74 : hh_M) => v_74)))))))
def hl_X5_second_85 (r : Nat) (i : Nat) (w_85 : hh_M) : hh_M := (hh_let (hf_X5_lookAtLeg w_85 r i 0 : hh_M) (fun (v_109 : hh_M) => (hh_let (hf_X5_lookAtLeg v_109 r i 1 : hh_M) (fun (v_128 : hh_M) => v_128))))
def hl_X5_second_139 (r : Nat) (i : Nat) (w_139 : hh_M) : hh_M := (hh_let (hf_X5_charge w_139 r i : hh_M) (fun (v_154 : hh_M) => v_154))
def hl_X5_second_165 (r : Nat) (i : Nat) (w_165 : hh_M) : hh_M := (hh_let (hf_X5_deliverTexts w_165 r i : hh_M) (fun (v_180 : hh_M) => v_180))
def hf_X5_second (v : hh_M) (r : Nat) : hh_M := (hh_let (hh_up v (hh_rI r) 8 ((v (hh_rI r) 8) + 1) : hh_M) (fun (v_7 : hh_M) => (hh_let (hh_fld (fun (i9 : Nat) (z : hh_M) => hl_X5_second_12 r i9 z) ((v_7 (hh_rI r) 5).toNatClampNeg) v_7 : hh_M) (fun (w_12 : hh_M) => (hh_let (hh_fld (fun (i9 : Nat) (z : hh_M) => hl_X5_second_37 r i9 z) ((w_12 (hh_rI r) 5).toNatClampNeg) w_12 : hh_M) (fun (w_37 : hh_M) => (hh_let (hh_fld (fun (i9 : Nat) (z : hh_M) => hl_X5_second_85 r i9 z) ((w_37 (hh_rI r) 6).toNatClampNeg) w_37 : hh_M) (fun (w_85 : hh_M) => (hh_let (hh_fld (fun (i9 : Nat) (z : hh_M) => hl_X5_second_139 r i9 z) ((w_85 (hh_rI r) 6).toNatClampNeg) w_85 : hh_M) (fun (w_139 : hh_M) => (hh_let (hh_fld (fun (i9 : Nat) (z : hh_M) => hl_X5_second_165 r i9 z) ((w_139 (hh_rI r) 5).toNatClampNeg) w_139 : hh_M) (fun (w_165 : hh_M) => w_165))))))))))))
set_option maxHeartbeats 4000000 in
set_option maxRecDepth 100000 in
theorem hk_X5_second (l : Launch) (D : va_G) (K : Nat → ClassId) (ad : Nat → Nat) {nm : Nat} {nh nc : Nat → Nat} {v : hh_M} (hT : hh_T nm nh nc v) (r : Nat) (hr : r < 2) : hh_Kv l D K ad yX5_second (hh_wm yX5_second cX5_second 2 none) { frames := 3, cells := 0, slots := 0, locals := 74 } [.ref (ad (hh_rI r))] v (fun (v1 : hh_M) => v1 = hf_X5_second v r ∧ hh_T nm nh nc v1) := by
  refine hh_Kv_of (by decide) (Nat.le_of_ble_eq_true rfl) ?_
  intro p e s m args below meth c ls A C0 hp hl
  obtain ⟨hx, hb, hr9, hml, hown, hts, hK, hlk, hA⟩ := id C0
  have hnm := hT.1
  have hnh := hT.2.1
  have hnc := hT.2.2.1
  have hbHr := hnh r
  have hbCr := hnc r
  have hl : lv_has ls 2 [(0, .ref (ad (hh_rI r)))] := hl
  refine lv_aload_n hx hb dX5_second_0 rfl (lv_at hl 0 rfl) ?_
  refine lv_dup hx hb dX5_second_1 rfl ?_
  refine hh_get C0 hp (C := RX5) (T := TX5) (N := 10) (ci := 5) (hh_b_r hr) (hh_E_r r) rfl hh_uX5 8 (by decide) hm_114 rfl rfl dX5_second_2 ?_
  refine lv_iconst (v := 1) hx hb dX5_second_5 (by decide) ?_
  refine lv_iadd hx hb dX5_second_6 ?_
  refine hh_put C0 hp (C := RX5) (T := TX5) (N := 10) (ci := 5) (k := 8) (ty := .int) (hh_b_r hr) (hh_E_r r) (hh_pr8 r) rfl hh_uX5 tyX5_ok nmX5 (by decide) hm_114 rfl rfl (by decide +kernel) rfl rfl (Nat.le_of_ble_eq_true rfl) dX5_second_7 (fun H locs hp => ?_)
  obtain ⟨v_7, ev_7⟩ : ∃ z : hh_M, z = hh_up v (hh_rI r) 8 ((v (hh_rI r) 8) + 1) := ⟨_, rfl⟩
  rw [← ev_7] at hp
  have hTv_7 : hh_T nm nh nc v_7 := by rw [ev_7]; exact hh_T_up hT (hh_Rt_r hr (by decide))
  refine lv_iconst (v := 0) hx hb dX5_second_10 (by decide) ?_
  refine lv_istore_n (lv' := [(1, .int 0), (0, .ref (ad (hh_rI r)))]) hx hb dX5_second_11 rfl hl (by decide) rfl (fun ls hl => ?_)
  have hL_12 : ∀ (n i : Nat) (w_12 : hh_M) (H : Heap) (locs : List Loc) (ls : Array Slot), i ≤ nh r → nh r - i < n → w_12 = hh_fld (fun (i9 : Nat) (z : hh_M) => hl_X5_second_12 r i9 z) i v_7 → hh_T nm nh nc w_12 → hh_H D K ad A s.heap w_12 H locs → lv_has ls 2 [(1, .int (nI i)), (0, .ref (ad (hh_rI r)))] → W p l e ({ frames := 3, cells := 0, slots := 0, locals := 74 } : Room) s m args below meth c H locs 0 0 (MQ below (va_Qv (fun (v1 : hh_M) => v1 = hf_X5_second v r ∧ hh_T nm nh nc v1) (hh_B D K ad A) A) args s 0 0 A) (F0 m 12 ls []) := by
    intro n
    induction n with
    | zero => intro i w_12 H locs ls h1 h2; omega
    | succ n ih =>
      intro i w_12 H locs ls hii hni hsL_12 hTw_12 hp hl
      refine lv_iload_n hx hb dX5_second_12 rfl (lv_at hl 0 rfl) ?_
      refine lv_aload_n hx hb dX5_second_13 rfl (lv_at hl 1 rfl) ?_
      refine hh_get C0 hp (C := RX5) (T := TX5) (N := 10) (ci := 5) (hh_b_r hr) (hh_E_r r) rfl hh_uX5 5 (by decide) hm_111 rfl rfl dX5_second_14 ?_
      refine lv_icmp_ge (tgt := 35) hx hb dX5_second_17 (by decide) (fun c_17 => ?_) (fun c_17 => ?_)
      · have hbc_17 : (w_12 (hh_rI r) 5) = nI (nh r) := hh_T_r5 hTw_12 r
        rw [hbc_17] at c_17
        have hc_17 := (nI_leI (a := nh r) (b := i) (by omega) (by omega))
        have hltc_17 : nh r ≤ i := by exact hc_17.mp c_17
        have hNL_12 : i = nh r := by omega
        rw [hNL_12] at hsL_12
        have hsL_12 : w_12 = hh_fld (fun (i9 : Nat) (z : hh_M) => hl_X5_second_12 r i9 z) ((v_7 (hh_rI r) 5).toNatClampNeg) v_7 := by rw [hsL_12, show (v_7 (hh_rI r) 5).toNatClampNeg = nh r from by rw [hh_T_r5 hTv_7 r]; exact nI_clamp (by have := hnh r; omega)]
        have ew_12 : w_12 = hh_fld (fun (i9 : Nat) (z : hh_M) => hl_X5_second_12 r i9 z) ((v_7 (hh_rI r) 5).toNatClampNeg) v_7 := hsL_12
        clear ih hsL_12
        refine lv_iconst (v := 0) hx hb dX5_second_35 (by decide) ?_
        refine lv_istore_n (lv' := [(1, .int 0), (0, .ref (ad (hh_rI r)))]) hx hb dX5_second_36 rfl hl (by decide) rfl (fun ls hl => ?_)
        have hL_37 : ∀ (n i : Nat) (w_37 : hh_M) (H : Heap) (locs : List Loc) (ls : Array Slot), i ≤ nh r → nh r - i < n → w_37 = hh_fld (fun (i9 : Nat) (z : hh_M) => hl_X5_second_37 r i9 z) i w_12 → hh_T nm nh nc w_37 → hh_H D K ad A s.heap w_37 H locs → lv_has ls 2 [(1, .int (nI i)), (0, .ref (ad (hh_rI r)))] → W p l e ({ frames := 3, cells := 0, slots := 0, locals := 74 } : Room) s m args below meth c H locs 0 0 (MQ below (va_Qv (fun (v1 : hh_M) => v1 = hf_X5_second v r ∧ hh_T nm nh nc v1) (hh_B D K ad A) A) args s 0 0 A) (F0 m 37 ls []) := by
          intro n
          induction n with
          | zero => intro i w_37 H locs ls h1 h2; omega
          | succ n ih =>
            intro i w_37 H locs ls hii hni hsL_37 hTw_37 hp hl
            refine lv_iload_n hx hb dX5_second_37 rfl (lv_at hl 0 rfl) ?_
            refine lv_aload_n hx hb dX5_second_38 rfl (lv_at hl 1 rfl) ?_
            refine hh_get C0 hp (C := RX5) (T := TX5) (N := 10) (ci := 5) (hh_b_r hr) (hh_E_r r) rfl hh_uX5 5 (by decide) hm_111 rfl rfl dX5_second_39 ?_
            refine lv_icmp_ge (tgt := 83) hx hb dX5_second_42 (by decide) (fun c_42 => ?_) (fun c_42 => ?_)
            · have hbc_42 : (w_37 (hh_rI r) 5) = nI (nh r) := hh_T_r5 hTw_37 r
              rw [hbc_42] at c_42
              have hc_42 := (nI_leI (a := nh r) (b := i) (by omega) (by omega))
              have hltc_42 : nh r ≤ i := by exact hc_42.mp c_42
              have hNL_37 : i = nh r := by omega
              rw [hNL_37] at hsL_37
              have hsL_37 : w_37 = hh_fld (fun (i9 : Nat) (z : hh_M) => hl_X5_second_37 r i9 z) ((w_12 (hh_rI r) 5).toNatClampNeg) w_12 := by rw [hsL_37, show (w_12 (hh_rI r) 5).toNatClampNeg = nh r from by rw [hh_T_r5 hTw_12 r]; exact nI_clamp (by have := hnh r; omega)]
              have ew_37 : w_37 = hh_fld (fun (i9 : Nat) (z : hh_M) => hl_X5_second_37 r i9 z) ((w_12 (hh_rI r) 5).toNatClampNeg) w_12 := hsL_37
              clear ih hsL_37
              refine lv_iconst (v := 0) hx hb dX5_second_83 (by decide) ?_
              refine lv_istore_n (lv' := [(1, .int 0), (0, .ref (ad (hh_rI r)))]) hx hb dX5_second_84 rfl hl (by decide) rfl (fun ls hl => ?_)
              have hL_85 : ∀ (n i : Nat) (w_85 : hh_M) (H : Heap) (locs : List Loc) (ls : Array Slot), i ≤ nc r → nc r - i < n → w_85 = hh_fld (fun (i9 : Nat) (z : hh_M) => hl_X5_second_85 r i9 z) i w_37 → hh_T nm nh nc w_85 → hh_H D K ad A s.heap w_85 H locs → lv_has ls 2 [(1, .int (nI i)), (0, .ref (ad (hh_rI r)))] → W p l e ({ frames := 3, cells := 0, slots := 0, locals := 74 } : Room) s m args below meth c H locs 0 0 (MQ below (va_Qv (fun (v1 : hh_M) => v1 = hf_X5_second v r ∧ hh_T nm nh nc v1) (hh_B D K ad A) A) args s 0 0 A) (F0 m 85 ls []) := by
                intro n
                induction n with
                | zero => intro i w_85 H locs ls h1 h2; omega
                | succ n ih =>
                  intro i w_85 H locs ls hii hni hsL_85 hTw_85 hp hl
                  refine lv_iload_n hx hb dX5_second_85 rfl (lv_at hl 0 rfl) ?_
                  refine lv_aload_n hx hb dX5_second_86 rfl (lv_at hl 1 rfl) ?_
                  refine hh_get C0 hp (C := RX5) (T := TX5) (N := 10) (ci := 5) (hh_b_r hr) (hh_E_r r) rfl hh_uX5 6 (by decide) hm_112 rfl rfl dX5_second_87 ?_
                  refine lv_icmp_ge (tgt := 137) hx hb dX5_second_90 (by decide) (fun c_90 => ?_) (fun c_90 => ?_)
                  · have hbc_90 : (w_85 (hh_rI r) 6) = nI (nc r) := hh_T_r6 hTw_85 r
                    rw [hbc_90] at c_90
                    have hc_90 := (nI_leI (a := nc r) (b := i) (by omega) (by omega))
                    have hltc_90 : nc r ≤ i := by exact hc_90.mp c_90
                    have hNL_85 : i = nc r := by omega
                    rw [hNL_85] at hsL_85
                    have hsL_85 : w_85 = hh_fld (fun (i9 : Nat) (z : hh_M) => hl_X5_second_85 r i9 z) ((w_37 (hh_rI r) 6).toNatClampNeg) w_37 := by rw [hsL_85, show (w_37 (hh_rI r) 6).toNatClampNeg = nc r from by rw [hh_T_r6 hTw_37 r]; exact nI_clamp (by have := hnc r; omega)]
                    have ew_85 : w_85 = hh_fld (fun (i9 : Nat) (z : hh_M) => hl_X5_second_85 r i9 z) ((w_37 (hh_rI r) 6).toNatClampNeg) w_37 := hsL_85
                    clear ih hsL_85
                    refine lv_iconst (v := 0) hx hb dX5_second_137 (by decide) ?_
                    refine lv_istore_n (lv' := [(1, .int 0), (0, .ref (ad (hh_rI r)))]) hx hb dX5_second_138 rfl hl (by decide) rfl (fun ls hl => ?_)
                    have hL_139 : ∀ (n i : Nat) (w_139 : hh_M) (H : Heap) (locs : List Loc) (ls : Array Slot), i ≤ nc r → nc r - i < n → w_139 = hh_fld (fun (i9 : Nat) (z : hh_M) => hl_X5_second_139 r i9 z) i w_85 → hh_T nm nh nc w_139 → hh_H D K ad A s.heap w_139 H locs → lv_has ls 2 [(1, .int (nI i)), (0, .ref (ad (hh_rI r)))] → W p l e ({ frames := 3, cells := 0, slots := 0, locals := 74 } : Room) s m args below meth c H locs 0 0 (MQ below (va_Qv (fun (v1 : hh_M) => v1 = hf_X5_second v r ∧ hh_T nm nh nc v1) (hh_B D K ad A) A) args s 0 0 A) (F0 m 139 ls []) := by
                      intro n
                      induction n with
                      | zero => intro i w_139 H locs ls h1 h2; omega
                      | succ n ih =>
                        intro i w_139 H locs ls hii hni hsL_139 hTw_139 hp hl
                        refine lv_iload_n hx hb dX5_second_139 rfl (lv_at hl 0 rfl) ?_
                        refine lv_aload_n hx hb dX5_second_140 rfl (lv_at hl 1 rfl) ?_
                        refine hh_get C0 hp (C := RX5) (T := TX5) (N := 10) (ci := 5) (hh_b_r hr) (hh_E_r r) rfl hh_uX5 6 (by decide) hm_112 rfl rfl dX5_second_141 ?_
                        refine lv_icmp_ge (tgt := 163) hx hb dX5_second_144 (by decide) (fun c_144 => ?_) (fun c_144 => ?_)
                        · have hbc_144 : (w_139 (hh_rI r) 6) = nI (nc r) := hh_T_r6 hTw_139 r
                          rw [hbc_144] at c_144
                          have hc_144 := (nI_leI (a := nc r) (b := i) (by omega) (by omega))
                          have hltc_144 : nc r ≤ i := by exact hc_144.mp c_144
                          have hNL_139 : i = nc r := by omega
                          rw [hNL_139] at hsL_139
                          have hsL_139 : w_139 = hh_fld (fun (i9 : Nat) (z : hh_M) => hl_X5_second_139 r i9 z) ((w_85 (hh_rI r) 6).toNatClampNeg) w_85 := by rw [hsL_139, show (w_85 (hh_rI r) 6).toNatClampNeg = nc r from by rw [hh_T_r6 hTw_85 r]; exact nI_clamp (by have := hnc r; omega)]
                          have ew_139 : w_139 = hh_fld (fun (i9 : Nat) (z : hh_M) => hl_X5_second_139 r i9 z) ((w_85 (hh_rI r) 6).toNatClampNeg) w_85 := hsL_139
                          clear ih hsL_139
                          refine lv_iconst (v := 0) hx hb dX5_second_163 (by decide) ?_
                          refine lv_istore_n (lv' := [(1, .int 0), (0, .ref (ad (hh_rI r)))]) hx hb dX5_second_164 rfl hl (by decide) rfl (fun ls hl => ?_)
                          have hL_165 : ∀ (n i : Nat) (w_165 : hh_M) (H : Heap) (locs : List Loc) (ls : Array Slot), i ≤ nh r → nh r - i < n → w_165 = hh_fld (fun (i9 : Nat) (z : hh_M) => hl_X5_second_165 r i9 z) i w_139 → hh_T nm nh nc w_165 → hh_H D K ad A s.heap w_165 H locs → lv_has ls 2 [(1, .int (nI i)), (0, .ref (ad (hh_rI r)))] → W p l e ({ frames := 3, cells := 0, slots := 0, locals := 74 } : Room) s m args below meth c H locs 0 0 (MQ below (va_Qv (fun (v1 : hh_M) => v1 = hf_X5_second v r ∧ hh_T nm nh nc v1) (hh_B D K ad A) A) args s 0 0 A) (F0 m 165 ls []) := by
                            intro n
                            induction n with
                            | zero => intro i w_165 H locs ls h1 h2; omega
                            | succ n ih =>
                              intro i w_165 H locs ls hii hni hsL_165 hTw_165 hp hl
                              refine lv_iload_n hx hb dX5_second_165 rfl (lv_at hl 0 rfl) ?_
                              refine lv_aload_n hx hb dX5_second_166 rfl (lv_at hl 1 rfl) ?_
                              refine hh_get C0 hp (C := RX5) (T := TX5) (N := 10) (ci := 5) (hh_b_r hr) (hh_E_r r) rfl hh_uX5 5 (by decide) hm_111 rfl rfl dX5_second_167 ?_
                              refine lv_icmp_ge (tgt := 189) hx hb dX5_second_170 (by decide) (fun c_170 => ?_) (fun c_170 => ?_)
                              · have hbc_170 : (w_165 (hh_rI r) 5) = nI (nh r) := hh_T_r5 hTw_165 r
                                rw [hbc_170] at c_170
                                have hc_170 := (nI_leI (a := nh r) (b := i) (by omega) (by omega))
                                have hltc_170 : nh r ≤ i := by exact hc_170.mp c_170
                                have hNL_165 : i = nh r := by omega
                                rw [hNL_165] at hsL_165
                                have hsL_165 : w_165 = hh_fld (fun (i9 : Nat) (z : hh_M) => hl_X5_second_165 r i9 z) ((w_139 (hh_rI r) 5).toNatClampNeg) w_139 := by rw [hsL_165, show (w_139 (hh_rI r) 5).toNatClampNeg = nh r from by rw [hh_T_r5 hTw_139 r]; exact nI_clamp (by have := hnh r; omega)]
                                have ew_165 : w_165 = hh_fld (fun (i9 : Nat) (z : hh_M) => hl_X5_second_165 r i9 z) ((w_139 (hh_rI r) 5).toNatClampNeg) w_139 := hsL_165
                                clear ih hsL_165
                                exact hh_vret C0 hp dX5_second_189 ⟨(by show _ = _; unfold hf_X5_second; rw [hh_let_eq ev_7, hh_let_eq ew_12, hh_let_eq ew_37, hh_let_eq ew_85, hh_let_eq ew_139, hh_let_eq ew_165]), hTw_165⟩
                              · have hbc_170 : (w_165 (hh_rI r) 5) = nI (nh r) := hh_T_r5 hTw_165 r
                                rw [hbc_170] at c_170
                                have hc_170 := (nI_leI (a := nh r) (b := i) (by omega) (by omega))
                                have hltc_170 : i < nh r := by exact Nat.not_le.mp (fun z => c_170 (hc_170.mpr z))
                                have hbH := hnh r
                                refine lv_aload_n hx hb dX5_second_173 rfl (lv_at hl 1 rfl) ?_
                                refine lv_aload_n hx hb dX5_second_174 rfl (lv_at hl 1 rfl) ?_
                                refine hh_get C0 hp (C := RX5) (T := TX5) (N := 10) (ci := 5) (hh_b_r hr) (hh_E_r r) rfl hh_uX5 3 (by decide) hm_101 rfl rfl dX5_second_175 ?_
                                refine lv_iload_n hx hb dX5_second_178 rfl (lv_at hl 0 rfl) ?_
                                refine hh_aal C0 hp (t0 := 3) (f := (hh_hI r)) (hh_b_H hr) (hh_E_H r) rfl rfl (vp_in_nI (by omega) (by decide)) (nI_clamp (by omega)) dX5_second_179 ?_
                                refine hh_cVv C0 hp (As := [.ref (ad (hh_hI r i))]) (rest := []) (C := RX5) (T := TX5) (N := 10) (ci := 5) (n := 1) (hk_X5_deliverTexts l D K ad hTw_165 r i hr (by omega : i < 8)) rfl (hh_b_r hr) (hh_E_r r) (hh_gV hm_242 hm_243 hm_244 hm_128 hm_245) ⟨rfl, rfl⟩ (by decide +kernel) ⟨Nat.le_of_ble_eq_true rfl, Nat.le_of_ble_eq_true rfl⟩ ⟨Nat.zero_le _, Nat.zero_le _⟩ hl.1 rfl rfl (Nat.le_of_ble_eq_true rfl) dX5_second_180 (fun v_180 H locs hv_180 hp => ?_)
                                obtain ⟨ev_180, hTv_180⟩ := hv_180
                                refine lv_iinc (v := (nI (i + 1))) (lv' := [(1, .int (nI (i + 1))), (0, .ref (ad (hh_rI r)))]) hx hb dX5_second_183 hl (k := 0) rfl (nI_1 i) (by decide) rfl (fun ls hl => ?_)
                                refine lv_goto (tgt := 165) hx hb dX5_second_186 (by decide) ?_
                                exact ih (i + 1) v_180 _ _ _ (by omega) (by omega) (by rw [hh_fld, ← hsL_165]; show _ = hl_X5_second_165 r i w_165; unfold hl_X5_second_165; rw [hh_let_eq ev_180]) hTv_180 hp (lv_sub hl [0, 1] rfl)
                          exact hL_165 (nh r + 1) 0 w_139 _ _ _ (Nat.zero_le _) (by omega) rfl hTw_139 hp (lv_sub hl [0, 1] rfl)
                        · have hbc_144 : (w_139 (hh_rI r) 6) = nI (nc r) := hh_T_r6 hTw_139 r
                          rw [hbc_144] at c_144
                          have hc_144 := (nI_leI (a := nc r) (b := i) (by omega) (by omega))
                          have hltc_144 : i < nc r := by exact Nat.not_le.mp (fun z => c_144 (hc_144.mpr z))
                          have hbC := hnc r
                          refine lv_aload_n hx hb dX5_second_147 rfl (lv_at hl 1 rfl) ?_
                          refine lv_aload_n hx hb dX5_second_148 rfl (lv_at hl 1 rfl) ?_
                          refine hh_get C0 hp (C := RX5) (T := TX5) (N := 10) (ci := 5) (hh_b_r hr) (hh_E_r r) rfl hh_uX5 4 (by decide) hm_105 rfl rfl dX5_second_149 ?_
                          refine lv_iload_n hx hb dX5_second_152 rfl (lv_at hl 0 rfl) ?_
                          refine hh_aal C0 hp (t0 := 4) (f := (hh_cI r)) (hh_b_C hr) (hh_E_C r) rfl rfl (vp_in_nI (by omega) (by decide)) (nI_clamp (by omega)) dX5_second_153 ?_
                          refine hh_cVv C0 hp (As := [.ref (ad (hh_cI r i))]) (rest := []) (C := RX5) (T := TX5) (N := 10) (ci := 5) (n := 1) (hk_X5_charge l D K ad hTw_139 r i hr (by omega : i < 24)) rfl (hh_b_r hr) (hh_E_r r) (hh_gV hm_225 hm_226 hm_227 hm_128 hm_228) ⟨rfl, rfl⟩ (by decide +kernel) ⟨Nat.le_of_ble_eq_true rfl, Nat.le_of_ble_eq_true rfl⟩ ⟨Nat.zero_le _, Nat.zero_le _⟩ hl.1 rfl rfl (Nat.le_of_ble_eq_true rfl) dX5_second_154 (fun v_154 H locs hv_154 hp => ?_)
                          obtain ⟨ev_154, hTv_154⟩ := hv_154
                          refine lv_iinc (v := (nI (i + 1))) (lv' := [(1, .int (nI (i + 1))), (0, .ref (ad (hh_rI r)))]) hx hb dX5_second_157 hl (k := 0) rfl (nI_1 i) (by decide) rfl (fun ls hl => ?_)
                          refine lv_goto (tgt := 139) hx hb dX5_second_160 (by decide) ?_
                          exact ih (i + 1) v_154 _ _ _ (by omega) (by omega) (by rw [hh_fld, ← hsL_139]; show _ = hl_X5_second_139 r i w_139; unfold hl_X5_second_139; rw [hh_let_eq ev_154]) hTv_154 hp (lv_sub hl [0, 1] rfl)
                    exact hL_139 (nc r + 1) 0 w_85 _ _ _ (Nat.zero_le _) (by omega) rfl hTw_85 hp (lv_sub hl [0, 1] rfl)
                  · have hbc_90 : (w_85 (hh_rI r) 6) = nI (nc r) := hh_T_r6 hTw_85 r
                    rw [hbc_90] at c_90
                    have hc_90 := (nI_leI (a := nc r) (b := i) (by omega) (by omega))
                    have hltc_90 : i < nc r := by exact Nat.not_le.mp (fun z => c_90 (hc_90.mpr z))
                    have hbC := hnc r
                    refine lv_aload_n hx hb dX5_second_93 rfl (lv_at hl 1 rfl) ?_
                    refine lv_aload_n hx hb dX5_second_94 rfl (lv_at hl 1 rfl) ?_
                    refine hh_get C0 hp (C := RX5) (T := TX5) (N := 10) (ci := 5) (hh_b_r hr) (hh_E_r r) rfl hh_uX5 4 (by decide) hm_105 rfl rfl dX5_second_95 ?_
                    refine lv_iload_n hx hb dX5_second_98 rfl (lv_at hl 0 rfl) ?_
                    refine hh_aal C0 hp (t0 := 4) (f := (hh_cI r)) (hh_b_C hr) (hh_E_C r) rfl rfl (vp_in_nI (by omega) (by decide)) (nI_clamp (by omega)) dX5_second_99 ?_
                    refine lv_aload_n hx hb dX5_second_100 rfl (lv_at hl 1 rfl) ?_
                    refine hh_get C0 hp (C := RX5) (T := TX5) (N := 10) (ci := 5) (hh_b_r hr) (hh_E_r r) rfl hh_uX5 4 (by decide) hm_105 rfl rfl dX5_second_101 ?_
                    refine lv_iload_n hx hb dX5_second_104 rfl (lv_at hl 0 rfl) ?_
                    refine hh_aal C0 hp (t0 := 4) (f := (hh_cI r)) (hh_b_C hr) (hh_E_C r) rfl rfl (vp_in_nI (by omega) (by decide)) (nI_clamp (by omega)) dX5_second_105 ?_
                    refine hh_get C0 hp (C := RX0) (T := TX0) (N := 7) (ci := 0) (hh_b_c hr (by omega : i < 24)) (hh_E_c r (by omega : i < 24)) rfl hh_uX0 0 (by decide) hm_159 rfl rfl dX5_second_106 ?_
                    refine hh_cVv C0 hp (As := [.ref (ad (hh_cI r i)), .ref (ad (hh_gI r i 0))]) (rest := []) (C := RX5) (T := TX5) (N := 10) (ci := 5) (n := 2) (hk_X5_lookAtLeg l D K ad hTw_85 r i 0 hr (by omega : i < 24) (by decide : 0 < 2)) rfl (hh_b_r hr) (hh_E_r r) (hh_gV hm_181 hm_182 hm_183 hm_128 hm_184) ⟨rfl, rfl⟩ (by decide +kernel) ⟨Nat.le_of_ble_eq_true rfl, Nat.le_of_ble_eq_true rfl⟩ ⟨Nat.zero_le _, Nat.zero_le _⟩ hl.1 rfl rfl (Nat.le_of_ble_eq_true rfl) dX5_second_109 (fun v_109 H locs hv_109 hp => ?_)
                    obtain ⟨ev_109, hTv_109⟩ := hv_109
                    refine lv_aload_n hx hb dX5_second_112 rfl (lv_at hl 1 rfl) ?_
                    refine lv_aload_n hx hb dX5_second_113 rfl (lv_at hl 1 rfl) ?_
                    refine hh_get C0 hp (C := RX5) (T := TX5) (N := 10) (ci := 5) (hh_b_r hr) (hh_E_r r) rfl hh_uX5 4 (by decide) hm_105 rfl rfl dX5_second_114 ?_
                    refine lv_iload_n hx hb dX5_second_117 rfl (lv_at hl 0 rfl) ?_
                    refine hh_aal C0 hp (t0 := 4) (f := (hh_cI r)) (hh_b_C hr) (hh_E_C r) rfl rfl (vp_in_nI (by omega) (by decide)) (nI_clamp (by omega)) dX5_second_118 ?_
                    refine lv_aload_n hx hb dX5_second_119 rfl (lv_at hl 1 rfl) ?_
                    refine hh_get C0 hp (C := RX5) (T := TX5) (N := 10) (ci := 5) (hh_b_r hr) (hh_E_r r) rfl hh_uX5 4 (by decide) hm_105 rfl rfl dX5_second_120 ?_
                    refine lv_iload_n hx hb dX5_second_123 rfl (lv_at hl 0 rfl) ?_
                    refine hh_aal C0 hp (t0 := 4) (f := (hh_cI r)) (hh_b_C hr) (hh_E_C r) rfl rfl (vp_in_nI (by omega) (by decide)) (nI_clamp (by omega)) dX5_second_124 ?_
                    refine hh_get C0 hp (C := RX0) (T := TX0) (N := 7) (ci := 0) (hh_b_c hr (by omega : i < 24)) (hh_E_c r (by omega : i < 24)) rfl hh_uX0 1 (by decide) hm_160 rfl rfl dX5_second_125 ?_
                    refine hh_cVv C0 hp (As := [.ref (ad (hh_cI r i)), .ref (ad (hh_gI r i 1))]) (rest := []) (C := RX5) (T := TX5) (N := 10) (ci := 5) (n := 2) (hk_X5_lookAtLeg l D K ad hTv_109 r i 1 hr (by omega : i < 24) (by decide : 1 < 2)) rfl (hh_b_r hr) (hh_E_r r) (hh_gV hm_181 hm_182 hm_183 hm_128 hm_184) ⟨rfl, rfl⟩ (by decide +kernel) ⟨Nat.le_of_ble_eq_true rfl, Nat.le_of_ble_eq_true rfl⟩ ⟨Nat.zero_le _, Nat.zero_le _⟩ hl.1 rfl rfl (Nat.le_of_ble_eq_true rfl) dX5_second_128 (fun v_128 H locs hv_128 hp => ?_)
                    obtain ⟨ev_128, hTv_128⟩ := hv_128
                    refine lv_iinc (v := (nI (i + 1))) (lv' := [(1, .int (nI (i + 1))), (0, .ref (ad (hh_rI r)))]) hx hb dX5_second_131 hl (k := 0) rfl (nI_1 i) (by decide) rfl (fun ls hl => ?_)
                    refine lv_goto (tgt := 85) hx hb dX5_second_134 (by decide) ?_
                    exact ih (i + 1) v_128 _ _ _ (by omega) (by omega) (by rw [hh_fld, ← hsL_85]; show _ = hl_X5_second_85 r i w_85; unfold hl_X5_second_85; rw [hh_let_eq ev_109, hh_let_eq ev_128]) hTv_128 hp (lv_sub hl [0, 1] rfl)
              exact hL_85 (nc r + 1) 0 w_37 _ _ _ (Nat.zero_le _) (by omega) rfl hTw_37 hp (lv_sub hl [0, 1] rfl)
            · have hbc_42 : (w_37 (hh_rI r) 5) = nI (nh r) := hh_T_r5 hTw_37 r
              rw [hbc_42] at c_42
              have hc_42 := (nI_leI (a := nh r) (b := i) (by omega) (by omega))
              have hltc_42 : i < nh r := by exact Nat.not_le.mp (fun z => c_42 (hc_42.mpr z))
              have hbH := hnh r
              refine lv_aload_n hx hb dX5_second_45 rfl (lv_at hl 1 rfl) ?_
              refine hh_get C0 hp (C := RX5) (T := TX5) (N := 10) (ci := 5) (hh_b_r hr) (hh_E_r r) rfl hh_uX5 3 (by decide) hm_101 rfl rfl dX5_second_46 ?_
              refine lv_iload_n hx hb dX5_second_49 rfl (lv_at hl 0 rfl) ?_
              refine hh_aal C0 hp (t0 := 3) (f := (hh_hI r)) (hh_b_H hr) (hh_E_H r) rfl rfl (vp_in_nI (by omega) (by decide)) (nI_clamp (by omega)) dX5_second_50 ?_
              refine hh_cVi C0 hp (As := []) (rest := []) (C := RX1) (T := TX1) (N := 13) (ci := 1) (n := 0) (hk_X1_isIdle l D K ad hTw_37 r i hr (by omega : i < 8)) rfl (hh_b_h hr (by omega : i < 8)) (hh_E_h r (by omega : i < 8)) (hh_gV hm_164 hm_165 hm_166 hm_103 hm_38) ⟨rfl, rfl⟩ (by decide +kernel) ⟨Nat.le_of_ble_eq_true rfl, Nat.le_of_ble_eq_true rfl⟩ ⟨Nat.zero_le _, Nat.zero_le _⟩ hl.1 rfl rfl (Nat.le_of_ble_eq_true rfl) dX5_second_51 (fun q_51 v_51 H locs hv_51 hp => ?_)
              obtain ⟨eq_51, hv9⟩ := hv_51
              rw [hv9] at hp; clear hv9
              refine lv_if_eq (tgt := 77) hx hb dX5_second_54 (by decide) (fun c_54 => ?_) (fun c_54 => ?_)
              · refine lv_iinc (v := (nI (i + 1))) (lv' := [(1, .int (nI (i + 1))), (0, .ref (ad (hh_rI r)))]) hx hb dX5_second_77 hl (k := 0) rfl (nI_1 i) (by decide) rfl (fun ls hl => ?_)
                refine lv_goto (tgt := 37) hx hb dX5_second_80 (by decide) ?_
                exact ih (i + 1) w_37 _ _ _ (by omega) (by omega) (by rw [hh_fld, ← hsL_37]; show _ = hl_X5_second_37 r i w_37; unfold hl_X5_second_37; rw [hh_let_eq eq_51, if_pos c_54]) hTw_37 hp (lv_sub hl [0, 1] rfl)
              · refine lv_aload_n hx hb dX5_second_57 rfl (lv_at hl 1 rfl) ?_
                refine lv_aload_n hx hb dX5_second_58 rfl (lv_at hl 1 rfl) ?_
                refine hh_get C0 hp (C := RX5) (T := TX5) (N := 10) (ci := 5) (hh_b_r hr) (hh_E_r r) rfl hh_uX5 3 (by decide) hm_101 rfl rfl dX5_second_59 ?_
                refine lv_iload_n hx hb dX5_second_62 rfl (lv_at hl 0 rfl) ?_
                refine hh_aal C0 hp (t0 := 3) (f := (hh_hI r)) (hh_b_H hr) (hh_E_H r) rfl rfl (vp_in_nI (by omega) (by decide)) (nI_clamp (by omega)) dX5_second_63 ?_
                refine hh_cVv C0 hp (As := [.ref (ad (hh_hI r i))]) (rest := []) (C := RX5) (T := TX5) (N := 10) (ci := 5) (n := 1) (hk_X5_chooseMast l D K ad hTw_37 r i hr (by omega : i < 8)) rfl (hh_b_r hr) (hh_E_r r) (hh_gV hm_167 hm_168 hm_169 hm_128 hm_170) ⟨rfl, rfl⟩ (by decide +kernel) ⟨Nat.le_of_ble_eq_true rfl, Nat.le_of_ble_eq_true rfl⟩ ⟨Nat.zero_le _, Nat.zero_le _⟩ hl.1 rfl rfl (Nat.le_of_ble_eq_true rfl) dX5_second_64 (fun v_64 H locs hv_64 hp => ?_)
                obtain ⟨ev_64, hTv_64⟩ := hv_64
                refine lv_aload_n hx hb dX5_second_67 rfl (lv_at hl 1 rfl) ?_
                refine lv_aload_n hx hb dX5_second_68 rfl (lv_at hl 1 rfl) ?_
                refine hh_get C0 hp (C := RX5) (T := TX5) (N := 10) (ci := 5) (hh_b_r hr) (hh_E_r r) rfl hh_uX5 3 (by decide) hm_101 rfl rfl dX5_second_69 ?_
                refine lv_iload_n hx hb dX5_second_72 rfl (lv_at hl 0 rfl) ?_
                refine hh_aal C0 hp (t0 := 3) (f := (hh_hI r)) (hh_b_H hr) (hh_E_H r) rfl rfl (vp_in_nI (by omega) (by decide)) (nI_clamp (by omega)) dX5_second_73 ?_
                refine hh_cVv C0 hp (As := [.ref (ad (hh_hI r i))]) (rest := []) (C := RX5) (T := TX5) (N := 10) (ci := 5) (n := 1) (hk_X5_tellArea l D K ad hTv_64 r i hr (by omega : i < 8)) rfl (hh_b_r hr) (hh_E_r r) (hh_gV hm_172 hm_173 hm_174 hm_128 hm_175) ⟨rfl, rfl⟩ (by decide +kernel) ⟨Nat.le_of_ble_eq_true rfl, Nat.le_of_ble_eq_true rfl⟩ ⟨Nat.zero_le _, Nat.zero_le _⟩ hl.1 rfl rfl (Nat.le_of_ble_eq_true rfl) dX5_second_74 (fun v_74 H locs hv_74 hp => ?_)
                obtain ⟨ev_74, hTv_74⟩ := hv_74
                refine lv_iinc (v := (nI (i + 1))) (lv' := [(1, .int (nI (i + 1))), (0, .ref (ad (hh_rI r)))]) hx hb dX5_second_77 hl (k := 0) rfl (nI_1 i) (by decide) rfl (fun ls hl => ?_)
                refine lv_goto (tgt := 37) hx hb dX5_second_80 (by decide) ?_
                exact ih (i + 1) v_74 _ _ _ (by omega) (by omega) (by rw [hh_fld, ← hsL_37]; show _ = hl_X5_second_37 r i w_37; unfold hl_X5_second_37; rw [hh_let_eq eq_51, if_neg c_54, hh_let_eq ev_64, hh_let_eq ev_74]) hTv_74 hp (lv_sub hl [0, 1] rfl)
        exact hL_37 (nh r + 1) 0 w_12 _ _ _ (Nat.zero_le _) (by omega) rfl hTw_12 hp (lv_sub hl [0, 1] rfl)
      · have hbc_17 : (w_12 (hh_rI r) 5) = nI (nh r) := hh_T_r5 hTw_12 r
        rw [hbc_17] at c_17
        have hc_17 := (nI_leI (a := nh r) (b := i) (by omega) (by omega))
        have hltc_17 : i < nh r := by exact Nat.not_le.mp (fun z => c_17 (hc_17.mpr z))
        have hbH := hnh r
        refine lv_aload_n hx hb dX5_second_20 rfl (lv_at hl 1 rfl) ?_
        refine hh_get C0 hp (C := RX5) (T := TX5) (N := 10) (ci := 5) (hh_b_r hr) (hh_E_r r) rfl hh_uX5 3 (by decide) hm_101 rfl rfl dX5_second_21 ?_
        refine lv_iload_n hx hb dX5_second_24 rfl (lv_at hl 0 rfl) ?_
        refine hh_aal C0 hp (t0 := 3) (f := (hh_hI r)) (hh_b_H hr) (hh_E_H r) rfl rfl (vp_in_nI (by omega) (by decide)) (nI_clamp (by omega)) dX5_second_25 ?_
        refine hh_cVv C0 hp (As := []) (rest := []) (C := RX1) (T := TX1) (N := 13) (ci := 1) (n := 0) (hk_X1_move l D K ad hTw_12 r i hr (by omega : i < 8)) rfl (hh_b_h hr (by omega : i < 8)) (hh_E_h r (by omega : i < 8)) (hh_gV hm_161 hm_162 hm_163 hm_103 hm_40) ⟨rfl, rfl⟩ (by decide +kernel) ⟨Nat.le_of_ble_eq_true rfl, Nat.le_of_ble_eq_true rfl⟩ ⟨Nat.zero_le _, Nat.zero_le _⟩ hl.1 rfl rfl (Nat.le_of_ble_eq_true rfl) dX5_second_26 (fun v_26 H locs hv_26 hp => ?_)
        obtain ⟨ev_26, hTv_26⟩ := hv_26
        refine lv_iinc (v := (nI (i + 1))) (lv' := [(1, .int (nI (i + 1))), (0, .ref (ad (hh_rI r)))]) hx hb dX5_second_29 hl (k := 0) rfl (nI_1 i) (by decide) rfl (fun ls hl => ?_)
        refine lv_goto (tgt := 12) hx hb dX5_second_32 (by decide) ?_
        exact ih (i + 1) v_26 _ _ _ (by omega) (by omega) (by rw [hh_fld, ← hsL_12]; show _ = hl_X5_second_12 r i w_12; unfold hl_X5_second_12; rw [hh_let_eq ev_26]) hTv_26 hp (lv_sub hl [0, 1] rfl)
  exact hL_12 (nh r + 1) 0 v_7 _ _ _ (Nat.zero_le _) (by omega) rfl hTv_7 hp (lv_sub hl [0, 1] rfl)
def hl_X5_callsThat_4 (v : hh_M) (r : Nat) (ended : Int32) (i : Nat) (a4_2 : Int32) : Int32 := (if (v (hh_cI r i) 6) = ended then (hh_let ((a4_2 + 1) : Int32) (fun (x_25 : Int32) => x_25)) else a4_2)
def hf_X5_callsThat (v : hh_M) (r : Nat) (ended : Int32) : Int32 := (hh_let (hh_fld (fun (i9 : Nat) (z : Int32) => hl_X5_callsThat_4 v r ended i9 z) ((v (hh_rI r) 6).toNatClampNeg) 0 : Int32) (fun (a4_2 : Int32) => a4_2))
set_option maxHeartbeats 4000000 in
set_option maxRecDepth 100000 in
theorem hk_X5_callsThat (l : Launch) (D : va_G) (K : Nat → ClassId) (ad : Nat → Nat) {nm : Nat} {nh nc : Nat → Nat} {v : hh_M} (hT : hh_T nm nh nc v) (r : Nat) (ended : Int32) (hr : r < 2) : hh_Ki l D K ad yX5_callsThat (hh_wm yX5_callsThat cX5_callsThat 4 (some .int)) { frames := 0, cells := 0, slots := 0, locals := 0 } [.ref (ad (hh_rI r)), .int ended] v (fun (q : Int32) (v1 : hh_M) => q = hf_X5_callsThat v r ended ∧ v1 = v) := by
  refine hh_Ki_of (by decide) (Nat.le_of_ble_eq_true rfl) ?_
  intro p e s m args below meth c ls A C0 hp hl
  obtain ⟨hx, hb, hr9, hml, hown, hts, hK, hlk, hA⟩ := id C0
  have hnm := hT.1
  have hnh := hT.2.1
  have hnc := hT.2.2.1
  have hbHr := hnh r
  have hbCr := hnc r
  have hl : lv_has ls 4 [(0, .ref (ad (hh_rI r))), (1, .int ended)] := hl
  refine lv_iconst (v := 0) hx hb dX5_callsThat_0 (by decide) ?_
  refine lv_istore_n (lv' := [(2, .int 0), (0, .ref (ad (hh_rI r))), (1, .int ended)]) hx hb dX5_callsThat_1 rfl hl (by decide) rfl (fun ls hl => ?_)
  refine lv_iconst (v := 0) hx hb dX5_callsThat_2 (by decide) ?_
  refine lv_istore_n (lv' := [(3, .int 0), (2, .int 0), (0, .ref (ad (hh_rI r))), (1, .int ended)]) hx hb dX5_callsThat_3 rfl hl (by decide) rfl (fun ls hl => ?_)
  have hL_4 : ∀ (n i : Nat) (a4_2 : Int32) (H : Heap) (locs : List Loc) (ls : Array Slot), i ≤ nc r → nc r - i < n → a4_2 = hh_fld (fun (i9 : Nat) (z : Int32) => hl_X5_callsThat_4 v r ended i9 z) i 0 → hh_H D K ad A s.heap v H locs → lv_has ls 4 [(3, .int (nI i)), (2, .int a4_2), (0, .ref (ad (hh_rI r))), (1, .int ended)] → W p l e ({ frames := 0, cells := 0, slots := 0, locals := 0 } : Room) s m args below meth c H locs 0 0 (MQ below (va_Qi (fun (q : Int32) (v1 : hh_M) => q = hf_X5_callsThat v r ended ∧ v1 = v) (hh_B D K ad A) A) args s 0 0 A) (F0 m 4 ls []) := by
    intro n
    induction n with
    | zero => intro i a4_2 H locs ls h1 h2; omega
    | succ n ih =>
      intro i a4_2 H locs ls hii hni hsL_4 hp hl
      refine lv_iload_n hx hb dX5_callsThat_4 rfl (lv_at hl 0 rfl) ?_
      refine lv_aload_n hx hb dX5_callsThat_5 rfl (lv_at hl 2 rfl) ?_
      refine hh_get C0 hp (C := RX5) (T := TX5) (N := 10) (ci := 5) (hh_b_r hr) (hh_E_r r) rfl hh_uX5 6 (by decide) hm_112 rfl rfl dX5_callsThat_6 ?_
      refine lv_icmp_ge (tgt := 34) hx hb dX5_callsThat_9 (by decide) (fun c_9 => ?_) (fun c_9 => ?_)
      · have hbc_9 : (v (hh_rI r) 6) = nI (nc r) := hh_T_r6 hT r
        rw [hbc_9] at c_9
        have hc_9 := (nI_leI (a := nc r) (b := i) (by omega) (by omega))
        have hltc_9 : nc r ≤ i := by exact hc_9.mp c_9
        have hNL_4 : i = nc r := by omega
        rw [hNL_4] at hsL_4
        have hsL_4 : a4_2 = hh_fld (fun (i9 : Nat) (z : Int32) => hl_X5_callsThat_4 v r ended i9 z) ((v (hh_rI r) 6).toNatClampNeg) 0 := by rw [hsL_4, show (v (hh_rI r) 6).toNatClampNeg = nc r from by rw [hh_T_r6 hT r]; exact nI_clamp (by have := hnc r; omega)]
        have ea4_2 : a4_2 = hh_fld (fun (i9 : Nat) (z : Int32) => hl_X5_callsThat_4 v r ended i9 z) ((v (hh_rI r) 6).toNatClampNeg) 0 := hsL_4
        clear ih hsL_4
        refine lv_iload_n hx hb dX5_callsThat_34 rfl (lv_at hl 1 rfl) ?_
        exact hh_iret C0 hp dX5_callsThat_35 ⟨(by unfold hf_X5_callsThat; rw [hh_let_eq ea4_2]), rfl⟩
      · have hbc_9 : (v (hh_rI r) 6) = nI (nc r) := hh_T_r6 hT r
        rw [hbc_9] at c_9
        have hc_9 := (nI_leI (a := nc r) (b := i) (by omega) (by omega))
        have hltc_9 : i < nc r := by exact Nat.not_le.mp (fun z => c_9 (hc_9.mpr z))
        have hbC := hnc r
        refine lv_aload_n hx hb dX5_callsThat_12 rfl (lv_at hl 2 rfl) ?_
        refine hh_get C0 hp (C := RX5) (T := TX5) (N := 10) (ci := 5) (hh_b_r hr) (hh_E_r r) rfl hh_uX5 4 (by decide) hm_105 rfl rfl dX5_callsThat_13 ?_
        refine lv_iload_n hx hb dX5_callsThat_16 rfl (lv_at hl 0 rfl) ?_
        refine hh_aal C0 hp (t0 := 4) (f := (hh_cI r)) (hh_b_C hr) (hh_E_C r) rfl rfl (vp_in_nI (by omega) (by decide)) (nI_clamp (by omega)) dX5_callsThat_17 ?_
        refine hh_get C0 hp (C := RX0) (T := TX0) (N := 7) (ci := 0) (hh_b_c hr (by omega : i < 24)) (hh_E_c r (by omega : i < 24)) rfl hh_uX0 6 (by decide) hm_185 rfl rfl dX5_callsThat_18 ?_
        refine lv_iload_n hx hb dX5_callsThat_21 rfl (lv_at hl 3 rfl) ?_
        refine lv_icmp_ne (tgt := 28) hx hb dX5_callsThat_22 (by decide) (fun c_22 => ?_) (fun c_22 => ?_)
        · refine lv_iinc (v := (nI (i + 1))) (lv' := [(3, .int (nI (i + 1))), (2, .int a4_2), (0, .ref (ad (hh_rI r))), (1, .int ended)]) hx hb dX5_callsThat_28 hl (k := 0) rfl (nI_1 i) (by decide) rfl (fun ls hl => ?_)
          refine lv_goto (tgt := 4) hx hb dX5_callsThat_31 (by decide) ?_
          exact ih (i + 1) a4_2 _ _ _ (by omega) (by omega) (by rw [hh_fld, ← hsL_4]; show _ = hl_X5_callsThat_4 v r ended i a4_2; unfold hl_X5_callsThat_4; rw [if_neg c_22]) hp (lv_sub hl [0, 1, 2, 3] rfl)
        · obtain ⟨x_25, ex_25⟩ : ∃ z : Int32, z = (a4_2 + 1) := ⟨_, rfl⟩
          refine lv_iinc (v := x_25) (lv' := [(2, .int x_25), (3, .int (nI i)), (0, .ref (ad (hh_rI r))), (1, .int ended)]) hx hb dX5_callsThat_25 hl (k := 1) rfl (by rw [ex_25]; rfl) (by decide) rfl (fun ls hl => ?_)
          refine lv_iinc (v := (nI (i + 1))) (lv' := [(3, .int (nI (i + 1))), (2, .int x_25), (0, .ref (ad (hh_rI r))), (1, .int ended)]) hx hb dX5_callsThat_28 hl (k := 1) rfl (nI_1 i) (by decide) rfl (fun ls hl => ?_)
          refine lv_goto (tgt := 4) hx hb dX5_callsThat_31 (by decide) ?_
          exact ih (i + 1) x_25 _ _ _ (by omega) (by omega) (by rw [hh_fld, ← hsL_4]; show _ = hl_X5_callsThat_4 v r ended i a4_2; unfold hl_X5_callsThat_4; rw [if_pos c_22, hh_let_eq ex_25]) hp (lv_sub hl [0, 1, 2, 3] rfl)
  exact hL_4 (nc r + 1) 0 0 _ _ _ (Nat.zero_le _) (by omega) rfl hp (lv_sub hl [0, 1, 2, 3] rfl)
def hl_X5_sumOfCalls_4 (v : hh_M) (r : Nat) (what : Int32) (i : Nat) (a4_2 : Int32) : Int32 := (hh_let (hf_X0_fact v r i what : Int32) (fun (q_20 : Int32) => (hh_let ((a4_2 + q_20) : Int32) (fun (x_24 : Int32) => x_24))))
def hf_X5_sumOfCalls (v : hh_M) (r : Nat) (what : Int32) : Int32 := (hh_let (hh_fld (fun (i9 : Nat) (z : Int32) => hl_X5_sumOfCalls_4 v r what i9 z) ((v (hh_rI r) 6).toNatClampNeg) 0 : Int32) (fun (a4_2 : Int32) => a4_2))
set_option maxHeartbeats 4000000 in
set_option maxRecDepth 100000 in
theorem hk_X5_sumOfCalls (l : Launch) (D : va_G) (K : Nat → ClassId) (ad : Nat → Nat) {nm : Nat} {nh nc : Nat → Nat} {v : hh_M} (hT : hh_T nm nh nc v) (r : Nat) (what : Int32) (hr : r < 2) : hh_Ki l D K ad yX5_sumOfCalls (hh_wm yX5_sumOfCalls cX5_sumOfCalls 4 (some .int)) { frames := 1, cells := 0, slots := 0, locals := 21 } [.ref (ad (hh_rI r)), .int what] v (fun (q : Int32) (v1 : hh_M) => q = hf_X5_sumOfCalls v r what ∧ v1 = v) := by
  refine hh_Ki_of (by decide) (Nat.le_of_ble_eq_true rfl) ?_
  intro p e s m args below meth c ls A C0 hp hl
  obtain ⟨hx, hb, hr9, hml, hown, hts, hK, hlk, hA⟩ := id C0
  have hnm := hT.1
  have hnh := hT.2.1
  have hnc := hT.2.2.1
  have hbHr := hnh r
  have hbCr := hnc r
  have hl : lv_has ls 4 [(0, .ref (ad (hh_rI r))), (1, .int what)] := hl
  refine lv_iconst (v := 0) hx hb dX5_sumOfCalls_0 (by decide) ?_
  refine lv_istore_n (lv' := [(2, .int 0), (0, .ref (ad (hh_rI r))), (1, .int what)]) hx hb dX5_sumOfCalls_1 rfl hl (by decide) rfl (fun ls hl => ?_)
  refine lv_iconst (v := 0) hx hb dX5_sumOfCalls_2 (by decide) ?_
  refine lv_istore_n (lv' := [(3, .int 0), (2, .int 0), (0, .ref (ad (hh_rI r))), (1, .int what)]) hx hb dX5_sumOfCalls_3 rfl hl (by decide) rfl (fun ls hl => ?_)
  have hL_4 : ∀ (n i : Nat) (a4_2 : Int32) (H : Heap) (locs : List Loc) (ls : Array Slot), i ≤ nc r → nc r - i < n → a4_2 = hh_fld (fun (i9 : Nat) (z : Int32) => hl_X5_sumOfCalls_4 v r what i9 z) i 0 → hh_H D K ad A s.heap v H locs → lv_has ls 4 [(3, .int (nI i)), (2, .int a4_2), (0, .ref (ad (hh_rI r))), (1, .int what)] → W p l e ({ frames := 1, cells := 0, slots := 0, locals := 21 } : Room) s m args below meth c H locs 0 0 (MQ below (va_Qi (fun (q : Int32) (v1 : hh_M) => q = hf_X5_sumOfCalls v r what ∧ v1 = v) (hh_B D K ad A) A) args s 0 0 A) (F0 m 4 ls []) := by
    intro n
    induction n with
    | zero => intro i a4_2 H locs ls h1 h2; omega
    | succ n ih =>
      intro i a4_2 H locs ls hii hni hsL_4 hp hl
      refine lv_iload_n hx hb dX5_sumOfCalls_4 rfl (lv_at hl 0 rfl) ?_
      refine lv_aload_n hx hb dX5_sumOfCalls_5 rfl (lv_at hl 2 rfl) ?_
      refine hh_get C0 hp (C := RX5) (T := TX5) (N := 10) (ci := 5) (hh_b_r hr) (hh_E_r r) rfl hh_uX5 6 (by decide) hm_112 rfl rfl dX5_sumOfCalls_6 ?_
      refine lv_icmp_ge (tgt := 31) hx hb dX5_sumOfCalls_9 (by decide) (fun c_9 => ?_) (fun c_9 => ?_)
      · have hbc_9 : (v (hh_rI r) 6) = nI (nc r) := hh_T_r6 hT r
        rw [hbc_9] at c_9
        have hc_9 := (nI_leI (a := nc r) (b := i) (by omega) (by omega))
        have hltc_9 : nc r ≤ i := by exact hc_9.mp c_9
        have hNL_4 : i = nc r := by omega
        rw [hNL_4] at hsL_4
        have hsL_4 : a4_2 = hh_fld (fun (i9 : Nat) (z : Int32) => hl_X5_sumOfCalls_4 v r what i9 z) ((v (hh_rI r) 6).toNatClampNeg) 0 := by rw [hsL_4, show (v (hh_rI r) 6).toNatClampNeg = nc r from by rw [hh_T_r6 hT r]; exact nI_clamp (by have := hnc r; omega)]
        have ea4_2 : a4_2 = hh_fld (fun (i9 : Nat) (z : Int32) => hl_X5_sumOfCalls_4 v r what i9 z) ((v (hh_rI r) 6).toNatClampNeg) 0 := hsL_4
        clear ih hsL_4
        refine lv_iload_n hx hb dX5_sumOfCalls_31 rfl (lv_at hl 1 rfl) ?_
        exact hh_iret C0 hp dX5_sumOfCalls_32 ⟨(by unfold hf_X5_sumOfCalls; rw [hh_let_eq ea4_2]), rfl⟩
      · have hbc_9 : (v (hh_rI r) 6) = nI (nc r) := hh_T_r6 hT r
        rw [hbc_9] at c_9
        have hc_9 := (nI_leI (a := nc r) (b := i) (by omega) (by omega))
        have hltc_9 : i < nc r := by exact Nat.not_le.mp (fun z => c_9 (hc_9.mpr z))
        have hbC := hnc r
        refine lv_iload_n hx hb dX5_sumOfCalls_12 rfl (lv_at hl 1 rfl) ?_
        refine lv_aload_n hx hb dX5_sumOfCalls_13 rfl (lv_at hl 2 rfl) ?_
        refine hh_get C0 hp (C := RX5) (T := TX5) (N := 10) (ci := 5) (hh_b_r hr) (hh_E_r r) rfl hh_uX5 4 (by decide) hm_105 rfl rfl dX5_sumOfCalls_14 ?_
        refine lv_iload_n hx hb dX5_sumOfCalls_17 rfl (lv_at hl 0 rfl) ?_
        refine hh_aal C0 hp (t0 := 4) (f := (hh_cI r)) (hh_b_C hr) (hh_E_C r) rfl rfl (vp_in_nI (by omega) (by decide)) (nI_clamp (by omega)) dX5_sumOfCalls_18 ?_
        refine lv_iload_n hx hb dX5_sumOfCalls_19 rfl (lv_at hl 3 rfl) ?_
        refine hh_cVi C0 hp (As := [.int what]) (rest := [.int a4_2]) (C := RX0) (T := TX0) (N := 7) (ci := 0) (n := 1) (hk_X0_fact l D K ad hT r i what hr (by omega : i < 24)) rfl (hh_b_c hr (by omega : i < 24)) (hh_E_c r (by omega : i < 24)) (hh_gV hm_269 hm_270 hm_271 hm_107 hm_30) ⟨rfl, rfl⟩ (by decide +kernel) ⟨Nat.le_of_ble_eq_true rfl, Nat.le_of_ble_eq_true rfl⟩ ⟨Nat.zero_le _, Nat.zero_le _⟩ hl.1 rfl rfl (Nat.le_of_ble_eq_true rfl) dX5_sumOfCalls_20 (fun q_20 v_20 H locs hv_20 hp => ?_)
        obtain ⟨eq_20, hv9⟩ := hv_20
        rw [hv9] at hp; clear hv9
        refine lv_iadd hx hb dX5_sumOfCalls_23 ?_
        refine lv_topi (fun x_24 ex_24 => ?_)
        refine lv_istore_n (lv' := [(2, .int x_24), (3, .int (nI i)), (0, .ref (ad (hh_rI r))), (1, .int what)]) hx hb dX5_sumOfCalls_24 rfl hl (by decide) rfl (fun ls hl => ?_)
        refine lv_iinc (v := (nI (i + 1))) (lv' := [(3, .int (nI (i + 1))), (2, .int x_24), (0, .ref (ad (hh_rI r))), (1, .int what)]) hx hb dX5_sumOfCalls_25 hl (k := 1) rfl (nI_1 i) (by decide) rfl (fun ls hl => ?_)
        refine lv_goto (tgt := 4) hx hb dX5_sumOfCalls_28 (by decide) ?_
        exact ih (i + 1) x_24 _ _ _ (by omega) (by omega) (by rw [hh_fld, ← hsL_4]; show _ = hl_X5_sumOfCalls_4 v r what i a4_2; unfold hl_X5_sumOfCalls_4; rw [hh_let_eq eq_20, hh_let_eq ex_24]) hp (lv_sub hl [0, 1, 2, 3] rfl)
  exact hL_4 (nc r + 1) 0 0 _ _ _ (Nat.zero_le _) (by omega) rfl hp (lv_sub hl [0, 1, 2, 3] rfl)
def hl_X5_sumOfHandsets_4 (v : hh_M) (r : Nat) (what : Int32) (i : Nat) (a4_2 : Int32) : Int32 := (hh_let (hf_X1_fact v r i what : Int32) (fun (q_20 : Int32) => (hh_let ((a4_2 + q_20) : Int32) (fun (x_24 : Int32) => x_24))))
def hf_X5_sumOfHandsets (v : hh_M) (r : Nat) (what : Int32) : Int32 := (hh_let (hh_fld (fun (i9 : Nat) (z : Int32) => hl_X5_sumOfHandsets_4 v r what i9 z) ((v (hh_rI r) 5).toNatClampNeg) 0 : Int32) (fun (a4_2 : Int32) => a4_2))
set_option maxHeartbeats 4000000 in
set_option maxRecDepth 100000 in
theorem hk_X5_sumOfHandsets (l : Launch) (D : va_G) (K : Nat → ClassId) (ad : Nat → Nat) {nm : Nat} {nh nc : Nat → Nat} {v : hh_M} (hT : hh_T nm nh nc v) (r : Nat) (what : Int32) (hr : r < 2) : hh_Ki l D K ad yX5_sumOfHandsets (hh_wm yX5_sumOfHandsets cX5_sumOfHandsets 4 (some .int)) { frames := 1, cells := 0, slots := 0, locals := 21 } [.ref (ad (hh_rI r)), .int what] v (fun (q : Int32) (v1 : hh_M) => q = hf_X5_sumOfHandsets v r what ∧ v1 = v) := by
  refine hh_Ki_of (by decide) (Nat.le_of_ble_eq_true rfl) ?_
  intro p e s m args below meth c ls A C0 hp hl
  obtain ⟨hx, hb, hr9, hml, hown, hts, hK, hlk, hA⟩ := id C0
  have hnm := hT.1
  have hnh := hT.2.1
  have hnc := hT.2.2.1
  have hbHr := hnh r
  have hbCr := hnc r
  have hl : lv_has ls 4 [(0, .ref (ad (hh_rI r))), (1, .int what)] := hl
  refine lv_iconst (v := 0) hx hb dX5_sumOfHandsets_0 (by decide) ?_
  refine lv_istore_n (lv' := [(2, .int 0), (0, .ref (ad (hh_rI r))), (1, .int what)]) hx hb dX5_sumOfHandsets_1 rfl hl (by decide) rfl (fun ls hl => ?_)
  refine lv_iconst (v := 0) hx hb dX5_sumOfHandsets_2 (by decide) ?_
  refine lv_istore_n (lv' := [(3, .int 0), (2, .int 0), (0, .ref (ad (hh_rI r))), (1, .int what)]) hx hb dX5_sumOfHandsets_3 rfl hl (by decide) rfl (fun ls hl => ?_)
  have hL_4 : ∀ (n i : Nat) (a4_2 : Int32) (H : Heap) (locs : List Loc) (ls : Array Slot), i ≤ nh r → nh r - i < n → a4_2 = hh_fld (fun (i9 : Nat) (z : Int32) => hl_X5_sumOfHandsets_4 v r what i9 z) i 0 → hh_H D K ad A s.heap v H locs → lv_has ls 4 [(3, .int (nI i)), (2, .int a4_2), (0, .ref (ad (hh_rI r))), (1, .int what)] → W p l e ({ frames := 1, cells := 0, slots := 0, locals := 21 } : Room) s m args below meth c H locs 0 0 (MQ below (va_Qi (fun (q : Int32) (v1 : hh_M) => q = hf_X5_sumOfHandsets v r what ∧ v1 = v) (hh_B D K ad A) A) args s 0 0 A) (F0 m 4 ls []) := by
    intro n
    induction n with
    | zero => intro i a4_2 H locs ls h1 h2; omega
    | succ n ih =>
      intro i a4_2 H locs ls hii hni hsL_4 hp hl
      refine lv_iload_n hx hb dX5_sumOfHandsets_4 rfl (lv_at hl 0 rfl) ?_
      refine lv_aload_n hx hb dX5_sumOfHandsets_5 rfl (lv_at hl 2 rfl) ?_
      refine hh_get C0 hp (C := RX5) (T := TX5) (N := 10) (ci := 5) (hh_b_r hr) (hh_E_r r) rfl hh_uX5 5 (by decide) hm_111 rfl rfl dX5_sumOfHandsets_6 ?_
      refine lv_icmp_ge (tgt := 31) hx hb dX5_sumOfHandsets_9 (by decide) (fun c_9 => ?_) (fun c_9 => ?_)
      · have hbc_9 : (v (hh_rI r) 5) = nI (nh r) := hh_T_r5 hT r
        rw [hbc_9] at c_9
        have hc_9 := (nI_leI (a := nh r) (b := i) (by omega) (by omega))
        have hltc_9 : nh r ≤ i := by exact hc_9.mp c_9
        have hNL_4 : i = nh r := by omega
        rw [hNL_4] at hsL_4
        have hsL_4 : a4_2 = hh_fld (fun (i9 : Nat) (z : Int32) => hl_X5_sumOfHandsets_4 v r what i9 z) ((v (hh_rI r) 5).toNatClampNeg) 0 := by rw [hsL_4, show (v (hh_rI r) 5).toNatClampNeg = nh r from by rw [hh_T_r5 hT r]; exact nI_clamp (by have := hnh r; omega)]
        have ea4_2 : a4_2 = hh_fld (fun (i9 : Nat) (z : Int32) => hl_X5_sumOfHandsets_4 v r what i9 z) ((v (hh_rI r) 5).toNatClampNeg) 0 := hsL_4
        clear ih hsL_4
        refine lv_iload_n hx hb dX5_sumOfHandsets_31 rfl (lv_at hl 1 rfl) ?_
        exact hh_iret C0 hp dX5_sumOfHandsets_32 ⟨(by unfold hf_X5_sumOfHandsets; rw [hh_let_eq ea4_2]), rfl⟩
      · have hbc_9 : (v (hh_rI r) 5) = nI (nh r) := hh_T_r5 hT r
        rw [hbc_9] at c_9
        have hc_9 := (nI_leI (a := nh r) (b := i) (by omega) (by omega))
        have hltc_9 : i < nh r := by exact Nat.not_le.mp (fun z => c_9 (hc_9.mpr z))
        have hbH := hnh r
        refine lv_iload_n hx hb dX5_sumOfHandsets_12 rfl (lv_at hl 1 rfl) ?_
        refine lv_aload_n hx hb dX5_sumOfHandsets_13 rfl (lv_at hl 2 rfl) ?_
        refine hh_get C0 hp (C := RX5) (T := TX5) (N := 10) (ci := 5) (hh_b_r hr) (hh_E_r r) rfl hh_uX5 3 (by decide) hm_101 rfl rfl dX5_sumOfHandsets_14 ?_
        refine lv_iload_n hx hb dX5_sumOfHandsets_17 rfl (lv_at hl 0 rfl) ?_
        refine hh_aal C0 hp (t0 := 3) (f := (hh_hI r)) (hh_b_H hr) (hh_E_H r) rfl rfl (vp_in_nI (by omega) (by decide)) (nI_clamp (by omega)) dX5_sumOfHandsets_18 ?_
        refine lv_iload_n hx hb dX5_sumOfHandsets_19 rfl (lv_at hl 3 rfl) ?_
        refine hh_cVi C0 hp (As := [.int what]) (rest := [.int a4_2]) (C := RX1) (T := TX1) (N := 13) (ci := 1) (n := 1) (hk_X1_fact l D K ad hT r i what hr (by omega : i < 8)) rfl (hh_b_h hr (by omega : i < 8)) (hh_E_h r (by omega : i < 8)) (hh_gV hm_273 hm_274 hm_275 hm_103 hm_51) ⟨rfl, rfl⟩ (by decide +kernel) ⟨Nat.le_of_ble_eq_true rfl, Nat.le_of_ble_eq_true rfl⟩ ⟨Nat.zero_le _, Nat.zero_le _⟩ hl.1 rfl rfl (Nat.le_of_ble_eq_true rfl) dX5_sumOfHandsets_20 (fun q_20 v_20 H locs hv_20 hp => ?_)
        obtain ⟨eq_20, hv9⟩ := hv_20
        rw [hv9] at hp; clear hv9
        refine lv_iadd hx hb dX5_sumOfHandsets_23 ?_
        refine lv_topi (fun x_24 ex_24 => ?_)
        refine lv_istore_n (lv' := [(2, .int x_24), (3, .int (nI i)), (0, .ref (ad (hh_rI r))), (1, .int what)]) hx hb dX5_sumOfHandsets_24 rfl hl (by decide) rfl (fun ls hl => ?_)
        refine lv_iinc (v := (nI (i + 1))) (lv' := [(3, .int (nI (i + 1))), (2, .int x_24), (0, .ref (ad (hh_rI r))), (1, .int what)]) hx hb dX5_sumOfHandsets_25 hl (k := 1) rfl (nI_1 i) (by decide) rfl (fun ls hl => ?_)
        refine lv_goto (tgt := 4) hx hb dX5_sumOfHandsets_28 (by decide) ?_
        exact ih (i + 1) x_24 _ _ _ (by omega) (by omega) (by rw [hh_fld, ← hsL_4]; show _ = hl_X5_sumOfHandsets_4 v r what i a4_2; unfold hl_X5_sumOfHandsets_4; rw [hh_let_eq eq_20, hh_let_eq ex_24]) hp (lv_sub hl [0, 1, 2, 3] rfl)
  exact hL_4 (nh r + 1) 0 0 _ _ _ (Nat.zero_le _) (by omega) rfl hp (lv_sub hl [0, 1, 2, 3] rfl)
def hl_X5_campersOn_4 (v : hh_M) (r : Nat) (mast : Int32) (i : Nat) (a4_2 : Int32) : Int32 := (hh_let (hf_X1_isIdle v r i : Int32) (fun (q_18 : Int32) => (if q_18 = 0 then a4_2 else (if (v (hh_hI r i) 5) = mast then (hh_let ((a4_2 + 1) : Int32) (fun (x_37 : Int32) => x_37)) else a4_2))))
def hf_X5_campersOn (v : hh_M) (r : Nat) (mast : Int32) : Int32 := (hh_let (hh_fld (fun (i9 : Nat) (z : Int32) => hl_X5_campersOn_4 v r mast i9 z) ((v (hh_rI r) 5).toNatClampNeg) 0 : Int32) (fun (a4_2 : Int32) => a4_2))
set_option maxHeartbeats 4000000 in
set_option maxRecDepth 100000 in
theorem hk_X5_campersOn (l : Launch) (D : va_G) (K : Nat → ClassId) (ad : Nat → Nat) {nm : Nat} {nh nc : Nat → Nat} {v : hh_M} (hT : hh_T nm nh nc v) (r : Nat) (mast : Int32) (hr : r < 2) : hh_Ki l D K ad yX5_campersOn (hh_wm yX5_campersOn cX5_campersOn 4 (some .int)) { frames := 1, cells := 0, slots := 0, locals := 20 } [.ref (ad (hh_rI r)), .int mast] v (fun (q : Int32) (v1 : hh_M) => q = hf_X5_campersOn v r mast ∧ v1 = v) := by
  refine hh_Ki_of (by decide) (Nat.le_of_ble_eq_true rfl) ?_
  intro p e s m args below meth c ls A C0 hp hl
  obtain ⟨hx, hb, hr9, hml, hown, hts, hK, hlk, hA⟩ := id C0
  have hnm := hT.1
  have hnh := hT.2.1
  have hnc := hT.2.2.1
  have hbHr := hnh r
  have hbCr := hnc r
  have hl : lv_has ls 4 [(0, .ref (ad (hh_rI r))), (1, .int mast)] := hl
  refine lv_iconst (v := 0) hx hb dX5_campersOn_0 (by decide) ?_
  refine lv_istore_n (lv' := [(2, .int 0), (0, .ref (ad (hh_rI r))), (1, .int mast)]) hx hb dX5_campersOn_1 rfl hl (by decide) rfl (fun ls hl => ?_)
  refine lv_iconst (v := 0) hx hb dX5_campersOn_2 (by decide) ?_
  refine lv_istore_n (lv' := [(3, .int 0), (2, .int 0), (0, .ref (ad (hh_rI r))), (1, .int mast)]) hx hb dX5_campersOn_3 rfl hl (by decide) rfl (fun ls hl => ?_)
  have hL_4 : ∀ (n i : Nat) (a4_2 : Int32) (H : Heap) (locs : List Loc) (ls : Array Slot), i ≤ nh r → nh r - i < n → a4_2 = hh_fld (fun (i9 : Nat) (z : Int32) => hl_X5_campersOn_4 v r mast i9 z) i 0 → hh_H D K ad A s.heap v H locs → lv_has ls 4 [(3, .int (nI i)), (2, .int a4_2), (0, .ref (ad (hh_rI r))), (1, .int mast)] → W p l e ({ frames := 1, cells := 0, slots := 0, locals := 20 } : Room) s m args below meth c H locs 0 0 (MQ below (va_Qi (fun (q : Int32) (v1 : hh_M) => q = hf_X5_campersOn v r mast ∧ v1 = v) (hh_B D K ad A) A) args s 0 0 A) (F0 m 4 ls []) := by
    intro n
    induction n with
    | zero => intro i a4_2 H locs ls h1 h2; omega
    | succ n ih =>
      intro i a4_2 H locs ls hii hni hsL_4 hp hl
      refine lv_iload_n hx hb dX5_campersOn_4 rfl (lv_at hl 0 rfl) ?_
      refine lv_aload_n hx hb dX5_campersOn_5 rfl (lv_at hl 2 rfl) ?_
      refine hh_get C0 hp (C := RX5) (T := TX5) (N := 10) (ci := 5) (hh_b_r hr) (hh_E_r r) rfl hh_uX5 5 (by decide) hm_111 rfl rfl dX5_campersOn_6 ?_
      refine lv_icmp_ge (tgt := 46) hx hb dX5_campersOn_9 (by decide) (fun c_9 => ?_) (fun c_9 => ?_)
      · have hbc_9 : (v (hh_rI r) 5) = nI (nh r) := hh_T_r5 hT r
        rw [hbc_9] at c_9
        have hc_9 := (nI_leI (a := nh r) (b := i) (by omega) (by omega))
        have hltc_9 : nh r ≤ i := by exact hc_9.mp c_9
        have hNL_4 : i = nh r := by omega
        rw [hNL_4] at hsL_4
        have hsL_4 : a4_2 = hh_fld (fun (i9 : Nat) (z : Int32) => hl_X5_campersOn_4 v r mast i9 z) ((v (hh_rI r) 5).toNatClampNeg) 0 := by rw [hsL_4, show (v (hh_rI r) 5).toNatClampNeg = nh r from by rw [hh_T_r5 hT r]; exact nI_clamp (by have := hnh r; omega)]
        have ea4_2 : a4_2 = hh_fld (fun (i9 : Nat) (z : Int32) => hl_X5_campersOn_4 v r mast i9 z) ((v (hh_rI r) 5).toNatClampNeg) 0 := hsL_4
        clear ih hsL_4
        refine lv_iload_n hx hb dX5_campersOn_46 rfl (lv_at hl 1 rfl) ?_
        exact hh_iret C0 hp dX5_campersOn_47 ⟨(by unfold hf_X5_campersOn; rw [hh_let_eq ea4_2]), rfl⟩
      · have hbc_9 : (v (hh_rI r) 5) = nI (nh r) := hh_T_r5 hT r
        rw [hbc_9] at c_9
        have hc_9 := (nI_leI (a := nh r) (b := i) (by omega) (by omega))
        have hltc_9 : i < nh r := by exact Nat.not_le.mp (fun z => c_9 (hc_9.mpr z))
        have hbH := hnh r
        refine lv_aload_n hx hb dX5_campersOn_12 rfl (lv_at hl 2 rfl) ?_
        refine hh_get C0 hp (C := RX5) (T := TX5) (N := 10) (ci := 5) (hh_b_r hr) (hh_E_r r) rfl hh_uX5 3 (by decide) hm_101 rfl rfl dX5_campersOn_13 ?_
        refine lv_iload_n hx hb dX5_campersOn_16 rfl (lv_at hl 0 rfl) ?_
        refine hh_aal C0 hp (t0 := 3) (f := (hh_hI r)) (hh_b_H hr) (hh_E_H r) rfl rfl (vp_in_nI (by omega) (by decide)) (nI_clamp (by omega)) dX5_campersOn_17 ?_
        refine hh_cVi C0 hp (As := []) (rest := []) (C := RX1) (T := TX1) (N := 13) (ci := 1) (n := 0) (hk_X1_isIdle l D K ad hT r i hr (by omega : i < 8)) rfl (hh_b_h hr (by omega : i < 8)) (hh_E_h r (by omega : i < 8)) (hh_gV hm_164 hm_165 hm_166 hm_103 hm_38) ⟨rfl, rfl⟩ (by decide +kernel) ⟨Nat.le_of_ble_eq_true rfl, Nat.le_of_ble_eq_true rfl⟩ ⟨Nat.zero_le _, Nat.zero_le _⟩ hl.1 rfl rfl (Nat.le_of_ble_eq_true rfl) dX5_campersOn_18 (fun q_18 v_18 H locs hv_18 hp => ?_)
        obtain ⟨eq_18, hv9⟩ := hv_18
        rw [hv9] at hp; clear hv9
        refine lv_if_eq (tgt := 40) hx hb dX5_campersOn_21 (by decide) (fun c_21 => ?_) (fun c_21 => ?_)
        · refine lv_iinc (v := (nI (i + 1))) (lv' := [(3, .int (nI (i + 1))), (2, .int a4_2), (0, .ref (ad (hh_rI r))), (1, .int mast)]) hx hb dX5_campersOn_40 hl (k := 0) rfl (nI_1 i) (by decide) rfl (fun ls hl => ?_)
          refine lv_goto (tgt := 4) hx hb dX5_campersOn_43 (by decide) ?_
          exact ih (i + 1) a4_2 _ _ _ (by omega) (by omega) (by rw [hh_fld, ← hsL_4]; show _ = hl_X5_campersOn_4 v r mast i a4_2; unfold hl_X5_campersOn_4; rw [hh_let_eq eq_18, if_pos c_21]) hp (lv_sub hl [0, 1, 2, 3] rfl)
        · refine lv_aload_n hx hb dX5_campersOn_24 rfl (lv_at hl 2 rfl) ?_
          refine hh_get C0 hp (C := RX5) (T := TX5) (N := 10) (ci := 5) (hh_b_r hr) (hh_E_r r) rfl hh_uX5 3 (by decide) hm_101 rfl rfl dX5_campersOn_25 ?_
          refine lv_iload_n hx hb dX5_campersOn_28 rfl (lv_at hl 0 rfl) ?_
          refine hh_aal C0 hp (t0 := 3) (f := (hh_hI r)) (hh_b_H hr) (hh_E_H r) rfl rfl (vp_in_nI (by omega) (by decide)) (nI_clamp (by omega)) dX5_campersOn_29 ?_
          refine hh_get C0 hp (C := RX1) (T := TX1) (N := 13) (ci := 1) (hh_b_h hr (by omega : i < 8)) (hh_E_h r (by omega : i < 8)) rfl hh_uX1 5 (by decide) hm_140 rfl rfl dX5_campersOn_30 ?_
          refine lv_iload_n hx hb dX5_campersOn_33 rfl (lv_at hl 3 rfl) ?_
          refine lv_icmp_ne (tgt := 40) hx hb dX5_campersOn_34 (by decide) (fun c_34 => ?_) (fun c_34 => ?_)
          · refine lv_iinc (v := (nI (i + 1))) (lv' := [(3, .int (nI (i + 1))), (2, .int a4_2), (0, .ref (ad (hh_rI r))), (1, .int mast)]) hx hb dX5_campersOn_40 hl (k := 0) rfl (nI_1 i) (by decide) rfl (fun ls hl => ?_)
            refine lv_goto (tgt := 4) hx hb dX5_campersOn_43 (by decide) ?_
            exact ih (i + 1) a4_2 _ _ _ (by omega) (by omega) (by rw [hh_fld, ← hsL_4]; show _ = hl_X5_campersOn_4 v r mast i a4_2; unfold hl_X5_campersOn_4; rw [hh_let_eq eq_18, if_neg c_21, if_neg c_34]) hp (lv_sub hl [0, 1, 2, 3] rfl)
          · obtain ⟨x_37, ex_37⟩ : ∃ z : Int32, z = (a4_2 + 1) := ⟨_, rfl⟩
            refine lv_iinc (v := x_37) (lv' := [(2, .int x_37), (3, .int (nI i)), (0, .ref (ad (hh_rI r))), (1, .int mast)]) hx hb dX5_campersOn_37 hl (k := 1) rfl (by rw [ex_37]; rfl) (by decide) rfl (fun ls hl => ?_)
            refine lv_iinc (v := (nI (i + 1))) (lv' := [(3, .int (nI (i + 1))), (2, .int x_37), (0, .ref (ad (hh_rI r))), (1, .int mast)]) hx hb dX5_campersOn_40 hl (k := 1) rfl (nI_1 i) (by decide) rfl (fun ls hl => ?_)
            refine lv_goto (tgt := 4) hx hb dX5_campersOn_43 (by decide) ?_
            exact ih (i + 1) x_37 _ _ _ (by omega) (by omega) (by rw [hh_fld, ← hsL_4]; show _ = hl_X5_campersOn_4 v r mast i a4_2; unfold hl_X5_campersOn_4; rw [hh_let_eq eq_18, if_neg c_21, if_pos c_34, hh_let_eq ex_37]) hp (lv_sub hl [0, 1, 2, 3] rfl)
  exact hL_4 (nh r + 1) 0 0 _ _ _ (Nat.zero_le _) (by omega) rfl hp (lv_sub hl [0, 1, 2, 3] rfl)
end
section
/-! 14.tryCall: laid by program (wip/gen/mk10.py) -/
def hf_X5_join (v : hh_M) (r : Nat) (i : Nat) (g : Nat) (handset : Int32) : hh_M := (hh_let (hh_up v (hh_gI r i g) 0 handset : hh_M) (fun (v_2 : hh_M) => (hh_let (hh_up v_2 (hh_gI r i g) 1 (v_2 (hh_hI r handset.toNatClampNeg) 5) : hh_M) (fun (v_15 : hh_M) => (hh_let (hh_up v_15 (hh_lI r) ((v_15 (hh_gI r i g) 1).toNatClampNeg) ((v_15 (hh_lI r) ((v_15 (hh_gI r i g) 1).toNatClampNeg)) + 1) : hh_M) (fun (v_30 : hh_M) => (hh_let (hh_up v_30 (hh_hI r handset.toNatClampNeg) 6 (v_30 (hh_rI r) 6) : hh_M) (fun (v_41 : hh_M) => v_41))))))))
set_option maxHeartbeats 4000000 in
set_option maxRecDepth 100000 in
theorem hk_X5_join (l : Launch) (D : va_G) (K : Nat → ClassId) (ad : Nat → Nat) {nm : Nat} {nh nc : Nat → Nat} {v : hh_M} (hT : hh_T nm nh nc v) (r : Nat) (i : Nat) (g : Nat) (handset : Int32) (hr : r < 2) (hi : i < 24) (hg : g < 2) (hh8 : vp_in handset 8) (hmu : ¬ v (hh_hI r handset.toNatClampNeg) 5 = -1) (hc24 : nc r < 24) : hh_Kv l D K ad yX5_join (hh_wm yX5_join cX5_join 3 none) { frames := 0, cells := 0, slots := 0, locals := 0 } [.ref (ad (hh_rI r)), .ref (ad (hh_gI r i g)), .int handset] v (fun (v1 : hh_M) => v1 = hf_X5_join v r i g handset ∧ hh_T nm nh nc v1 ∧ (∀ h, h < 8 → v1 (hh_hI r h) 5 = v (hh_hI r h) 5)) := by
  refine hh_Kv_of (by decide) (Nat.le_of_ble_eq_true rfl) ?_
  intro p e s m args below meth c ls A C0 hp hl
  obtain ⟨hx, hb, hr9, hml, hown, hts, hK, hlk, hA⟩ := id C0
  have hnm := hT.1
  have hnh := hT.2.1
  have hnc := hT.2.2.1
  have hbHr := hnh r
  have hbCr := hnc r
  have hl : lv_has ls 3 [(0, .ref (ad (hh_rI r))), (1, .ref (ad (hh_gI r i g))), (2, .int handset)] := hl
  refine lv_aload_n hx hb dX5_join_0 rfl (lv_at hl 1 rfl) ?_
  refine lv_iload_n hx hb dX5_join_1 rfl (lv_at hl 2 rfl) ?_
  refine hh_put C0 hp (C := RX2) (T := TX2) (N := 6) (ci := 2) (k := 0) (ty := .int) (hh_b_g hr hi hg) (hh_E_g r hi hg) (hh_pg0 r hi hg) rfl hh_uX2 tyX2_ok nmX2 (by decide) hm_186 rfl rfl (by decide +kernel) rfl rfl (Nat.le_of_ble_eq_true rfl) dX5_join_2 (fun H locs hp => ?_)
  obtain ⟨v_2, ev_2⟩ : ∃ z : hh_M, z = hh_up v (hh_gI r i g) 0 handset := ⟨_, rfl⟩
  rw [← ev_2] at hp
  have hTv_2 : hh_T nm nh nc v_2 := by rw [ev_2]; exact hh_T_up hT (hh_R_g0 hr hi hg (hh_of_in hh8 (by decide)))
  refine lv_aload_n hx hb dX5_join_5 rfl (lv_at hl 1 rfl) ?_
  refine lv_aload_n hx hb dX5_join_6 rfl (lv_at hl 0 rfl) ?_
  refine hh_get C0 hp (C := RX5) (T := TX5) (N := 10) (ci := 5) (hh_b_r hr) (hh_E_r r) rfl hh_uX5 3 (by decide) hm_101 rfl rfl dX5_join_7 ?_
  refine lv_iload_n hx hb dX5_join_10 rfl (lv_at hl 2 rfl) ?_
  have hin_11 : vp_in handset 8 := by assumption
  refine hh_aal C0 hp (t0 := 3) (f := (hh_hI r)) (hh_b_H hr) (hh_E_H r) rfl rfl hin_11 rfl dX5_join_11 ?_
  refine hh_get C0 hp (C := RX1) (T := TX1) (N := 13) (ci := 1) (hh_b_h hr (hh_lt hin_11)) (hh_E_h r (hh_lt hin_11)) rfl hh_uX1 5 (by decide) hm_140 rfl rfl dX5_join_12 ?_
  refine hh_put C0 hp (C := RX2) (T := TX2) (N := 6) (ci := 2) (k := 1) (ty := .int) (hh_b_g hr hi hg) (hh_E_g r hi hg) (hh_pg1 r hi hg) rfl hh_uX2 tyX2_ok nmX2 (by decide) hm_187 rfl rfl (by decide +kernel) rfl rfl (Nat.le_of_ble_eq_true rfl) dX5_join_15 (fun H locs hp => ?_)
  obtain ⟨v_15, ev_15⟩ : ∃ z : hh_M, z = hh_up v_2 (hh_gI r i g) 1 (v_2 (hh_hI r handset.toNatClampNeg) 5) := ⟨_, rfl⟩
  rw [← ev_15] at hp
  have hTv_15 : hh_T nm nh nc v_15 := by rw [ev_15]; exact hh_T_up hTv_2 (hh_R_g1 hr hi hg (hh_T_h5 hTv_2 r (hh_lt hin_11)))
  have hin15 : vp_in (v_15 (hh_gI r i g) 1) 6 := by rw [ev_15, hh_ups, ev_2, hh_upx (by decide : (5 : Nat) ≠ 0)]; exact hh_in (hh_T_h5 hT r (hh_lt hh8)) hmu (by omega) (by decide)
  refine lv_aload_n hx hb dX5_join_18 rfl (lv_at hl 0 rfl) ?_
  refine hh_get C0 hp (C := RX5) (T := TX5) (N := 10) (ci := 5) (hh_b_r hr) (hh_E_r r) rfl hh_uX5 1 (by decide) hm_98 rfl rfl dX5_join_19 ?_
  refine lv_aload_n hx hb dX5_join_22 rfl (lv_at hl 1 rfl) ?_
  refine hh_get C0 hp (C := RX2) (T := TX2) (N := 6) (ci := 2) (hh_b_g hr hi hg) (hh_E_g r hi hg) rfl hh_uX2 1 (by decide) hm_187 rfl rfl dX5_join_23 ?_
  refine lv_dup2_11 hx hb dX5_join_26 rfl rfl ?_
  have hin_27 : vp_in (v_15 (hh_gI r i g) 1) 6 := by assumption
  refine hh_ial C0 hp (hh_b_l hr) (hh_E_l r) hin_27 rfl dX5_join_27 ?_
  refine lv_iconst (v := 1) hx hb dX5_join_28 (by decide) ?_
  refine lv_iadd hx hb dX5_join_29 ?_
  have hin_30 : vp_in (v_15 (hh_gI r i g) 1) 6 := by assumption
  refine hh_ias C0 hp (hh_b_l hr) (fun _ => (hh_E_l r)) hin_30 rfl dX5_join_30 (fun H locs hp => ?_)
  obtain ⟨v_30, ev_30⟩ : ∃ z : hh_M, z = hh_up v_15 (hh_lI r) ((v_15 (hh_gI r i g) 1).toNatClampNeg) ((v_15 (hh_lI r) ((v_15 (hh_gI r i g) 1).toNatClampNeg)) + 1) := ⟨_, rfl⟩
  rw [← ev_30] at hp
  have hTv_30 : hh_T nm nh nc v_30 := by rw [ev_30]; exact hh_T_up hTv_15 (hh_Rt_l hr)
  refine lv_aload_n hx hb dX5_join_31 rfl (lv_at hl 0 rfl) ?_
  refine hh_get C0 hp (C := RX5) (T := TX5) (N := 10) (ci := 5) (hh_b_r hr) (hh_E_r r) rfl hh_uX5 3 (by decide) hm_101 rfl rfl dX5_join_32 ?_
  refine lv_iload_n hx hb dX5_join_35 rfl (lv_at hl 2 rfl) ?_
  have hin_36 : vp_in handset 8 := by assumption
  refine hh_aal C0 hp (t0 := 3) (f := (hh_hI r)) (hh_b_H hr) (hh_E_H r) rfl rfl hin_36 rfl dX5_join_36 ?_
  refine lv_aload_n hx hb dX5_join_37 rfl (lv_at hl 0 rfl) ?_
  refine hh_get C0 hp (C := RX5) (T := TX5) (N := 10) (ci := 5) (hh_b_r hr) (hh_E_r r) rfl hh_uX5 6 (by decide) hm_112 rfl rfl dX5_join_38 ?_
  refine hh_put C0 hp (C := RX1) (T := TX1) (N := 13) (ci := 1) (k := 6) (ty := .int) (hh_b_h hr (hh_lt hin_36)) (hh_E_h r (hh_lt hin_36)) (hh_ph6 r (hh_lt hin_36)) rfl hh_uX1 tyX1_ok nmX1 (by decide) hm_224 rfl rfl (by decide +kernel) rfl rfl (Nat.le_of_ble_eq_true rfl) dX5_join_41 (fun H locs hp => ?_)
  obtain ⟨v_41, ev_41⟩ : ∃ z : hh_M, z = hh_up v_30 (hh_hI r handset.toNatClampNeg) 6 (v_30 (hh_rI r) 6) := ⟨_, rfl⟩
  rw [← ev_41] at hp
  have hTv_41 : hh_T nm nh nc v_41 := by rw [ev_41]; exact hh_T_up hTv_30 (hh_R_h6 hr (hh_lt hin_36) (by rw [hh_T_r6 hTv_30 r]; exact hh_rg hc24 (by decide)))
  exact hh_vret C0 hp dX5_join_44 ⟨(by show _ = _; unfold hf_X5_join; rw [hh_let_eq ev_2, hh_let_eq ev_15, hh_let_eq ev_30, hh_let_eq ev_41]), hTv_41, (by intro h h8; rw [ev_41, hh_upx (by decide : (5 : Nat) ≠ 6), ev_30, hh_upj (hh_ne_hl hr hr h8), ev_15, hh_upx (by decide : (5 : Nat) ≠ 1), ev_2, hh_upx (by decide : (5 : Nat) ≠ 0)])⟩
def hf_X5_tryCall (v : hh_M) (r : Nat) (from_ : Int32) (to_ : Int32) : Int32 × hh_M := (hh_let (hf_X1_isIdle v r from_.toNatClampNeg : Int32) (fun (q_16 : Int32) => (if q_16 = 0 then ((-2), v) else (if (v (hh_hI r from_.toNatClampNeg) 5) = (-1) then ((-2), v) else (hh_let ((hf_X5_page v r to_.toNatClampNeg).1 : Int32) (fun (q_36 : Int32) => (hh_let ((hf_X5_page v r to_.toNatClampNeg).2 : hh_M) (fun (v_36 : hh_M) => (if q_36 = 0 then ((-3), v_36) else (hh_let (hf_X1_isIdle v_36 r to_.toNatClampNeg : Int32) (fun (q_47 : Int32) => (if q_47 = 0 then ((-4), v_36) else (hh_let ((if (v_36 (hh_hI r from_.toNatClampNeg) 5) = (v_36 (hh_hI r to_.toNatClampNeg) 5) then (hh_let (hf_X5_hasFreeChannels v_36 r (v_36 (hh_hI r from_.toNatClampNeg) 5) 2 : Int32) (fun (q_74 : Int32) => q_74)) else (hh_let (hf_X5_hasFreeChannels v_36 r (v_36 (hh_hI r from_.toNatClampNeg) 5) 1 : Int32) (fun (q_86 : Int32) => (if q_86 = 0 then 0 else (hh_let (hf_X5_hasFreeChannels v_36 r (v_36 (hh_hI r to_.toNatClampNeg) 5) 1 : Int32) (fun (q_99 : Int32) => (if q_99 = 0 then 0 else 1))))))) : Int32) (fun (j110_0 : Int32) => (if j110_0 = 0 then ((-5), v_36) else (if 3 ≤ (v_36 (hh_hI r from_.toNatClampNeg) 3) then (hh_let (hf_X5_join v_36 r ((v_36 (hh_rI r) 6).toNatClampNeg) 0 from_ : hh_M) (fun (v_145 : hh_M) => (hh_let (hf_X5_join v_145 r ((v_145 (hh_rI r) 6).toNatClampNeg) 1 to_ : hh_M) (fun (v_162 : hh_M) => (hh_let (hh_up v_162 (hh_rI r) 6 ((v_162 (hh_rI r) 6) + 1) : hh_M) (fun (v_172 : hh_M) => (((v_172 (hh_rI r) 6) - 1), v_172))))))) else ((-6), v_36)))))))))))))))))
set_option maxHeartbeats 4000000 in
set_option maxRecDepth 100000 in
theorem hk_X5_tryCall (l : Launch) (D : va_G) (K : Nat → ClassId) (ad : Nat → Nat) {nm : Nat} {nh nc : Nat → Nat} {v : hh_M} (hT : hh_T nm nh nc v) (r : Nat) (from_ : Int32) (to_ : Int32) (hr : r < 2) (hf8 : vp_in from_ 8) (ht8 : vp_in to_ 8) (hc24 : nc r < 24) : hh_Ki l D K ad yX5_tryCall (hh_wm yX5_tryCall cX5_tryCall 6 (some .int)) { frames := 2, cells := 0, slots := 0, locals := 45 } [.ref (ad (hh_rI r)), .int from_, .int to_] v (fun (q : Int32) (v1 : hh_M) => (q, v1) = hf_X5_tryCall v r from_ to_ ∧ ∃ nc1, hh_T nm nh nc1 v1) := by
  refine hh_Ki_of (by decide) (Nat.le_of_ble_eq_true rfl) ?_
  intro p e s m args below meth c ls A C0 hp hl
  obtain ⟨hx, hb, hr9, hml, hown, hts, hK, hlk, hA⟩ := id C0
  have hnm := hT.1
  have hnh := hT.2.1
  have hnc := hT.2.2.1
  have hbHr := hnh r
  have hbCr := hnc r
  have hl : lv_has ls 6 [(0, .ref (ad (hh_rI r))), (1, .int from_), (2, .int to_)] := hl
  refine lv_aload_n hx hb dX5_tryCall_0 rfl (lv_at hl 0 rfl) ?_
  refine hh_get C0 hp (C := RX5) (T := TX5) (N := 10) (ci := 5) (hh_b_r hr) (hh_E_r r) rfl hh_uX5 3 (by decide) hm_101 rfl rfl dX5_tryCall_1 ?_
  refine lv_iload_n hx hb dX5_tryCall_4 rfl (lv_at hl 1 rfl) ?_
  have hin_5 : vp_in from_ 8 := by assumption
  refine hh_aal C0 hp (t0 := 3) (f := (hh_hI r)) (hh_b_H hr) (hh_E_H r) rfl rfl hin_5 rfl dX5_tryCall_5 ?_
  refine lv_astore_n (lv' := [(3, .ref (ad (hh_hI r from_.toNatClampNeg))), (0, .ref (ad (hh_rI r))), (1, .int from_), (2, .int to_)]) hx hb dX5_tryCall_6 rfl hl (by decide) rfl (fun ls hl => ?_)
  refine lv_aload_n hx hb dX5_tryCall_7 rfl (lv_at hl 1 rfl) ?_
  refine hh_get C0 hp (C := RX5) (T := TX5) (N := 10) (ci := 5) (hh_b_r hr) (hh_E_r r) rfl hh_uX5 3 (by decide) hm_101 rfl rfl dX5_tryCall_8 ?_
  refine lv_iload_n hx hb dX5_tryCall_11 rfl (lv_at hl 3 rfl) ?_
  have hin_12 : vp_in to_ 8 := by assumption
  refine hh_aal C0 hp (t0 := 3) (f := (hh_hI r)) (hh_b_H hr) (hh_E_H r) rfl rfl hin_12 rfl dX5_tryCall_12 ?_
  refine lv_astore (lv' := [(4, .ref (ad (hh_hI r to_.toNatClampNeg))), (3, .ref (ad (hh_hI r from_.toNatClampNeg))), (0, .ref (ad (hh_rI r))), (1, .int from_), (2, .int to_)]) hx hb dX5_tryCall_13 hl (by decide) rfl (fun ls hl => ?_)
  refine lv_aload_n hx hb dX5_tryCall_15 rfl (lv_at hl 1 rfl) ?_
  refine hh_cVi C0 hp (As := []) (rest := []) (C := RX1) (T := TX1) (N := 13) (ci := 1) (n := 0) (hk_X1_isIdle l D K ad hT r from_.toNatClampNeg hr (hh_lt hin_5)) rfl (hh_b_h hr (hh_lt hin_5)) (hh_E_h r (hh_lt hin_5)) (hh_gV hm_164 hm_165 hm_166 hm_103 hm_38) ⟨rfl, rfl⟩ (by decide +kernel) ⟨Nat.le_of_ble_eq_true rfl, Nat.le_of_ble_eq_true rfl⟩ ⟨Nat.zero_le _, Nat.zero_le _⟩ hl.1 rfl rfl (Nat.le_of_ble_eq_true rfl) dX5_tryCall_16 (fun q_16 v_16 H locs hv_16 hp => ?_)
  obtain ⟨eq_16, hv9⟩ := hv_16
  rw [hv9] at hp; clear hv9
  refine lv_if_eq (tgt := 30) hx hb dX5_tryCall_19 (by decide) (fun c_19 => ?_) (fun c_19 => ?_)
  · refine lv_bipush (v := (-2)) hx hb dX5_tryCall_30 (by decide) ?_
    exact hh_iret C0 hp dX5_tryCall_32 ⟨(by show (_, _) = _; unfold hf_X5_tryCall; rw [hh_let_eq eq_16, if_pos c_19]), ⟨_, hT⟩⟩
  · refine lv_aload_n hx hb dX5_tryCall_22 rfl (lv_at hl 1 rfl) ?_
    refine hh_get C0 hp (C := RX1) (T := TX1) (N := 13) (ci := 1) (hh_b_h hr (hh_lt hin_5)) (hh_E_h r (hh_lt hin_5)) rfl hh_uX1 5 (by decide) hm_140 rfl rfl dX5_tryCall_23 ?_
    refine lv_iconst (v := (-1)) hx hb dX5_tryCall_26 (by decide) ?_
    refine lv_icmp_ne (tgt := 33) hx hb dX5_tryCall_27 (by decide) (fun c_27 => ?_) (fun c_27 => ?_)
    · refine lv_aload_n hx hb dX5_tryCall_33 rfl (lv_at hl 2 rfl) ?_
      refine lv_aload hx hb dX5_tryCall_34 (lv_at hl 0 rfl) ?_
      refine hh_cVi C0 hp (As := [.ref (ad (hh_hI r to_.toNatClampNeg))]) (rest := []) (C := RX5) (T := TX5) (N := 10) (ci := 5) (n := 1) (hk_X5_page l D K ad hT r to_.toNatClampNeg hr (hh_lt hin_12)) rfl (hh_b_r hr) (hh_E_r r) (hh_gV hm_249 hm_250 hm_251 hm_128 hm_138) ⟨rfl, rfl⟩ (by decide +kernel) ⟨Nat.le_of_ble_eq_true rfl, Nat.le_of_ble_eq_true rfl⟩ ⟨Nat.zero_le _, Nat.zero_le _⟩ hl.1 rfl rfl (Nat.le_of_ble_eq_true rfl) dX5_tryCall_36 (fun q_36 v_36 H locs hv_36 hp => ?_)
      obtain ⟨h9, hTv_36, hpq_36a, hpq_36b⟩ := hv_36
      have eq_36 : q_36 = (hf_X5_page v r to_.toNatClampNeg).1 := congrArg Prod.fst h9
      have ev_36 : v_36 = (hf_X5_page v r to_.toNatClampNeg).2 := congrArg Prod.snd h9
      clear h9
      refine lv_if_ne (tgt := 45) hx hb dX5_tryCall_39 (by decide) (fun c_39 => ?_) (fun c_39 => ?_)
      · have hto : ¬ v_36 (hh_hI r to_.toNatClampNeg) 5 = -1 := hpq_36a.resolve_left c_39
        have hfr : ¬ v_36 (hh_hI r from_.toNatClampNeg) 5 = -1 := by rw [hpq_36b _ _ (hh_ne_hr hr hr (hh_lt hin_5))]; assumption
        refine lv_aload hx hb dX5_tryCall_45 (lv_at hl 0 rfl) ?_
        refine hh_cVi C0 hp (As := []) (rest := []) (C := RX1) (T := TX1) (N := 13) (ci := 1) (n := 0) (hk_X1_isIdle l D K ad hTv_36 r to_.toNatClampNeg hr (hh_lt hin_12)) rfl (hh_b_h hr (hh_lt hin_12)) (hh_E_h r (hh_lt hin_12)) (hh_gV hm_164 hm_165 hm_166 hm_103 hm_38) ⟨rfl, rfl⟩ (by decide +kernel) ⟨Nat.le_of_ble_eq_true rfl, Nat.le_of_ble_eq_true rfl⟩ ⟨Nat.zero_le _, Nat.zero_le _⟩ hl.1 rfl rfl (Nat.le_of_ble_eq_true rfl) dX5_tryCall_47 (fun q_47 v_47 H locs hv_47 hp => ?_)
        obtain ⟨eq_47, hv9⟩ := hv_47
        rw [hv9] at hp; clear hv9
        refine lv_if_ne (tgt := 56) hx hb dX5_tryCall_50 (by decide) (fun c_50 => ?_) (fun c_50 => ?_)
        · have hJ_110 : ∀ (j110_0 : Int32) (H : Heap) (locs : List Loc) (ls : Array Slot), j110_0 = (if (v_36 (hh_hI r from_.toNatClampNeg) 5) = (v_36 (hh_hI r to_.toNatClampNeg) 5) then (hh_let (hf_X5_hasFreeChannels v_36 r (v_36 (hh_hI r from_.toNatClampNeg) 5) 2 : Int32) (fun (q_74 : Int32) => q_74)) else (hh_let (hf_X5_hasFreeChannels v_36 r (v_36 (hh_hI r from_.toNatClampNeg) 5) 1 : Int32) (fun (q_86 : Int32) => (if q_86 = 0 then 0 else (hh_let (hf_X5_hasFreeChannels v_36 r (v_36 (hh_hI r to_.toNatClampNeg) 5) 1 : Int32) (fun (q_99 : Int32) => (if q_99 = 0 then 0 else 1))))))) → hh_H D K ad A s.heap v_36 H locs → lv_has ls 6 [(4, .ref (ad (hh_hI r to_.toNatClampNeg))), (3, .ref (ad (hh_hI r from_.toNatClampNeg))), (0, .ref (ad (hh_rI r))), (1, .int from_), (2, .int to_)] → W p l e ({ frames := 2, cells := 0, slots := 0, locals := 45 } : Room) s m args below meth c H locs 0 0 (MQ below (va_Qi (fun (q : Int32) (v1 : hh_M) => (q, v1) = hf_X5_tryCall v r from_ to_ ∧ ∃ nc1, hh_T nm nh nc1 v1) (hh_B D K ad A) A) args s 0 0 A) (F0 m 110 ls [.int j110_0]) := by
            intro j110_0 H locs ls eJ_110 hp hl
            have ej110_0 : j110_0 = (if (v_36 (hh_hI r from_.toNatClampNeg) 5) = (v_36 (hh_hI r to_.toNatClampNeg) 5) then (hh_let (hf_X5_hasFreeChannels v_36 r (v_36 (hh_hI r from_.toNatClampNeg) 5) 2 : Int32) (fun (q_74 : Int32) => q_74)) else (hh_let (hf_X5_hasFreeChannels v_36 r (v_36 (hh_hI r from_.toNatClampNeg) 5) 1 : Int32) (fun (q_86 : Int32) => (if q_86 = 0 then 0 else (hh_let (hf_X5_hasFreeChannels v_36 r (v_36 (hh_hI r to_.toNatClampNeg) 5) 1 : Int32) (fun (q_99 : Int32) => (if q_99 = 0 then 0 else 1))))))) := eJ_110
            clear eJ_110
            refine lv_istore (lv' := [(5, .int j110_0), (4, .ref (ad (hh_hI r to_.toNatClampNeg))), (3, .ref (ad (hh_hI r from_.toNatClampNeg))), (0, .ref (ad (hh_rI r))), (1, .int from_), (2, .int to_)]) hx hb dX5_tryCall_110 hl (by decide) rfl (fun ls hl => ?_)
            refine lv_iload hx hb dX5_tryCall_112 (lv_at hl 0 rfl) ?_
            refine lv_if_ne (tgt := 120) hx hb dX5_tryCall_114 (by decide) (fun c_114 => ?_) (fun c_114 => ?_)
            · refine lv_aload_n hx hb dX5_tryCall_120 rfl (lv_at hl 2 rfl) ?_
              refine hh_get C0 hp (C := RX1) (T := TX1) (N := 13) (ci := 1) (hh_b_h hr (hh_lt hin_5)) (hh_E_h r (hh_lt hin_5)) rfl hh_uX1 3 (by decide) hm_229 rfl rfl dX5_tryCall_121 ?_
              refine lv_iconst (v := 3) hx hb dX5_tryCall_124 (by decide) ?_
              refine lv_icmp_ge (tgt := 131) hx hb dX5_tryCall_125 (by decide) (fun c_125 => ?_) (fun c_125 => ?_)
              · refine lv_aload_n hx hb dX5_tryCall_131 rfl (lv_at hl 3 rfl) ?_
                refine lv_aload_n hx hb dX5_tryCall_132 rfl (lv_at hl 3 rfl) ?_
                refine hh_get C0 hp (C := RX5) (T := TX5) (N := 10) (ci := 5) (hh_b_r hr) (hh_E_r r) rfl hh_uX5 4 (by decide) hm_105 rfl rfl dX5_tryCall_133 ?_
                refine lv_aload_n hx hb dX5_tryCall_136 rfl (lv_at hl 3 rfl) ?_
                refine hh_get C0 hp (C := RX5) (T := TX5) (N := 10) (ci := 5) (hh_b_r hr) (hh_E_r r) rfl hh_uX5 6 (by decide) hm_112 rfl rfl dX5_tryCall_137 ?_
                have hin_140 : vp_in (v_36 (hh_rI r) 6) 24 := by rw [hh_T_r6 hTv_36 r]; exact vp_in_nI hc24 (by decide)
                refine hh_aal C0 hp (t0 := 4) (f := (hh_cI r)) (hh_b_C hr) (hh_E_C r) rfl rfl hin_140 rfl dX5_tryCall_140 ?_
                refine hh_get C0 hp (C := RX0) (T := TX0) (N := 7) (ci := 0) (hh_b_c hr (hh_lt hin_140)) (hh_E_c r (hh_lt hin_140)) rfl hh_uX0 0 (by decide) hm_159 rfl rfl dX5_tryCall_141 ?_
                refine lv_iload_n hx hb dX5_tryCall_144 rfl (lv_at hl 4 rfl) ?_
                refine hh_cVv C0 hp (As := [.ref (ad (hh_gI r ((v_36 (hh_rI r) 6).toNatClampNeg) 0)), .int from_]) (rest := []) (C := RX5) (T := TX5) (N := 10) (ci := 5) (n := 2) (hk_X5_join l D K ad hTv_36 r ((v_36 (hh_rI r) 6).toNatClampNeg) 0 from_ hr (hh_lt hin_140) (by decide : 0 < 2) (by assumption) hfr (by assumption)) rfl (hh_b_r hr) (hh_E_r r) (hh_gV hm_252 hm_253 hm_254 hm_128 hm_255) ⟨rfl, rfl⟩ (by decide +kernel) ⟨Nat.le_of_ble_eq_true rfl, Nat.le_of_ble_eq_true rfl⟩ ⟨Nat.zero_le _, Nat.zero_le _⟩ hl.1 rfl rfl (Nat.le_of_ble_eq_true rfl) dX5_tryCall_145 (fun v_145 H locs hv_145 hp => ?_)
                obtain ⟨ev_145, hTv_145, hpv_1450⟩ := hv_145
                refine lv_aload_n hx hb dX5_tryCall_148 rfl (lv_at hl 3 rfl) ?_
                refine lv_aload_n hx hb dX5_tryCall_149 rfl (lv_at hl 3 rfl) ?_
                refine hh_get C0 hp (C := RX5) (T := TX5) (N := 10) (ci := 5) (hh_b_r hr) (hh_E_r r) rfl hh_uX5 4 (by decide) hm_105 rfl rfl dX5_tryCall_150 ?_
                refine lv_aload_n hx hb dX5_tryCall_153 rfl (lv_at hl 3 rfl) ?_
                refine hh_get C0 hp (C := RX5) (T := TX5) (N := 10) (ci := 5) (hh_b_r hr) (hh_E_r r) rfl hh_uX5 6 (by decide) hm_112 rfl rfl dX5_tryCall_154 ?_
                have hin_157 : vp_in (v_145 (hh_rI r) 6) 24 := by rw [hh_T_r6 hTv_145 r]; exact vp_in_nI hc24 (by decide)
                refine hh_aal C0 hp (t0 := 4) (f := (hh_cI r)) (hh_b_C hr) (hh_E_C r) rfl rfl hin_157 rfl dX5_tryCall_157 ?_
                refine hh_get C0 hp (C := RX0) (T := TX0) (N := 7) (ci := 0) (hh_b_c hr (hh_lt hin_157)) (hh_E_c r (hh_lt hin_157)) rfl hh_uX0 1 (by decide) hm_160 rfl rfl dX5_tryCall_158 ?_
                refine lv_iload_n hx hb dX5_tryCall_161 rfl (lv_at hl 5 rfl) ?_
                refine hh_cVv C0 hp (As := [.ref (ad (hh_gI r ((v_145 (hh_rI r) 6).toNatClampNeg) 1)), .int to_]) (rest := []) (C := RX5) (T := TX5) (N := 10) (ci := 5) (n := 2) (hk_X5_join l D K ad hTv_145 r ((v_145 (hh_rI r) 6).toNatClampNeg) 1 to_ hr (hh_lt hin_157) (by decide : 1 < 2) (by assumption) (by rw [hpv_1450 _ (hh_lt hin_12)]; exact hto) (by assumption)) rfl (hh_b_r hr) (hh_E_r r) (hh_gV hm_252 hm_253 hm_254 hm_128 hm_255) ⟨rfl, rfl⟩ (by decide +kernel) ⟨Nat.le_of_ble_eq_true rfl, Nat.le_of_ble_eq_true rfl⟩ ⟨Nat.zero_le _, Nat.zero_le _⟩ hl.1 rfl rfl (Nat.le_of_ble_eq_true rfl) dX5_tryCall_162 (fun v_162 H locs hv_162 hp => ?_)
                obtain ⟨ev_162, hTv_162, hpv_1620⟩ := hv_162
                refine lv_aload_n hx hb dX5_tryCall_165 rfl (lv_at hl 3 rfl) ?_
                refine lv_dup hx hb dX5_tryCall_166 rfl ?_
                refine hh_get C0 hp (C := RX5) (T := TX5) (N := 10) (ci := 5) (hh_b_r hr) (hh_E_r r) rfl hh_uX5 6 (by decide) hm_112 rfl rfl dX5_tryCall_167 ?_
                refine lv_iconst (v := 1) hx hb dX5_tryCall_170 (by decide) ?_
                refine lv_iadd hx hb dX5_tryCall_171 ?_
                refine hh_put C0 hp (C := RX5) (T := TX5) (N := 10) (ci := 5) (k := 6) (ty := .int) (hh_b_r hr) (hh_E_r r) (hh_pr6 r) rfl hh_uX5 tyX5_ok nmX5 (by decide) hm_112 rfl rfl (by decide +kernel) rfl rfl (Nat.le_of_ble_eq_true rfl) dX5_tryCall_172 (fun H locs hp => ?_)
                obtain ⟨v_172, ev_172⟩ : ∃ z : hh_M, z = hh_up v_162 (hh_rI r) 6 ((v_162 (hh_rI r) 6) + 1) := ⟨_, rfl⟩
                rw [← ev_172] at hp
                have hTv_172 : hh_T nm nh (hh_fu nc r (nc r + 1)) v_172 := by rw [ev_172]; exact hh_T_nc hTv_162 hr (by omega) (by rw [hh_T_r6 hTv_162 r]; exact nI_1 _)
                refine lv_aload_n hx hb dX5_tryCall_175 rfl (lv_at hl 3 rfl) ?_
                refine hh_get C0 hp (C := RX5) (T := TX5) (N := 10) (ci := 5) (hh_b_r hr) (hh_E_r r) rfl hh_uX5 6 (by decide) hm_112 rfl rfl dX5_tryCall_176 ?_
                refine lv_iconst (v := 1) hx hb dX5_tryCall_179 (by decide) ?_
                refine lv_isub hx hb dX5_tryCall_180 ?_
                exact hh_iret C0 hp dX5_tryCall_181 ⟨(by show (_, _) = _; unfold hf_X5_tryCall; rw [hh_let_eq eq_16, if_neg c_19, if_neg c_27, hh_let_eq eq_36, hh_let_eq ev_36, if_neg c_39, hh_let_eq eq_47, if_neg c_50, hh_let_eq ej110_0, if_neg c_114, if_pos c_125, hh_let_eq ev_145, hh_let_eq ev_162, hh_let_eq ev_172]), ⟨_, hTv_172⟩⟩
              · refine lv_bipush (v := (-6)) hx hb dX5_tryCall_128 (by decide) ?_
                exact hh_iret C0 hp dX5_tryCall_130 ⟨(by show (_, _) = _; unfold hf_X5_tryCall; rw [hh_let_eq eq_16, if_neg c_19, if_neg c_27, hh_let_eq eq_36, hh_let_eq ev_36, if_neg c_39, hh_let_eq eq_47, if_neg c_50, hh_let_eq ej110_0, if_neg c_114, if_neg c_125]), ⟨_, hTv_36⟩⟩
            · refine lv_bipush (v := (-5)) hx hb dX5_tryCall_117 (by decide) ?_
              exact hh_iret C0 hp dX5_tryCall_119 ⟨(by show (_, _) = _; unfold hf_X5_tryCall; rw [hh_let_eq eq_16, if_neg c_19, if_neg c_27, hh_let_eq eq_36, hh_let_eq ev_36, if_neg c_39, hh_let_eq eq_47, if_neg c_50, hh_let_eq ej110_0, if_pos c_114]), ⟨_, hTv_36⟩⟩
          refine lv_aload_n hx hb dX5_tryCall_56 rfl (lv_at hl 1 rfl) ?_
          refine hh_get C0 hp (C := RX1) (T := TX1) (N := 13) (ci := 1) (hh_b_h hr (hh_lt hin_5)) (hh_E_h r (hh_lt hin_5)) rfl hh_uX1 5 (by decide) hm_140 rfl rfl dX5_tryCall_57 ?_
          refine lv_aload hx hb dX5_tryCall_60 (lv_at hl 0 rfl) ?_
          refine hh_get C0 hp (C := RX1) (T := TX1) (N := 13) (ci := 1) (hh_b_h hr (hh_lt hin_12)) (hh_E_h r (hh_lt hin_12)) rfl hh_uX1 5 (by decide) hm_140 rfl rfl dX5_tryCall_62 ?_
          refine lv_icmp_ne (tgt := 80) hx hb dX5_tryCall_65 (by decide) (fun c_65 => ?_) (fun c_65 => ?_)
          · refine lv_aload_n hx hb dX5_tryCall_80 rfl (lv_at hl 2 rfl) ?_
            refine lv_aload_n hx hb dX5_tryCall_81 rfl (lv_at hl 1 rfl) ?_
            refine hh_get C0 hp (C := RX1) (T := TX1) (N := 13) (ci := 1) (hh_b_h hr (hh_lt hin_5)) (hh_E_h r (hh_lt hin_5)) rfl hh_uX1 5 (by decide) hm_140 rfl rfl dX5_tryCall_82 ?_
            refine lv_iconst (v := 1) hx hb dX5_tryCall_85 (by decide) ?_
            refine hh_cVi C0 hp (As := [.int (v_36 (hh_hI r from_.toNatClampNeg) 5), .int 1]) (rest := []) (C := RX5) (T := TX5) (N := 10) (ci := 5) (n := 2) (hk_X5_hasFreeChannels l D K ad hTv_36 r (v_36 (hh_hI r from_.toNatClampNeg) 5) 1 hr (hh_in (hh_T_h5 hTv_36 r (hh_lt hin_5)) hfr (by omega) (by decide))) rfl (hh_b_r hr) (hh_E_r r) (hh_gV hm_198 hm_199 hm_200 hm_128 hm_135) ⟨rfl, rfl⟩ (by decide +kernel) ⟨Nat.le_of_ble_eq_true rfl, Nat.le_of_ble_eq_true rfl⟩ ⟨Nat.zero_le _, Nat.zero_le _⟩ hl.1 rfl rfl (Nat.le_of_ble_eq_true rfl) dX5_tryCall_86 (fun q_86 v_86 H locs hv_86 hp => ?_)
            obtain ⟨eq_86, hv9⟩ := hv_86
            rw [hv9] at hp; clear hv9
            refine lv_if_eq (tgt := 109) hx hb dX5_tryCall_89 (by decide) (fun c_89 => ?_) (fun c_89 => ?_)
            · refine lv_iconst (v := 0) hx hb dX5_tryCall_109 (by decide) ?_
              exact hJ_110 0 _ _ _ (by rw [if_neg c_65, hh_let_eq eq_86, if_pos c_89]) hp (lv_sub hl [0, 1, 2, 3, 4] rfl)
            · refine lv_aload_n hx hb dX5_tryCall_92 rfl (lv_at hl 2 rfl) ?_
              refine lv_aload hx hb dX5_tryCall_93 (lv_at hl 0 rfl) ?_
              refine hh_get C0 hp (C := RX1) (T := TX1) (N := 13) (ci := 1) (hh_b_h hr (hh_lt hin_12)) (hh_E_h r (hh_lt hin_12)) rfl hh_uX1 5 (by decide) hm_140 rfl rfl dX5_tryCall_95 ?_
              refine lv_iconst (v := 1) hx hb dX5_tryCall_98 (by decide) ?_
              refine hh_cVi C0 hp (As := [.int (v_36 (hh_hI r to_.toNatClampNeg) 5), .int 1]) (rest := []) (C := RX5) (T := TX5) (N := 10) (ci := 5) (n := 2) (hk_X5_hasFreeChannels l D K ad hTv_36 r (v_36 (hh_hI r to_.toNatClampNeg) 5) 1 hr (hh_in (hh_T_h5 hTv_36 r (hh_lt hin_12)) hto (by omega) (by decide))) rfl (hh_b_r hr) (hh_E_r r) (hh_gV hm_198 hm_199 hm_200 hm_128 hm_135) ⟨rfl, rfl⟩ (by decide +kernel) ⟨Nat.le_of_ble_eq_true rfl, Nat.le_of_ble_eq_true rfl⟩ ⟨Nat.zero_le _, Nat.zero_le _⟩ hl.1 rfl rfl (Nat.le_of_ble_eq_true rfl) dX5_tryCall_99 (fun q_99 v_99 H locs hv_99 hp => ?_)
              obtain ⟨eq_99, hv9⟩ := hv_99
              rw [hv9] at hp; clear hv9
              refine lv_if_eq (tgt := 109) hx hb dX5_tryCall_102 (by decide) (fun c_102 => ?_) (fun c_102 => ?_)
              · refine lv_iconst (v := 0) hx hb dX5_tryCall_109 (by decide) ?_
                exact hJ_110 0 _ _ _ (by rw [if_neg c_65, hh_let_eq eq_86, if_neg c_89, hh_let_eq eq_99, if_pos c_102]) hp (lv_sub hl [0, 1, 2, 3, 4] rfl)
              · refine lv_iconst (v := 1) hx hb dX5_tryCall_105 (by decide) ?_
                refine lv_goto (tgt := 110) hx hb dX5_tryCall_106 (by decide) ?_
                exact hJ_110 1 _ _ _ (by rw [if_neg c_65, hh_let_eq eq_86, if_neg c_89, hh_let_eq eq_99, if_neg c_102]) hp (lv_sub hl [0, 1, 2, 3, 4] rfl)
          · refine lv_aload_n hx hb dX5_tryCall_68 rfl (lv_at hl 2 rfl) ?_
            refine lv_aload_n hx hb dX5_tryCall_69 rfl (lv_at hl 1 rfl) ?_
            refine hh_get C0 hp (C := RX1) (T := TX1) (N := 13) (ci := 1) (hh_b_h hr (hh_lt hin_5)) (hh_E_h r (hh_lt hin_5)) rfl hh_uX1 5 (by decide) hm_140 rfl rfl dX5_tryCall_70 ?_
            refine lv_iconst (v := 2) hx hb dX5_tryCall_73 (by decide) ?_
            refine hh_cVi C0 hp (As := [.int (v_36 (hh_hI r from_.toNatClampNeg) 5), .int 2]) (rest := []) (C := RX5) (T := TX5) (N := 10) (ci := 5) (n := 2) (hk_X5_hasFreeChannels l D K ad hTv_36 r (v_36 (hh_hI r from_.toNatClampNeg) 5) 2 hr (hh_in (hh_T_h5 hTv_36 r (hh_lt hin_5)) hfr (by omega) (by decide))) rfl (hh_b_r hr) (hh_E_r r) (hh_gV hm_198 hm_199 hm_200 hm_128 hm_135) ⟨rfl, rfl⟩ (by decide +kernel) ⟨Nat.le_of_ble_eq_true rfl, Nat.le_of_ble_eq_true rfl⟩ ⟨Nat.zero_le _, Nat.zero_le _⟩ hl.1 rfl rfl (Nat.le_of_ble_eq_true rfl) dX5_tryCall_74 (fun q_74 v_74 H locs hv_74 hp => ?_)
            obtain ⟨eq_74, hv9⟩ := hv_74
            rw [hv9] at hp; clear hv9
            refine lv_goto (tgt := 110) hx hb dX5_tryCall_77 (by decide) ?_
            exact hJ_110 q_74 _ _ _ (by rw [if_pos c_65, hh_let_eq eq_74]) hp (lv_sub hl [0, 1, 2, 3, 4] rfl)
        · refine lv_bipush (v := (-4)) hx hb dX5_tryCall_53 (by decide) ?_
          exact hh_iret C0 hp dX5_tryCall_55 ⟨(by show (_, _) = _; unfold hf_X5_tryCall; rw [hh_let_eq eq_16, if_neg c_19, if_neg c_27, hh_let_eq eq_36, hh_let_eq ev_36, if_neg c_39, hh_let_eq eq_47, if_pos c_50]), ⟨_, hTv_36⟩⟩
      · refine lv_bipush (v := (-3)) hx hb dX5_tryCall_42 (by decide) ?_
        exact hh_iret C0 hp dX5_tryCall_44 ⟨(by show (_, _) = _; unfold hf_X5_tryCall; rw [hh_let_eq eq_16, if_neg c_19, if_neg c_27, hh_let_eq eq_36, hh_let_eq ev_36, if_pos c_39]), ⟨_, hTv_36⟩⟩
    · refine lv_bipush (v := (-2)) hx hb dX5_tryCall_30 (by decide) ?_
      exact hh_iret C0 hp dX5_tryCall_32 ⟨(by show (_, _) = _; unfold hf_X5_tryCall; rw [hh_let_eq eq_16, if_neg c_19, if_pos c_27]), ⟨_, hT⟩⟩
end
section
/-! 15.copy: laid by program (wip/gen/mk10.py) -/
def hf_X0_copyFrom (v : hh_M) (r : Nat) (i : Nat) (r2 : Nat) (i2 : Nat) : hh_M := (hh_let (hf_X2_copyFrom v r i 0 r2 i2 0 : hh_M) (fun (v_8 : hh_M) => (hh_let (hf_X2_copyFrom v_8 r i 1 r2 i2 1 : hh_M) (fun (v_19 : hh_M) => (hh_let (hh_up v_19 (hh_cI r i) 2 (v_19 (hh_cI r2 i2) 2) : hh_M) (fun (v_27 : hh_M) => (hh_let (hh_up v_27 (hh_cI r i) 3 (v_27 (hh_cI r2 i2) 3) : hh_M) (fun (v_35 : hh_M) => (hh_let (hh_up v_35 (hh_cI r i) 4 (v_35 (hh_cI r2 i2) 4) : hh_M) (fun (v_43 : hh_M) => (hh_let (hh_up v_43 (hh_cI r i) 5 (v_43 (hh_cI r2 i2) 5) : hh_M) (fun (v_51 : hh_M) => (hh_let (hh_up v_51 (hh_cI r i) 6 (v_51 (hh_cI r2 i2) 6) : hh_M) (fun (v_59 : hh_M) => v_59))))))))))))))
set_option maxHeartbeats 4000000 in
set_option maxRecDepth 100000 in
theorem hk_X0_copyFrom (l : Launch) (D : va_G) (K : Nat → ClassId) (ad : Nat → Nat) {nm : Nat} {nh nc : Nat → Nat} {v : hh_M} (hT : hh_T nm nh nc v) (r : Nat) (i : Nat) (r2 : Nat) (i2 : Nat) (hr : r < 2) (hi : i < 24) (hr2 : r2 < 2) (hi2 : i2 < 24) : hh_Kv l D K ad yX0_copyFrom (hh_wm yX0_copyFrom cX0_copyFrom 2 none) { frames := 1, cells := 0, slots := 0, locals := 21 } [.ref (ad (hh_cI r i)), .ref (ad (hh_cI r2 i2))] v (fun (v1 : hh_M) => v1 = hf_X0_copyFrom v r i r2 i2 ∧ hh_T nm nh nc v1) := by
  refine hh_Kv_of (by decide) (Nat.le_of_ble_eq_true rfl) ?_
  intro p e s m args below meth c ls A C0 hp hl
  obtain ⟨hx, hb, hr9, hml, hown, hts, hK, hlk, hA⟩ := id C0
  have hnm := hT.1
  have hnh := hT.2.1
  have hnc := hT.2.2.1
  have hbHr := hnh r
  have hbCr := hnc r
  have hbHr2 := hnh r2
  have hbCr2 := hnc r2
  have hl : lv_has ls 2 [(0, .ref (ad (hh_cI r i))), (1, .ref (ad (hh_cI r2 i2)))] := hl
  refine lv_aload_n hx hb dX0_copyFrom_0 rfl (lv_at hl 0 rfl) ?_
  refine hh_get C0 hp (C := RX0) (T := TX0) (N := 7) (ci := 0) (hh_b_c hr hi) (hh_E_c r hi) rfl hh_uX0 0 (by decide) hm_7 rfl rfl dX0_copyFrom_1 ?_
  refine lv_aload_n hx hb dX0_copyFrom_4 rfl (lv_at hl 1 rfl) ?_
  refine hh_get C0 hp (C := RX0) (T := TX0) (N := 7) (ci := 0) (hh_b_c hr2 hi2) (hh_E_c r2 hi2) rfl hh_uX0 0 (by decide) hm_7 rfl rfl dX0_copyFrom_5 ?_
  refine hh_cVv C0 hp (As := [.ref (ad (hh_gI r2 i2 0))]) (rest := []) (C := RX2) (T := TX2) (N := 6) (ci := 2) (n := 1) (hk_X2_copyFrom l D K ad hT r i 0 r2 i2 0 hr hi (by decide : 0 < 2) hr2 hi2 (by decide : 0 < 2)) rfl (hh_b_g hr hi (by decide : 0 < 2)) (hh_E_g r hi (by decide : 0 < 2)) (hh_gV hm_23 hm_24 hm_25 hm_6 hm_26) ⟨rfl, rfl⟩ (by decide +kernel) ⟨Nat.le_of_ble_eq_true rfl, Nat.le_of_ble_eq_true rfl⟩ ⟨Nat.zero_le _, Nat.zero_le _⟩ hl.1 rfl rfl (Nat.le_of_ble_eq_true rfl) dX0_copyFrom_8 (fun v_8 H locs hv_8 hp => ?_)
  obtain ⟨ev_8, hTv_8⟩ := hv_8
  refine lv_aload_n hx hb dX0_copyFrom_11 rfl (lv_at hl 0 rfl) ?_
  refine hh_get C0 hp (C := RX0) (T := TX0) (N := 7) (ci := 0) (hh_b_c hr hi) (hh_E_c r hi) rfl hh_uX0 1 (by decide) hm_8 rfl rfl dX0_copyFrom_12 ?_
  refine lv_aload_n hx hb dX0_copyFrom_15 rfl (lv_at hl 1 rfl) ?_
  refine hh_get C0 hp (C := RX0) (T := TX0) (N := 7) (ci := 0) (hh_b_c hr2 hi2) (hh_E_c r2 hi2) rfl hh_uX0 1 (by decide) hm_8 rfl rfl dX0_copyFrom_16 ?_
  refine hh_cVv C0 hp (As := [.ref (ad (hh_gI r2 i2 1))]) (rest := []) (C := RX2) (T := TX2) (N := 6) (ci := 2) (n := 1) (hk_X2_copyFrom l D K ad hTv_8 r i 1 r2 i2 1 hr hi (by decide : 1 < 2) hr2 hi2 (by decide : 1 < 2)) rfl (hh_b_g hr hi (by decide : 1 < 2)) (hh_E_g r hi (by decide : 1 < 2)) (hh_gV hm_23 hm_24 hm_25 hm_6 hm_26) ⟨rfl, rfl⟩ (by decide +kernel) ⟨Nat.le_of_ble_eq_true rfl, Nat.le_of_ble_eq_true rfl⟩ ⟨Nat.zero_le _, Nat.zero_le _⟩ hl.1 rfl rfl (Nat.le_of_ble_eq_true rfl) dX0_copyFrom_19 (fun v_19 H locs hv_19 hp => ?_)
  obtain ⟨ev_19, hTv_19⟩ := hv_19
  refine lv_aload_n hx hb dX0_copyFrom_22 rfl (lv_at hl 0 rfl) ?_
  refine lv_aload_n hx hb dX0_copyFrom_23 rfl (lv_at hl 1 rfl) ?_
  refine hh_get C0 hp (C := RX0) (T := TX0) (N := 7) (ci := 0) (hh_b_c hr2 hi2) (hh_E_c r2 hi2) rfl hh_uX0 2 (by decide) hm_19 rfl rfl dX0_copyFrom_24 ?_
  refine hh_put C0 hp (C := RX0) (T := TX0) (N := 7) (ci := 0) (k := 2) (ty := .int) (hh_b_c hr hi) (hh_E_c r hi) (hh_pc2 r hi) rfl hh_uX0 tyX0_ok nmX0 (by decide) hm_19 rfl rfl (by decide +kernel) rfl rfl (Nat.le_of_ble_eq_true rfl) dX0_copyFrom_27 (fun H locs hp => ?_)
  obtain ⟨v_27, ev_27⟩ : ∃ z : hh_M, z = hh_up v_19 (hh_cI r i) 2 (v_19 (hh_cI r2 i2) 2) := ⟨_, rfl⟩
  rw [← ev_27] at hp
  have hTv_27 : hh_T nm nh nc v_27 := by rw [ev_27]; exact hh_T_up hTv_19 (hh_Rt_c hr hi (by decide))
  refine lv_aload_n hx hb dX0_copyFrom_30 rfl (lv_at hl 0 rfl) ?_
  refine lv_aload_n hx hb dX0_copyFrom_31 rfl (lv_at hl 1 rfl) ?_
  refine hh_get C0 hp (C := RX0) (T := TX0) (N := 7) (ci := 0) (hh_b_c hr2 hi2) (hh_E_c r2 hi2) rfl hh_uX0 3 (by decide) hm_20 rfl rfl dX0_copyFrom_32 ?_
  refine hh_put C0 hp (C := RX0) (T := TX0) (N := 7) (ci := 0) (k := 3) (ty := .int) (hh_b_c hr hi) (hh_E_c r hi) (hh_pc3 r hi) rfl hh_uX0 tyX0_ok nmX0 (by decide) hm_20 rfl rfl (by decide +kernel) rfl rfl (Nat.le_of_ble_eq_true rfl) dX0_copyFrom_35 (fun H locs hp => ?_)
  obtain ⟨v_35, ev_35⟩ : ∃ z : hh_M, z = hh_up v_27 (hh_cI r i) 3 (v_27 (hh_cI r2 i2) 3) := ⟨_, rfl⟩
  rw [← ev_35] at hp
  have hTv_35 : hh_T nm nh nc v_35 := by rw [ev_35]; exact hh_T_up hTv_27 (hh_Rt_c hr hi (by decide))
  refine lv_aload_n hx hb dX0_copyFrom_38 rfl (lv_at hl 0 rfl) ?_
  refine lv_aload_n hx hb dX0_copyFrom_39 rfl (lv_at hl 1 rfl) ?_
  refine hh_get C0 hp (C := RX0) (T := TX0) (N := 7) (ci := 0) (hh_b_c hr2 hi2) (hh_E_c r2 hi2) rfl hh_uX0 4 (by decide) hm_21 rfl rfl dX0_copyFrom_40 ?_
  refine hh_put C0 hp (C := RX0) (T := TX0) (N := 7) (ci := 0) (k := 4) (ty := .int) (hh_b_c hr hi) (hh_E_c r hi) (hh_pc4 r hi) rfl hh_uX0 tyX0_ok nmX0 (by decide) hm_21 rfl rfl (by decide +kernel) rfl rfl (Nat.le_of_ble_eq_true rfl) dX0_copyFrom_43 (fun H locs hp => ?_)
  obtain ⟨v_43, ev_43⟩ : ∃ z : hh_M, z = hh_up v_35 (hh_cI r i) 4 (v_35 (hh_cI r2 i2) 4) := ⟨_, rfl⟩
  rw [← ev_43] at hp
  have hTv_43 : hh_T nm nh nc v_43 := by rw [ev_43]; exact hh_T_up hTv_35 (hh_Rt_c hr hi (by decide))
  refine lv_aload_n hx hb dX0_copyFrom_46 rfl (lv_at hl 0 rfl) ?_
  refine lv_aload_n hx hb dX0_copyFrom_47 rfl (lv_at hl 1 rfl) ?_
  refine hh_get C0 hp (C := RX0) (T := TX0) (N := 7) (ci := 0) (hh_b_c hr2 hi2) (hh_E_c r2 hi2) rfl hh_uX0 5 (by decide) hm_22 rfl rfl dX0_copyFrom_48 ?_
  refine hh_put C0 hp (C := RX0) (T := TX0) (N := 7) (ci := 0) (k := 5) (ty := .int) (hh_b_c hr hi) (hh_E_c r hi) (hh_pc5 r hi) rfl hh_uX0 tyX0_ok nmX0 (by decide) hm_22 rfl rfl (by decide +kernel) rfl rfl (Nat.le_of_ble_eq_true rfl) dX0_copyFrom_51 (fun H locs hp => ?_)
  obtain ⟨v_51, ev_51⟩ : ∃ z : hh_M, z = hh_up v_43 (hh_cI r i) 5 (v_43 (hh_cI r2 i2) 5) := ⟨_, rfl⟩
  rw [← ev_51] at hp
  have hTv_51 : hh_T nm nh nc v_51 := by rw [ev_51]; exact hh_T_up hTv_43 (hh_Rt_c hr hi (by decide))
  refine lv_aload_n hx hb dX0_copyFrom_54 rfl (lv_at hl 0 rfl) ?_
  refine lv_aload_n hx hb dX0_copyFrom_55 rfl (lv_at hl 1 rfl) ?_
  refine hh_get C0 hp (C := RX0) (T := TX0) (N := 7) (ci := 0) (hh_b_c hr2 hi2) (hh_E_c r2 hi2) rfl hh_uX0 6 (by decide) hm_9 rfl rfl dX0_copyFrom_56 ?_
  refine hh_put C0 hp (C := RX0) (T := TX0) (N := 7) (ci := 0) (k := 6) (ty := .int) (hh_b_c hr hi) (hh_E_c r hi) (hh_pc6 r hi) rfl hh_uX0 tyX0_ok nmX0 (by decide) hm_9 rfl rfl (by decide +kernel) rfl rfl (Nat.le_of_ble_eq_true rfl) dX0_copyFrom_59 (fun H locs hp => ?_)
  obtain ⟨v_59, ev_59⟩ : ∃ z : hh_M, z = hh_up v_51 (hh_cI r i) 6 (v_51 (hh_cI r2 i2) 6) := ⟨_, rfl⟩
  rw [← ev_59] at hp
  have hTv_59 : hh_T nm nh nc v_59 := by rw [ev_59]; exact hh_T_up hTv_51 (hh_Rt_c hr hi (by decide))
  exact hh_vret C0 hp dX0_copyFrom_62 ⟨(by show _ = _; unfold hf_X0_copyFrom; rw [hh_let_eq ev_8, hh_let_eq ev_19, hh_let_eq ev_27, hh_let_eq ev_35, hh_let_eq ev_43, hh_let_eq ev_51, hh_let_eq ev_59]), hTv_59⟩
def hl_X5_copyFrom_2 (r : Nat) (r2 : Nat) (i : Nat) (w_2 : hh_M) : hh_M := (hh_let (hh_up w_2 (hh_lI r) i (w_2 (hh_lI r2) i) : hh_M) (fun (v_19 : hh_M) => (hh_let (hh_up v_19 (hh_kI r) i (v_19 (hh_kI r2) i) : hh_M) (fun (v_31 : hh_M) => v_31))))
def hl_X5_copyFrom_48 (r : Nat) (r2 : Nat) (i : Nat) (w_48 : hh_M) : hh_M := (hh_let (hf_X1_copyFrom w_48 r i r2 i : hh_M) (fun (v_68 : hh_M) => v_68))
def hl_X5_copyFrom_87 (r : Nat) (r2 : Nat) (i : Nat) (w_87 : hh_M) : hh_M := (hh_let (hf_X0_copyFrom w_87 r i r2 i : hh_M) (fun (v_107 : hh_M) => v_107))
def hf_X5_copyFrom (v : hh_M) (r : Nat) (r2 : Nat) : hh_M := (hh_let (hh_fld (fun (i9 : Nat) (z : hh_M) => hl_X5_copyFrom_2 r r2 i9 z) 6 v : hh_M) (fun (w_2 : hh_M) => (hh_let (hh_up w_2 (hh_rI r) 5 (w_2 (hh_rI r2) 5) : hh_M) (fun (v_43 : hh_M) => (hh_let (hh_fld (fun (i9 : Nat) (z : hh_M) => hl_X5_copyFrom_48 r r2 i9 z) ((v_43 (hh_rI r) 5).toNatClampNeg) v_43 : hh_M) (fun (w_48 : hh_M) => (hh_let (hh_up w_48 (hh_rI r) 6 (w_48 (hh_rI r2) 6) : hh_M) (fun (v_82 : hh_M) => (hh_let (hh_fld (fun (i9 : Nat) (z : hh_M) => hl_X5_copyFrom_87 r r2 i9 z) ((v_82 (hh_rI r) 6).toNatClampNeg) v_82 : hh_M) (fun (w_87 : hh_M) => (hh_let (hh_up w_87 (hh_rI r) 7 (w_87 (hh_rI r2) 7) : hh_M) (fun (v_121 : hh_M) => (hh_let (hh_up v_121 (hh_rI r) 8 (v_121 (hh_rI r2) 8) : hh_M) (fun (v_129 : hh_M) => (hh_let (hh_up v_129 (hh_rI r) 9 (v_129 (hh_rI r2) 9) : hh_M) (fun (v_137 : hh_M) => v_137))))))))))))))))
set_option maxHeartbeats 4000000 in
set_option maxRecDepth 100000 in
theorem hk_X5_copyFrom (l : Launch) (D : va_G) (K : Nat → ClassId) (ad : Nat → Nat) {nm : Nat} {nh nc : Nat → Nat} {v : hh_M} (hT : hh_T nm nh nc v) (r : Nat) (r2 : Nat) (hr : r < 2) (hr2 : r2 < 2) : hh_Kv l D K ad yX5_copyFrom (hh_wm yX5_copyFrom cX5_copyFrom 3 none) { frames := 2, cells := 0, slots := 0, locals := 42 } [.ref (ad (hh_rI r)), .ref (ad (hh_rI r2))] v (fun (v1 : hh_M) => v1 = hf_X5_copyFrom v r r2 ∧ hh_T nm (hh_fu nh r (nh r2)) (hh_fu nc r (nc r2)) v1) := by
  refine hh_Kv_of (by decide) (Nat.le_of_ble_eq_true rfl) ?_
  intro p e s m args below meth c ls A C0 hp hl
  obtain ⟨hx, hb, hr9, hml, hown, hts, hK, hlk, hA⟩ := id C0
  have hnm := hT.1
  have hnh := hT.2.1
  have hnc := hT.2.2.1
  have hbHr := hnh r
  have hbCr := hnc r
  have hbHr2 := hnh r2
  have hbCr2 := hnc r2
  have hl : lv_has ls 3 [(0, .ref (ad (hh_rI r))), (1, .ref (ad (hh_rI r2)))] := hl
  refine lv_iconst (v := 0) hx hb dX5_copyFrom_0 (by decide) ?_
  refine lv_istore_n (lv' := [(2, .int 0), (0, .ref (ad (hh_rI r))), (1, .ref (ad (hh_rI r2)))]) hx hb dX5_copyFrom_1 rfl hl (by decide) rfl (fun ls hl => ?_)
  have hL_2 : ∀ (n i : Nat) (w_2 : hh_M) (H : Heap) (locs : List Loc) (ls : Array Slot), i ≤ 6 → 6 - i < n → w_2 = hh_fld (fun (i9 : Nat) (z : hh_M) => hl_X5_copyFrom_2 r r2 i9 z) i v → hh_T nm nh nc w_2 → hh_H D K ad A s.heap w_2 H locs → lv_has ls 3 [(2, .int (nI i)), (0, .ref (ad (hh_rI r))), (1, .ref (ad (hh_rI r2)))] → W p l e ({ frames := 2, cells := 0, slots := 0, locals := 42 } : Room) s m args below meth c H locs 0 0 (MQ below (va_Qv (fun (v1 : hh_M) => v1 = hf_X5_copyFrom v r r2 ∧ hh_T nm (hh_fu nh r (nh r2)) (hh_fu nc r (nc r2)) v1) (hh_B D K ad A) A) args s 0 0 A) (F0 m 2 ls []) := by
    intro n
    induction n with
    | zero => intro i w_2 H locs ls h1 h2; omega
    | succ n ih =>
      intro i w_2 H locs ls hii hni hsL_2 hTw_2 hp hl
      refine lv_iload_n hx hb dX5_copyFrom_2 rfl (lv_at hl 0 rfl) ?_
      refine lv_bipush (v := 6) hx hb dX5_copyFrom_3 (by decide) ?_
      refine lv_icmp_ge (tgt := 38) hx hb dX5_copyFrom_5 (by decide) (fun c_5 => ?_) (fun c_5 => ?_)
      · have hbc_5 : 6 = nI 6 := rfl
        rw [hbc_5] at c_5
        have hc_5 := (nI_leI (a := 6) (b := i) (by omega) (by omega))
        have hltc_5 : 6 ≤ i := by exact hc_5.mp c_5
        have hNL_2 : i = 6 := by omega
        rw [hNL_2] at hsL_2
        have ew_2 : w_2 = hh_fld (fun (i9 : Nat) (z : hh_M) => hl_X5_copyFrom_2 r r2 i9 z) 6 v := hsL_2
        clear ih hsL_2
        refine lv_aload_n hx hb dX5_copyFrom_38 rfl (lv_at hl 1 rfl) ?_
        refine lv_aload_n hx hb dX5_copyFrom_39 rfl (lv_at hl 2 rfl) ?_
        refine hh_get C0 hp (C := RX5) (T := TX5) (N := 10) (ci := 5) (hh_b_r hr2) (hh_E_r r2) rfl hh_uX5 5 (by decide) hm_111 rfl rfl dX5_copyFrom_40 ?_
        refine hh_put C0 hp (C := RX5) (T := TX5) (N := 10) (ci := 5) (k := 5) (ty := .int) (hh_b_r hr) (hh_E_r r) (hh_pr5 r) rfl hh_uX5 tyX5_ok nmX5 (by decide) hm_111 rfl rfl (by decide +kernel) rfl rfl (Nat.le_of_ble_eq_true rfl) dX5_copyFrom_43 (fun H locs hp => ?_)
        obtain ⟨v_43, ev_43⟩ : ∃ z : hh_M, z = hh_up w_2 (hh_rI r) 5 (w_2 (hh_rI r2) 5) := ⟨_, rfl⟩
        rw [← ev_43] at hp
        have hTv_43 : hh_T nm (hh_fu nh r (nh r2)) nc v_43 := by rw [ev_43]; exact hh_T_nh hTw_2 hr (hnh r2) (hh_T_r5 hTw_2 r2)
        refine lv_iconst (v := 0) hx hb dX5_copyFrom_46 (by decide) ?_
        refine lv_istore_n (lv' := [(2, .int 0), (0, .ref (ad (hh_rI r))), (1, .ref (ad (hh_rI r2)))]) hx hb dX5_copyFrom_47 rfl hl (by decide) rfl (fun ls hl => ?_)
        have hL_48 : ∀ (n i : Nat) (w_48 : hh_M) (H : Heap) (locs : List Loc) (ls : Array Slot), i ≤ nh r2 → nh r2 - i < n → w_48 = hh_fld (fun (i9 : Nat) (z : hh_M) => hl_X5_copyFrom_48 r r2 i9 z) i v_43 → hh_T nm (hh_fu nh r (nh r2)) nc w_48 → hh_H D K ad A s.heap w_48 H locs → lv_has ls 3 [(2, .int (nI i)), (0, .ref (ad (hh_rI r))), (1, .ref (ad (hh_rI r2)))] → W p l e ({ frames := 2, cells := 0, slots := 0, locals := 42 } : Room) s m args below meth c H locs 0 0 (MQ below (va_Qv (fun (v1 : hh_M) => v1 = hf_X5_copyFrom v r r2 ∧ hh_T nm (hh_fu nh r (nh r2)) (hh_fu nc r (nc r2)) v1) (hh_B D K ad A) A) args s 0 0 A) (F0 m 48 ls []) := by
          intro n
          induction n with
          | zero => intro i w_48 H locs ls h1 h2; omega
          | succ n ih =>
            intro i w_48 H locs ls hii hni hsL_48 hTw_48 hp hl
            refine lv_iload_n hx hb dX5_copyFrom_48 rfl (lv_at hl 0 rfl) ?_
            refine lv_aload_n hx hb dX5_copyFrom_49 rfl (lv_at hl 1 rfl) ?_
            refine hh_get C0 hp (C := RX5) (T := TX5) (N := 10) (ci := 5) (hh_b_r hr) (hh_E_r r) rfl hh_uX5 5 (by decide) hm_111 rfl rfl dX5_copyFrom_50 ?_
            refine lv_icmp_ge (tgt := 77) hx hb dX5_copyFrom_53 (by decide) (fun c_53 => ?_) (fun c_53 => ?_)
            · have hbc_53 : (w_48 (hh_rI r) 5) = nI (nh r2) := (hh_T_r5 hTw_48 r).trans (by rw [hh_fu_s])
              rw [hbc_53] at c_53
              have hc_53 := (nI_leI (a := nh r2) (b := i) (by omega) (by omega))
              have hltc_53 : nh r2 ≤ i := by exact hc_53.mp c_53
              have hNL_48 : i = nh r2 := by omega
              rw [hNL_48] at hsL_48
              have hsL_48 : w_48 = hh_fld (fun (i9 : Nat) (z : hh_M) => hl_X5_copyFrom_48 r r2 i9 z) ((v_43 (hh_rI r) 5).toNatClampNeg) v_43 := by rw [hsL_48, show (v_43 (hh_rI r) 5).toNatClampNeg = nh r2 from by rw [hh_T_r5 hTv_43 r, hh_fu_s]; exact nI_clamp (by omega)]
              have ew_48 : w_48 = hh_fld (fun (i9 : Nat) (z : hh_M) => hl_X5_copyFrom_48 r r2 i9 z) ((v_43 (hh_rI r) 5).toNatClampNeg) v_43 := hsL_48
              clear ih hsL_48
              refine lv_aload_n hx hb dX5_copyFrom_77 rfl (lv_at hl 1 rfl) ?_
              refine lv_aload_n hx hb dX5_copyFrom_78 rfl (lv_at hl 2 rfl) ?_
              refine hh_get C0 hp (C := RX5) (T := TX5) (N := 10) (ci := 5) (hh_b_r hr2) (hh_E_r r2) rfl hh_uX5 6 (by decide) hm_112 rfl rfl dX5_copyFrom_79 ?_
              refine hh_put C0 hp (C := RX5) (T := TX5) (N := 10) (ci := 5) (k := 6) (ty := .int) (hh_b_r hr) (hh_E_r r) (hh_pr6 r) rfl hh_uX5 tyX5_ok nmX5 (by decide) hm_112 rfl rfl (by decide +kernel) rfl rfl (Nat.le_of_ble_eq_true rfl) dX5_copyFrom_82 (fun H locs hp => ?_)
              obtain ⟨v_82, ev_82⟩ : ∃ z : hh_M, z = hh_up w_48 (hh_rI r) 6 (w_48 (hh_rI r2) 6) := ⟨_, rfl⟩
              rw [← ev_82] at hp
              have hTv_82 : hh_T nm (hh_fu nh r (nh r2)) (hh_fu nc r (nc r2)) v_82 := by rw [ev_82]; exact hh_T_nc hTw_48 hr (hnc r2) (hh_T_r6 hTw_48 r2)
              refine lv_iconst (v := 0) hx hb dX5_copyFrom_85 (by decide) ?_
              refine lv_istore_n (lv' := [(2, .int 0), (0, .ref (ad (hh_rI r))), (1, .ref (ad (hh_rI r2)))]) hx hb dX5_copyFrom_86 rfl hl (by decide) rfl (fun ls hl => ?_)
              have hL_87 : ∀ (n i : Nat) (w_87 : hh_M) (H : Heap) (locs : List Loc) (ls : Array Slot), i ≤ nc r2 → nc r2 - i < n → w_87 = hh_fld (fun (i9 : Nat) (z : hh_M) => hl_X5_copyFrom_87 r r2 i9 z) i v_82 → hh_T nm (hh_fu nh r (nh r2)) (hh_fu nc r (nc r2)) w_87 → hh_H D K ad A s.heap w_87 H locs → lv_has ls 3 [(2, .int (nI i)), (0, .ref (ad (hh_rI r))), (1, .ref (ad (hh_rI r2)))] → W p l e ({ frames := 2, cells := 0, slots := 0, locals := 42 } : Room) s m args below meth c H locs 0 0 (MQ below (va_Qv (fun (v1 : hh_M) => v1 = hf_X5_copyFrom v r r2 ∧ hh_T nm (hh_fu nh r (nh r2)) (hh_fu nc r (nc r2)) v1) (hh_B D K ad A) A) args s 0 0 A) (F0 m 87 ls []) := by
                intro n
                induction n with
                | zero => intro i w_87 H locs ls h1 h2; omega
                | succ n ih =>
                  intro i w_87 H locs ls hii hni hsL_87 hTw_87 hp hl
                  refine lv_iload_n hx hb dX5_copyFrom_87 rfl (lv_at hl 0 rfl) ?_
                  refine lv_aload_n hx hb dX5_copyFrom_88 rfl (lv_at hl 1 rfl) ?_
                  refine hh_get C0 hp (C := RX5) (T := TX5) (N := 10) (ci := 5) (hh_b_r hr) (hh_E_r r) rfl hh_uX5 6 (by decide) hm_112 rfl rfl dX5_copyFrom_89 ?_
                  refine lv_icmp_ge (tgt := 116) hx hb dX5_copyFrom_92 (by decide) (fun c_92 => ?_) (fun c_92 => ?_)
                  · have hbc_92 : (w_87 (hh_rI r) 6) = nI (nc r2) := (hh_T_r6 hTw_87 r).trans (by rw [hh_fu_s])
                    rw [hbc_92] at c_92
                    have hc_92 := (nI_leI (a := nc r2) (b := i) (by omega) (by omega))
                    have hltc_92 : nc r2 ≤ i := by exact hc_92.mp c_92
                    have hNL_87 : i = nc r2 := by omega
                    rw [hNL_87] at hsL_87
                    have hsL_87 : w_87 = hh_fld (fun (i9 : Nat) (z : hh_M) => hl_X5_copyFrom_87 r r2 i9 z) ((v_82 (hh_rI r) 6).toNatClampNeg) v_82 := by rw [hsL_87, show (v_82 (hh_rI r) 6).toNatClampNeg = nc r2 from by rw [hh_T_r6 hTv_82 r, hh_fu_s]; exact nI_clamp (by omega)]
                    have ew_87 : w_87 = hh_fld (fun (i9 : Nat) (z : hh_M) => hl_X5_copyFrom_87 r r2 i9 z) ((v_82 (hh_rI r) 6).toNatClampNeg) v_82 := hsL_87
                    clear ih hsL_87
                    refine lv_aload_n hx hb dX5_copyFrom_116 rfl (lv_at hl 1 rfl) ?_
                    refine lv_aload_n hx hb dX5_copyFrom_117 rfl (lv_at hl 2 rfl) ?_
                    refine hh_get C0 hp (C := RX5) (T := TX5) (N := 10) (ci := 5) (hh_b_r hr2) (hh_E_r r2) rfl hh_uX5 7 (by decide) hm_113 rfl rfl dX5_copyFrom_118 ?_
                    refine hh_put C0 hp (C := RX5) (T := TX5) (N := 10) (ci := 5) (k := 7) (ty := .int) (hh_b_r hr) (hh_E_r r) (hh_pr7 r) rfl hh_uX5 tyX5_ok nmX5 (by decide) hm_113 rfl rfl (by decide +kernel) rfl rfl (Nat.le_of_ble_eq_true rfl) dX5_copyFrom_121 (fun H locs hp => ?_)
                    obtain ⟨v_121, ev_121⟩ : ∃ z : hh_M, z = hh_up w_87 (hh_rI r) 7 (w_87 (hh_rI r2) 7) := ⟨_, rfl⟩
                    rw [← ev_121] at hp
                    have hTv_121 : hh_T nm (hh_fu nh r (nh r2)) (hh_fu nc r (nc r2)) v_121 := by rw [ev_121]; exact hh_T_up hTw_87 (hh_Rt_r hr (by decide))
                    refine lv_aload_n hx hb dX5_copyFrom_124 rfl (lv_at hl 1 rfl) ?_
                    refine lv_aload_n hx hb dX5_copyFrom_125 rfl (lv_at hl 2 rfl) ?_
                    refine hh_get C0 hp (C := RX5) (T := TX5) (N := 10) (ci := 5) (hh_b_r hr2) (hh_E_r r2) rfl hh_uX5 8 (by decide) hm_114 rfl rfl dX5_copyFrom_126 ?_
                    refine hh_put C0 hp (C := RX5) (T := TX5) (N := 10) (ci := 5) (k := 8) (ty := .int) (hh_b_r hr) (hh_E_r r) (hh_pr8 r) rfl hh_uX5 tyX5_ok nmX5 (by decide) hm_114 rfl rfl (by decide +kernel) rfl rfl (Nat.le_of_ble_eq_true rfl) dX5_copyFrom_129 (fun H locs hp => ?_)
                    obtain ⟨v_129, ev_129⟩ : ∃ z : hh_M, z = hh_up v_121 (hh_rI r) 8 (v_121 (hh_rI r2) 8) := ⟨_, rfl⟩
                    rw [← ev_129] at hp
                    have hTv_129 : hh_T nm (hh_fu nh r (nh r2)) (hh_fu nc r (nc r2)) v_129 := by rw [ev_129]; exact hh_T_up hTv_121 (hh_Rt_r hr (by decide))
                    refine lv_aload_n hx hb dX5_copyFrom_132 rfl (lv_at hl 1 rfl) ?_
                    refine lv_aload_n hx hb dX5_copyFrom_133 rfl (lv_at hl 2 rfl) ?_
                    refine hh_get C0 hp (C := RX5) (T := TX5) (N := 10) (ci := 5) (hh_b_r hr2) (hh_E_r r2) rfl hh_uX5 9 (by decide) hm_115 rfl rfl dX5_copyFrom_134 ?_
                    refine hh_put C0 hp (C := RX5) (T := TX5) (N := 10) (ci := 5) (k := 9) (ty := .int) (hh_b_r hr) (hh_E_r r) (hh_pr9 r) rfl hh_uX5 tyX5_ok nmX5 (by decide) hm_115 rfl rfl (by decide +kernel) rfl rfl (Nat.le_of_ble_eq_true rfl) dX5_copyFrom_137 (fun H locs hp => ?_)
                    obtain ⟨v_137, ev_137⟩ : ∃ z : hh_M, z = hh_up v_129 (hh_rI r) 9 (v_129 (hh_rI r2) 9) := ⟨_, rfl⟩
                    rw [← ev_137] at hp
                    have hTv_137 : hh_T nm (hh_fu nh r (nh r2)) (hh_fu nc r (nc r2)) v_137 := by rw [ev_137]; exact hh_T_up hTv_129 (hh_Rt_r hr (by decide))
                    exact hh_vret C0 hp dX5_copyFrom_140 ⟨(by show _ = _; unfold hf_X5_copyFrom; rw [hh_let_eq ew_2, hh_let_eq ev_43, hh_let_eq ew_48, hh_let_eq ev_82, hh_let_eq ew_87, hh_let_eq ev_121, hh_let_eq ev_129, hh_let_eq ev_137]), hTv_137⟩
                  · have hbc_92 : (w_87 (hh_rI r) 6) = nI (nc r2) := (hh_T_r6 hTw_87 r).trans (by rw [hh_fu_s])
                    rw [hbc_92] at c_92
                    have hc_92 := (nI_leI (a := nc r2) (b := i) (by omega) (by omega))
                    have hltc_92 : i < nc r2 := by exact Nat.not_le.mp (fun z => c_92 (hc_92.mpr z))
                    refine lv_aload_n hx hb dX5_copyFrom_95 rfl (lv_at hl 1 rfl) ?_
                    refine hh_get C0 hp (C := RX5) (T := TX5) (N := 10) (ci := 5) (hh_b_r hr) (hh_E_r r) rfl hh_uX5 4 (by decide) hm_105 rfl rfl dX5_copyFrom_96 ?_
                    refine lv_iload_n hx hb dX5_copyFrom_99 rfl (lv_at hl 0 rfl) ?_
                    refine hh_aal C0 hp (t0 := 4) (f := (hh_cI r)) (hh_b_C hr) (hh_E_C r) rfl rfl (vp_in_nI (by omega) (by decide)) (nI_clamp (by omega)) dX5_copyFrom_100 ?_
                    refine lv_aload_n hx hb dX5_copyFrom_101 rfl (lv_at hl 2 rfl) ?_
                    refine hh_get C0 hp (C := RX5) (T := TX5) (N := 10) (ci := 5) (hh_b_r hr2) (hh_E_r r2) rfl hh_uX5 4 (by decide) hm_105 rfl rfl dX5_copyFrom_102 ?_
                    refine lv_iload_n hx hb dX5_copyFrom_105 rfl (lv_at hl 0 rfl) ?_
                    refine hh_aal C0 hp (t0 := 4) (f := (hh_cI r2)) (hh_b_C hr2) (hh_E_C r2) rfl rfl (vp_in_nI (by omega) (by decide)) (nI_clamp (by omega)) dX5_copyFrom_106 ?_
                    refine hh_cVv C0 hp (As := [.ref (ad (hh_cI r2 i))]) (rest := []) (C := RX0) (T := TX0) (N := 7) (ci := 0) (n := 1) (hk_X0_copyFrom l D K ad hTw_87 r i r2 i hr (by omega : i < 24) hr2 (by omega : i < 24)) rfl (hh_b_c hr (by omega : i < 24)) (hh_E_c r (by omega : i < 24)) (hh_gV hm_119 hm_120 hm_121 hm_107 hm_18) ⟨rfl, rfl⟩ (by decide +kernel) ⟨Nat.le_of_ble_eq_true rfl, Nat.le_of_ble_eq_true rfl⟩ ⟨Nat.zero_le _, Nat.zero_le _⟩ hl.1 rfl rfl (Nat.le_of_ble_eq_true rfl) dX5_copyFrom_107 (fun v_107 H locs hv_107 hp => ?_)
                    obtain ⟨ev_107, hTv_107⟩ := hv_107
                    refine lv_iinc (v := (nI (i + 1))) (lv' := [(2, .int (nI (i + 1))), (0, .ref (ad (hh_rI r))), (1, .ref (ad (hh_rI r2)))]) hx hb dX5_copyFrom_110 hl (k := 0) rfl (nI_1 i) (by decide) rfl (fun ls hl => ?_)
                    refine lv_goto (tgt := 87) hx hb dX5_copyFrom_113 (by decide) ?_
                    exact ih (i + 1) v_107 _ _ _ (by omega) (by omega) (by rw [hh_fld, ← hsL_87]; show _ = hl_X5_copyFrom_87 r r2 i w_87; unfold hl_X5_copyFrom_87; rw [hh_let_eq ev_107]) hTv_107 hp (lv_sub hl [0, 1, 2] rfl)
              exact hL_87 (nc r2 + 1) 0 v_82 _ _ _ (Nat.zero_le _) (by omega) rfl hTv_82 hp (lv_sub hl [0, 1, 2] rfl)
            · have hbc_53 : (w_48 (hh_rI r) 5) = nI (nh r2) := (hh_T_r5 hTw_48 r).trans (by rw [hh_fu_s])
              rw [hbc_53] at c_53
              have hc_53 := (nI_leI (a := nh r2) (b := i) (by omega) (by omega))
              have hltc_53 : i < nh r2 := by exact Nat.not_le.mp (fun z => c_53 (hc_53.mpr z))
              refine lv_aload_n hx hb dX5_copyFrom_56 rfl (lv_at hl 1 rfl) ?_
              refine hh_get C0 hp (C := RX5) (T := TX5) (N := 10) (ci := 5) (hh_b_r hr) (hh_E_r r) rfl hh_uX5 3 (by decide) hm_101 rfl rfl dX5_copyFrom_57 ?_
              refine lv_iload_n hx hb dX5_copyFrom_60 rfl (lv_at hl 0 rfl) ?_
              refine hh_aal C0 hp (t0 := 3) (f := (hh_hI r)) (hh_b_H hr) (hh_E_H r) rfl rfl (vp_in_nI (by omega) (by decide)) (nI_clamp (by omega)) dX5_copyFrom_61 ?_
              refine lv_aload_n hx hb dX5_copyFrom_62 rfl (lv_at hl 2 rfl) ?_
              refine hh_get C0 hp (C := RX5) (T := TX5) (N := 10) (ci := 5) (hh_b_r hr2) (hh_E_r r2) rfl hh_uX5 3 (by decide) hm_101 rfl rfl dX5_copyFrom_63 ?_
              refine lv_iload_n hx hb dX5_copyFrom_66 rfl (lv_at hl 0 rfl) ?_
              refine hh_aal C0 hp (t0 := 3) (f := (hh_hI r2)) (hh_b_H hr2) (hh_E_H r2) rfl rfl (vp_in_nI (by omega) (by decide)) (nI_clamp (by omega)) dX5_copyFrom_67 ?_
              refine hh_cVv C0 hp (As := [.ref (ad (hh_hI r2 i))]) (rest := []) (C := RX1) (T := TX1) (N := 13) (ci := 1) (n := 1) (hk_X1_copyFrom l D K ad hTw_48 r i r2 i hr (by omega : i < 8) hr2 (by omega : i < 8)) rfl (hh_b_h hr (by omega : i < 8)) (hh_E_h r (by omega : i < 8)) (hh_gV hm_116 hm_117 hm_118 hm_103 hm_46) ⟨rfl, rfl⟩ (by decide +kernel) ⟨Nat.le_of_ble_eq_true rfl, Nat.le_of_ble_eq_true rfl⟩ ⟨Nat.zero_le _, Nat.zero_le _⟩ hl.1 rfl rfl (Nat.le_of_ble_eq_true rfl) dX5_copyFrom_68 (fun v_68 H locs hv_68 hp => ?_)
              obtain ⟨ev_68, hTv_68⟩ := hv_68
              refine lv_iinc (v := (nI (i + 1))) (lv' := [(2, .int (nI (i + 1))), (0, .ref (ad (hh_rI r))), (1, .ref (ad (hh_rI r2)))]) hx hb dX5_copyFrom_71 hl (k := 0) rfl (nI_1 i) (by decide) rfl (fun ls hl => ?_)
              refine lv_goto (tgt := 48) hx hb dX5_copyFrom_74 (by decide) ?_
              exact ih (i + 1) v_68 _ _ _ (by omega) (by omega) (by rw [hh_fld, ← hsL_48]; show _ = hl_X5_copyFrom_48 r r2 i w_48; unfold hl_X5_copyFrom_48; rw [hh_let_eq ev_68]) hTv_68 hp (lv_sub hl [0, 1, 2] rfl)
        exact hL_48 (nh r2 + 1) 0 v_43 _ _ _ (Nat.zero_le _) (by omega) rfl hTv_43 hp (lv_sub hl [0, 1, 2] rfl)
      · have hbc_5 : 6 = nI 6 := rfl
        rw [hbc_5] at c_5
        have hc_5 := (nI_leI (a := 6) (b := i) (by omega) (by omega))
        have hltc_5 : i < 6 := by exact Nat.not_le.mp (fun z => c_5 (hc_5.mpr z))
        refine lv_aload_n hx hb dX5_copyFrom_8 rfl (lv_at hl 1 rfl) ?_
        refine hh_get C0 hp (C := RX5) (T := TX5) (N := 10) (ci := 5) (hh_b_r hr) (hh_E_r r) rfl hh_uX5 1 (by decide) hm_98 rfl rfl dX5_copyFrom_9 ?_
        refine lv_iload_n hx hb dX5_copyFrom_12 rfl (lv_at hl 0 rfl) ?_
        refine lv_aload_n hx hb dX5_copyFrom_13 rfl (lv_at hl 2 rfl) ?_
        refine hh_get C0 hp (C := RX5) (T := TX5) (N := 10) (ci := 5) (hh_b_r hr2) (hh_E_r r2) rfl hh_uX5 1 (by decide) hm_98 rfl rfl dX5_copyFrom_14 ?_
        refine lv_iload_n hx hb dX5_copyFrom_17 rfl (lv_at hl 0 rfl) ?_
        refine hh_ial C0 hp (hh_b_l hr2) (hh_E_l r2) (vp_in_nI (by omega) (by decide)) (nI_clamp (by omega)) dX5_copyFrom_18 ?_
        refine hh_ias C0 hp (hh_b_l hr) (fun _ => (hh_E_l r)) (vp_in_nI (by omega) (by decide)) (nI_clamp (by omega)) dX5_copyFrom_19 (fun H locs hp => ?_)
        obtain ⟨v_19, ev_19⟩ : ∃ z : hh_M, z = hh_up w_2 (hh_lI r) i (w_2 (hh_lI r2) i) := ⟨_, rfl⟩
        rw [← ev_19] at hp
        have hTv_19 : hh_T nm nh nc v_19 := by rw [ev_19]; exact hh_T_up hTw_2 (hh_Rt_l hr)
        refine lv_aload_n hx hb dX5_copyFrom_20 rfl (lv_at hl 1 rfl) ?_
        refine hh_get C0 hp (C := RX5) (T := TX5) (N := 10) (ci := 5) (hh_b_r hr) (hh_E_r r) rfl hh_uX5 2 (by decide) hm_99 rfl rfl dX5_copyFrom_21 ?_
        refine lv_iload_n hx hb dX5_copyFrom_24 rfl (lv_at hl 0 rfl) ?_
        refine lv_aload_n hx hb dX5_copyFrom_25 rfl (lv_at hl 2 rfl) ?_
        refine hh_get C0 hp (C := RX5) (T := TX5) (N := 10) (ci := 5) (hh_b_r hr2) (hh_E_r r2) rfl hh_uX5 2 (by decide) hm_99 rfl rfl dX5_copyFrom_26 ?_
        refine lv_iload_n hx hb dX5_copyFrom_29 rfl (lv_at hl 0 rfl) ?_
        refine hh_ial C0 hp (hh_b_k hr2) (hh_E_k r2) (vp_in_nI (by omega) (by decide)) (nI_clamp (by omega)) dX5_copyFrom_30 ?_
        refine hh_ias C0 hp (hh_b_k hr) (fun _ => (hh_E_k r)) (vp_in_nI (by omega) (by decide)) (nI_clamp (by omega)) dX5_copyFrom_31 (fun H locs hp => ?_)
        obtain ⟨v_31, ev_31⟩ : ∃ z : hh_M, z = hh_up v_19 (hh_kI r) i (v_19 (hh_kI r2) i) := ⟨_, rfl⟩
        rw [← ev_31] at hp
        have hTv_31 : hh_T nm nh nc v_31 := by rw [ev_31]; exact hh_T_up hTv_19 (hh_Rt_k hr)
        refine lv_iinc (v := (nI (i + 1))) (lv' := [(2, .int (nI (i + 1))), (0, .ref (ad (hh_rI r))), (1, .ref (ad (hh_rI r2)))]) hx hb dX5_copyFrom_32 hl (k := 0) rfl (nI_1 i) (by decide) rfl (fun ls hl => ?_)
        refine lv_goto (tgt := 2) hx hb dX5_copyFrom_35 (by decide) ?_
        exact ih (i + 1) v_31 _ _ _ (by omega) (by omega) (by rw [hh_fld, ← hsL_2]; show _ = hl_X5_copyFrom_2 r r2 i w_2; unfold hl_X5_copyFrom_2; rw [hh_let_eq ev_19, hh_let_eq ev_31]) hTv_31 hp (lv_sub hl [0, 1, 2] rfl)
  exact hL_2 (6 + 1) 0 v _ _ _ (Nat.zero_le _) (by omega) rfl hT hp (lv_sub hl [0, 1, 2] rfl)
end
section
/-! 16.survey: laid by program (wip/gen/mk10.py) -/
def hf_X6_takeMast (v : hh_M) (r : Nat) (number : Int32) (frequency : Int32) (place : Int32) : hh_M := (hh_let (hf_X5_qualityAt v r number place : Int32) (fun (q_15 : Int32) => (if (v (hh_mI number.toNatClampNeg) 2) = frequency then (hh_let ((if (v 6 place.toNatClampNeg) < q_15 then q_15 else (v 6 place.toNatClampNeg)) : Int32) (fun (x_44 : Int32) => (hh_let (hh_up v 6 place.toNatClampNeg x_44 : hh_M) (fun (v_47 : hh_M) => (hh_let (hf_X3_noiseAt v_47 number.toNatClampNeg place : Int32) (fun (q_60 : Int32) => (hh_let (hh_up v_47 7 place.toNatClampNeg ((v_47 7 place.toNatClampNeg) + q_60) : hh_M) (fun (v_64 : hh_M) => v_64)))))))) else (hh_let ((if (v 5 place.toNatClampNeg) < q_15 then q_15 else (v 5 place.toNatClampNeg)) : Int32) (fun (x_83 : Int32) => (hh_let (hh_up v 5 place.toNatClampNeg x_83 : hh_M) (fun (v_86 : hh_M) => v_86)))))))
set_option maxHeartbeats 4000000 in
set_option maxRecDepth 100000 in
theorem hk_X6_takeMast (l : Launch) (D : va_G) (K : Nat → ClassId) (ad : Nat → Nat) {nm : Nat} {nh nc : Nat → Nat} {v : hh_M} (hT : hh_T nm nh nc v) (r : Nat) (number : Int32) (frequency : Int32) (place : Int32) (hr : r < 2) (h1 : vp_in number 6) (h2 : vp_in place 100) : hh_Kv l D K ad yX6_takeMast (hh_wm yX6_takeMast cX6_takeMast 7 none) { frames := 2, cells := 0, slots := 0, locals := 43 } [.ref (ad 4), .ref (ad (hh_rI r)), .int number, .int frequency, .int place] v (fun (v1 : hh_M) => v1 = hf_X6_takeMast v r number frequency place ∧ hh_T nm nh nc v1) := by
  refine hh_Kv_of (by decide) (Nat.le_of_ble_eq_true rfl) ?_
  intro p e s m args below meth c ls A C0 hp hl
  obtain ⟨hx, hb, hr9, hml, hown, hts, hK, hlk, hA⟩ := id C0
  have hnm := hT.1
  have hnh := hT.2.1
  have hnc := hT.2.2.1
  have hbHr := hnh r
  have hbCr := hnc r
  have hl : lv_has ls 7 [(0, .ref (ad 4)), (1, .ref (ad (hh_rI r))), (2, .int number), (3, .int frequency), (4, .int place)] := hl
  refine lv_aload_n hx hb dX6_takeMast_0 rfl (lv_at hl 1 rfl) ?_
  refine hh_get C0 hp (C := RX5) (T := TX5) (N := 10) (ci := 5) (hh_b_r hr) (hh_E_r r) rfl hh_uX5 0 (by decide) hm_283 rfl rfl dX6_takeMast_1 ?_
  refine hh_get C0 hp (C := RX4) (T := TX4) (N := 3) (ci := 4) (by decide) hh_E_1 rfl hh_uX4 0 (by decide) hm_290 rfl rfl dX6_takeMast_4 ?_
  refine lv_iload_n hx hb dX6_takeMast_7 rfl (lv_at hl 2 rfl) ?_
  have hin_8 : vp_in number 6 := by assumption
  refine hh_aal C0 hp (t0 := 2) (f := hh_mI) (by decide) hh_E_2 rfl rfl hin_8 rfl dX6_takeMast_8 ?_
  refine lv_astore (lv' := [(5, .ref (ad (hh_mI number.toNatClampNeg))), (0, .ref (ad 4)), (1, .ref (ad (hh_rI r))), (2, .int number), (3, .int frequency), (4, .int place)]) hx hb dX6_takeMast_9 hl (by decide) rfl (fun ls hl => ?_)
  refine lv_aload_n hx hb dX6_takeMast_11 rfl (lv_at hl 2 rfl) ?_
  refine lv_iload_n hx hb dX6_takeMast_12 rfl (lv_at hl 3 rfl) ?_
  refine lv_iload hx hb dX6_takeMast_13 (lv_at hl 5 rfl) ?_
  refine hh_cVi C0 hp (As := [.int number, .int place]) (rest := []) (C := RX5) (T := TX5) (N := 10) (ci := 5) (n := 2) (hk_X5_qualityAt l D K ad hT r number place hr (by assumption) (by assumption)) rfl (hh_b_r hr) (hh_E_r r) (hh_gV hm_296 hm_126 hm_127 hm_128 hm_122) ⟨rfl, rfl⟩ (by decide +kernel) ⟨Nat.le_of_ble_eq_true rfl, Nat.le_of_ble_eq_true rfl⟩ ⟨Nat.zero_le _, Nat.zero_le _⟩ hl.1 rfl rfl (Nat.le_of_ble_eq_true rfl) dX6_takeMast_15 (fun q_15 v_15 H locs hv_15 hp => ?_)
  obtain ⟨eq_15, hv9⟩ := hv_15
  rw [hv9] at hp; clear hv9
  refine lv_istore (lv' := [(6, .int q_15), (5, .ref (ad (hh_mI number.toNatClampNeg))), (0, .ref (ad 4)), (1, .ref (ad (hh_rI r))), (2, .int number), (3, .int frequency), (4, .int place)]) hx hb dX6_takeMast_18 hl (by decide) rfl (fun ls hl => ?_)
  refine lv_aload hx hb dX6_takeMast_20 (lv_at hl 1 rfl) ?_
  refine hh_get C0 hp (C := RX3) (T := TX3) (N := 7) (ci := 3) (hh_b_m (hh_lt hin_8)) (hh_E_m (hh_lt hin_8)) rfl hh_uX3 2 (by decide) hm_291 rfl rfl dX6_takeMast_22 ?_
  refine lv_iload_n hx hb dX6_takeMast_25 rfl (lv_at hl 5 rfl) ?_
  refine lv_icmp_ne (tgt := 68) hx hb dX6_takeMast_26 (by decide) (fun c_26 => ?_) (fun c_26 => ?_)
  · refine lv_aload_n hx hb dX6_takeMast_68 rfl (lv_at hl 2 rfl) ?_
    refine hh_get C0 hp (C := RX6) (T := TX6) (N := 3) (ci := 6) (by decide) hh_E_4 rfl hh_uX6 0 (by decide) hm_279 rfl rfl dX6_takeMast_69 ?_
    refine lv_iload hx hb dX6_takeMast_72 (lv_at hl 6 rfl) ?_
    refine lv_aload_n hx hb dX6_takeMast_74 rfl (lv_at hl 2 rfl) ?_
    refine hh_get C0 hp (C := RX6) (T := TX6) (N := 3) (ci := 6) (by decide) hh_E_4 rfl hh_uX6 0 (by decide) hm_279 rfl rfl dX6_takeMast_75 ?_
    refine lv_iload hx hb dX6_takeMast_78 (lv_at hl 6 rfl) ?_
    have hin_80 : vp_in place 100 := by assumption
    refine hh_ial C0 hp (by decide) hh_E_5 hin_80 rfl dX6_takeMast_80 ?_
    refine lv_iload hx hb dX6_takeMast_81 (lv_at hl 0 rfl) ?_
    refine va_mmax hx hb (hml.trans hl.1.symm) hown (hts _ hm_292) (hts _ hm_293) (hts _ hm_294) (hts _ hm_295) (Nat.le_of_ble_eq_true rfl) (Nat.le_of_ble_eq_true rfl) (Nat.zero_le _) (Nat.zero_le _) dX6_takeMast_83 ?_
    refine lv_topi (fun x_83 ex_83 => ?_)
    have hin_86 : vp_in place 100 := by assumption
    refine hh_ias C0 hp (by decide) (fun _ => hh_E_5) hin_86 rfl dX6_takeMast_86 (fun H locs hp => ?_)
    obtain ⟨v_86, ev_86⟩ : ∃ z : hh_M, z = hh_up v 5 place.toNatClampNeg x_83 := ⟨_, rfl⟩
    rw [← ev_86] at hp
    have hTv_86 : hh_T nm nh nc v_86 := by rw [ev_86]; exact hh_T_up hT (hh_Rt_sU)
    exact hh_vret C0 hp dX6_takeMast_87 ⟨(by show _ = _; unfold hf_X6_takeMast; rw [hh_let_eq eq_15, if_neg c_26, hh_let_eq ex_83, hh_let_eq ev_86]), hTv_86⟩
  · refine lv_aload_n hx hb dX6_takeMast_29 rfl (lv_at hl 2 rfl) ?_
    refine hh_get C0 hp (C := RX6) (T := TX6) (N := 3) (ci := 6) (by decide) hh_E_4 rfl hh_uX6 1 (by decide) hm_280 rfl rfl dX6_takeMast_30 ?_
    refine lv_iload hx hb dX6_takeMast_33 (lv_at hl 6 rfl) ?_
    refine lv_aload_n hx hb dX6_takeMast_35 rfl (lv_at hl 2 rfl) ?_
    refine hh_get C0 hp (C := RX6) (T := TX6) (N := 3) (ci := 6) (by decide) hh_E_4 rfl hh_uX6 1 (by decide) hm_280 rfl rfl dX6_takeMast_36 ?_
    refine lv_iload hx hb dX6_takeMast_39 (lv_at hl 6 rfl) ?_
    have hin_41 : vp_in place 100 := by assumption
    refine hh_ial C0 hp (by decide) hh_E_6 hin_41 rfl dX6_takeMast_41 ?_
    refine lv_iload hx hb dX6_takeMast_42 (lv_at hl 0 rfl) ?_
    refine va_mmax hx hb (hml.trans hl.1.symm) hown (hts _ hm_292) (hts _ hm_293) (hts _ hm_294) (hts _ hm_295) (Nat.le_of_ble_eq_true rfl) (Nat.le_of_ble_eq_true rfl) (Nat.zero_le _) (Nat.zero_le _) dX6_takeMast_44 ?_
    refine lv_topi (fun x_44 ex_44 => ?_)
    have hin_47 : vp_in place 100 := by assumption
    refine hh_ias C0 hp (by decide) (fun _ => hh_E_6) hin_47 rfl dX6_takeMast_47 (fun H locs hp => ?_)
    obtain ⟨v_47, ev_47⟩ : ∃ z : hh_M, z = hh_up v 6 place.toNatClampNeg x_44 := ⟨_, rfl⟩
    rw [← ev_47] at hp
    have hTv_47 : hh_T nm nh nc v_47 := by rw [ev_47]; exact hh_T_up hT (hh_Rt_sD)
    refine lv_aload_n hx hb dX6_takeMast_48 rfl (lv_at hl 2 rfl) ?_
    refine hh_get C0 hp (C := RX6) (T := TX6) (N := 3) (ci := 6) (by decide) hh_E_4 rfl hh_uX6 2 (by decide) hm_281 rfl rfl dX6_takeMast_49 ?_
    refine lv_iload hx hb dX6_takeMast_52 (lv_at hl 6 rfl) ?_
    refine lv_dup2_11 hx hb dX6_takeMast_54 rfl rfl ?_
    have hin_55 : vp_in place 100 := by assumption
    refine hh_ial C0 hp (by decide) hh_E_7 hin_55 rfl dX6_takeMast_55 ?_
    refine lv_aload hx hb dX6_takeMast_56 (lv_at hl 1 rfl) ?_
    refine lv_iload hx hb dX6_takeMast_58 (lv_at hl 6 rfl) ?_
    refine hh_cVi C0 hp (As := [.int place]) (rest := [.int (v_47 7 place.toNatClampNeg), .int place, .ref (ad 7)]) (C := RX3) (T := TX3) (N := 7) (ci := 3) (n := 1) (hk_X3_noiseAt l D K ad hTv_47 number.toNatClampNeg place (hh_lt hin_8)) rfl (hh_b_m (hh_lt hin_8)) (hh_E_m (hh_lt hin_8)) (hh_gV hm_297 hm_90 hm_91 hm_63 hm_57) ⟨rfl, rfl⟩ (by decide +kernel) ⟨Nat.le_of_ble_eq_true rfl, Nat.le_of_ble_eq_true rfl⟩ ⟨Nat.zero_le _, Nat.zero_le _⟩ hl.1 rfl rfl (Nat.le_of_ble_eq_true rfl) dX6_takeMast_60 (fun q_60 v_60 H locs hv_60 hp => ?_)
    obtain ⟨eq_60, hv9⟩ := hv_60
    rw [hv9] at hp; clear hv9
    refine lv_iadd hx hb dX6_takeMast_63 ?_
    have hin_64 : vp_in place 100 := by assumption
    refine hh_ias C0 hp (by decide) (fun _ => hh_E_7) hin_64 rfl dX6_takeMast_64 (fun H locs hp => ?_)
    obtain ⟨v_64, ev_64⟩ : ∃ z : hh_M, z = hh_up v_47 7 place.toNatClampNeg ((v_47 7 place.toNatClampNeg) + q_60) := ⟨_, rfl⟩
    rw [← ev_64] at hp
    have hTv_64 : hh_T nm nh nc v_64 := by rw [ev_64]; exact hh_T_up hTv_47 (hh_Rt_sN)
    refine lv_goto (tgt := 87) hx hb dX6_takeMast_65 (by decide) ?_
    exact hh_vret C0 hp dX6_takeMast_87 ⟨(by show _ = _; unfold hf_X6_takeMast; rw [hh_let_eq eq_15, if_pos c_26, hh_let_eq ex_44, hh_let_eq ev_47, hh_let_eq eq_60, hh_let_eq ev_64]), hTv_64⟩
def hl_X6_take_36 (r : Nat) (frequency : Int32) (i : Nat) (j : Nat) (w_36 : hh_M) : hh_M := (hh_let (hf_X6_takeMast w_36 r (nI j) frequency (nI i) : hh_M) (fun (v_54 : hh_M) => v_54))
def hl_X6_take_2 (r : Nat) (frequency : Int32) (i : Nat) (w_2 : hh_M) : hh_M := (hh_let (hh_up w_2 5 i (-1000) : hh_M) (fun (v_16 : hh_M) => (hh_let (hh_up v_16 6 i (-1000) : hh_M) (fun (v_25 : hh_M) => (hh_let (hh_up v_25 7 i 0 : hh_M) (fun (v_32 : hh_M) => (hh_let (hh_fld (fun (i9 : Nat) (z : hh_M) => hl_X6_take_36 r frequency i i9 z) ((v_32 1 2).toNatClampNeg) v_32 : hh_M) (fun (w_36 : hh_M) => w_36))))))))
def hf_X6_take (v : hh_M) (r : Nat) (frequency : Int32) : hh_M := (hh_let (hh_fld (fun (i9 : Nat) (z : hh_M) => hl_X6_take_2 r frequency i9 z) 100 v : hh_M) (fun (w_2 : hh_M) => w_2))
set_option maxHeartbeats 4000000 in
set_option maxRecDepth 100000 in
theorem hk_X6_take (l : Launch) (D : va_G) (K : Nat → ClassId) (ad : Nat → Nat) {nm : Nat} {nh nc : Nat → Nat} {v : hh_M} (hT : hh_T nm nh nc v) (r : Nat) (frequency : Int32) (hr : r < 2) : hh_Kv l D K ad yX6_take (hh_wm yX6_take cX6_take 5 none) { frames := 3, cells := 0, slots := 0, locals := 69 } [.ref (ad 4), .ref (ad (hh_rI r)), .int frequency] v (fun (v1 : hh_M) => v1 = hf_X6_take v r frequency ∧ hh_T nm nh nc v1) := by
  refine hh_Kv_of (by decide) (Nat.le_of_ble_eq_true rfl) ?_
  intro p e s m args below meth c ls A C0 hp hl
  obtain ⟨hx, hb, hr9, hml, hown, hts, hK, hlk, hA⟩ := id C0
  have hnm := hT.1
  have hnh := hT.2.1
  have hnc := hT.2.2.1
  have hbHr := hnh r
  have hbCr := hnc r
  have hl : lv_has ls 5 [(0, .ref (ad 4)), (1, .ref (ad (hh_rI r))), (2, .int frequency)] := hl
  refine lv_iconst (v := 0) hx hb dX6_take_0 (by decide) ?_
  refine lv_istore_n (lv' := [(3, .int 0), (0, .ref (ad 4)), (1, .ref (ad (hh_rI r))), (2, .int frequency)]) hx hb dX6_take_1 rfl hl (by decide) rfl (fun ls hl => ?_)
  have hL_2 : ∀ (n i : Nat) (w_2 : hh_M) (H : Heap) (locs : List Loc) (ls : Array Slot), i ≤ 100 → 100 - i < n → w_2 = hh_fld (fun (i9 : Nat) (z : hh_M) => hl_X6_take_2 r frequency i9 z) i v → hh_T nm nh nc w_2 → hh_H D K ad A s.heap w_2 H locs → lv_has ls 5 [(3, .int (nI i)), (0, .ref (ad 4)), (1, .ref (ad (hh_rI r))), (2, .int frequency)] → W p l e ({ frames := 3, cells := 0, slots := 0, locals := 69 } : Room) s m args below meth c H locs 0 0 (MQ below (va_Qv (fun (v1 : hh_M) => v1 = hf_X6_take v r frequency ∧ hh_T nm nh nc v1) (hh_B D K ad A) A) args s 0 0 A) (F0 m 2 ls []) := by
    intro n
    induction n with
    | zero => intro i w_2 H locs ls h1 h2; omega
    | succ n ih =>
      intro i w_2 H locs ls hii hni hsL_2 hTw_2 hp hl
      refine lv_iload_n hx hb dX6_take_2 rfl (lv_at hl 0 rfl) ?_
      refine lv_bipush (v := 100) hx hb dX6_take_3 (by decide) ?_
      refine lv_icmp_ge (tgt := 69) hx hb dX6_take_5 (by decide) (fun c_5 => ?_) (fun c_5 => ?_)
      · have hbc_5 : 100 = nI 100 := rfl
        rw [hbc_5] at c_5
        have hc_5 := (nI_leI (a := 100) (b := i) (by omega) (by omega))
        have hltc_5 : 100 ≤ i := by exact hc_5.mp c_5
        have hNL_2 : i = 100 := by omega
        rw [hNL_2] at hsL_2
        have ew_2 : w_2 = hh_fld (fun (i9 : Nat) (z : hh_M) => hl_X6_take_2 r frequency i9 z) 100 v := hsL_2
        clear ih hsL_2
        exact hh_vret C0 hp dX6_take_69 ⟨(by show _ = _; unfold hf_X6_take; rw [hh_let_eq ew_2]), hTw_2⟩
      · have hbc_5 : 100 = nI 100 := rfl
        rw [hbc_5] at c_5
        have hc_5 := (nI_leI (a := 100) (b := i) (by omega) (by omega))
        have hltc_5 : i < 100 := by exact Nat.not_le.mp (fun z => c_5 (hc_5.mpr z))
        refine lv_aload_n hx hb dX6_take_8 rfl (lv_at hl 1 rfl) ?_
        refine hh_get C0 hp (C := RX6) (T := TX6) (N := 3) (ci := 6) (by decide) hh_E_4 rfl hh_uX6 0 (by decide) hm_279 rfl rfl dX6_take_9 ?_
        refine lv_iload_n hx hb dX6_take_12 rfl (lv_at hl 0 rfl) ?_
        refine lv_sipush (v := (-1000)) hx hb dX6_take_13 (by decide) ?_
        refine hh_ias C0 hp (by decide) (fun _ => hh_E_5) (vp_in_nI (by omega) (by decide)) (nI_clamp (by omega)) dX6_take_16 (fun H locs hp => ?_)
        obtain ⟨v_16, ev_16⟩ : ∃ z : hh_M, z = hh_up w_2 5 i (-1000) := ⟨_, rfl⟩
        rw [← ev_16] at hp
        have hTv_16 : hh_T nm nh nc v_16 := by rw [ev_16]; exact hh_T_up hTw_2 (hh_Rt_sU)
        refine lv_aload_n hx hb dX6_take_17 rfl (lv_at hl 1 rfl) ?_
        refine hh_get C0 hp (C := RX6) (T := TX6) (N := 3) (ci := 6) (by decide) hh_E_4 rfl hh_uX6 1 (by decide) hm_280 rfl rfl dX6_take_18 ?_
        refine lv_iload_n hx hb dX6_take_21 rfl (lv_at hl 0 rfl) ?_
        refine lv_sipush (v := (-1000)) hx hb dX6_take_22 (by decide) ?_
        refine hh_ias C0 hp (by decide) (fun _ => hh_E_6) (vp_in_nI (by omega) (by decide)) (nI_clamp (by omega)) dX6_take_25 (fun H locs hp => ?_)
        obtain ⟨v_25, ev_25⟩ : ∃ z : hh_M, z = hh_up v_16 6 i (-1000) := ⟨_, rfl⟩
        rw [← ev_25] at hp
        have hTv_25 : hh_T nm nh nc v_25 := by rw [ev_25]; exact hh_T_up hTv_16 (hh_Rt_sD)
        refine lv_aload_n hx hb dX6_take_26 rfl (lv_at hl 1 rfl) ?_
        refine hh_get C0 hp (C := RX6) (T := TX6) (N := 3) (ci := 6) (by decide) hh_E_4 rfl hh_uX6 2 (by decide) hm_281 rfl rfl dX6_take_27 ?_
        refine lv_iload_n hx hb dX6_take_30 rfl (lv_at hl 0 rfl) ?_
        refine lv_iconst (v := 0) hx hb dX6_take_31 (by decide) ?_
        refine hh_ias C0 hp (by decide) (fun _ => hh_E_7) (vp_in_nI (by omega) (by decide)) (nI_clamp (by omega)) dX6_take_32 (fun H locs hp => ?_)
        obtain ⟨v_32, ev_32⟩ : ∃ z : hh_M, z = hh_up v_25 7 i 0 := ⟨_, rfl⟩
        rw [← ev_32] at hp
        have hTv_32 : hh_T nm nh nc v_32 := by rw [ev_32]; exact hh_T_up hTv_25 (hh_Rt_sN)
        refine lv_iconst (v := 0) hx hb dX6_take_33 (by decide) ?_
        refine lv_istore (lv' := [(4, .int 0), (3, .int (nI i)), (0, .ref (ad 4)), (1, .ref (ad (hh_rI r))), (2, .int frequency)]) hx hb dX6_take_34 hl (by decide) rfl (fun ls hl => ?_)
        have hL_36 : ∀ (n j : Nat) (w_36 : hh_M) (H : Heap) (locs : List Loc) (ls : Array Slot), j ≤ nm → nm - j < n → w_36 = hh_fld (fun (i9 : Nat) (z : hh_M) => hl_X6_take_36 r frequency i i9 z) j v_32 → hh_T nm nh nc w_36 → hh_H D K ad A s.heap w_36 H locs → lv_has ls 5 [(4, .int (nI j)), (3, .int (nI i)), (0, .ref (ad 4)), (1, .ref (ad (hh_rI r))), (2, .int frequency)] → W p l e ({ frames := 3, cells := 0, slots := 0, locals := 69 } : Room) s m args below meth c H locs 0 0 (MQ below (va_Qv (fun (v1 : hh_M) => v1 = hf_X6_take v r frequency ∧ hh_T nm nh nc v1) (hh_B D K ad A) A) args s 0 0 A) (F0 m 36 ls []) := by
          intro n
          induction n with
          | zero => intro j w_36 H locs ls h1 h2; omega
          | succ n ih =>
            intro j w_36 H locs ls hij hnj hsL_36 hTw_36 hp hl
            refine lv_iload hx hb dX6_take_36 (lv_at hl 0 rfl) ?_
            refine lv_aload_n hx hb dX6_take_38 rfl (lv_at hl 3 rfl) ?_
            refine hh_get C0 hp (C := RX5) (T := TX5) (N := 10) (ci := 5) (hh_b_r hr) (hh_E_r r) rfl hh_uX5 0 (by decide) hm_283 rfl rfl dX6_take_39 ?_
            refine hh_get C0 hp (C := RX4) (T := TX4) (N := 3) (ci := 4) (by decide) hh_E_1 rfl hh_uX4 2 (by decide) hm_284 rfl rfl dX6_take_42 ?_
            refine lv_icmp_ge (tgt := 63) hx hb dX6_take_45 (by decide) (fun c_45 => ?_) (fun c_45 => ?_)
            · have hbc_45 : (w_36 1 2) = nI nm := hh_T_M hTw_36
              rw [hbc_45] at c_45
              have hc_45 := (nI_leI (a := nm) (b := j) (by omega) (by omega))
              have hltc_45 : nm ≤ j := by exact hc_45.mp c_45
              have hNL_36 : j = nm := by omega
              rw [hNL_36] at hsL_36
              have hsL_36 : w_36 = hh_fld (fun (i9 : Nat) (z : hh_M) => hl_X6_take_36 r frequency i i9 z) ((v_32 1 2).toNatClampNeg) v_32 := by rw [hsL_36, show (v_32 1 2).toNatClampNeg = nm from by rw [hh_T_M hTv_32]; exact nI_clamp (by omega)]
              have ew_36 : w_36 = hh_fld (fun (i9 : Nat) (z : hh_M) => hl_X6_take_36 r frequency i i9 z) ((v_32 1 2).toNatClampNeg) v_32 := hsL_36
              clear ih hsL_36
              refine lv_iinc (v := (nI (i + 1))) (lv' := [(3, .int (nI (i + 1))), (4, .int (nI j)), (0, .ref (ad 4)), (1, .ref (ad (hh_rI r))), (2, .int frequency)]) hx hb dX6_take_63 hl (k := 1) rfl (nI_1 i) (by decide) rfl (fun ls hl => ?_)
              refine lv_goto (tgt := 2) hx hb dX6_take_66 (by decide) ?_
              exact ih (i + 1) w_36 _ _ _ (by omega) (by omega) (by rw [hh_fld, ← hsL_2]; show _ = hl_X6_take_2 r frequency i w_2; unfold hl_X6_take_2; rw [hh_let_eq ev_16, hh_let_eq ev_25, hh_let_eq ev_32, hh_let_eq ew_36]) hTw_36 hp (lv_sub hl [0, 2, 3, 4] rfl)
            · have hbc_45 : (w_36 1 2) = nI nm := hh_T_M hTw_36
              rw [hbc_45] at c_45
              have hc_45 := (nI_leI (a := nm) (b := j) (by omega) (by omega))
              have hltc_45 : j < nm := by exact Nat.not_le.mp (fun z => c_45 (hc_45.mpr z))
              refine lv_aload_n hx hb dX6_take_48 rfl (lv_at hl 2 rfl) ?_
              refine lv_aload_n hx hb dX6_take_49 rfl (lv_at hl 3 rfl) ?_
              refine lv_iload hx hb dX6_take_50 (lv_at hl 0 rfl) ?_
              refine lv_iload_n hx hb dX6_take_52 rfl (lv_at hl 4 rfl) ?_
              refine lv_iload_n hx hb dX6_take_53 rfl (lv_at hl 1 rfl) ?_
              refine hh_cVv C0 hp (As := [.ref (ad (hh_rI r)), .int (nI j), .int frequency, .int (nI i)]) (rest := []) (C := RX6) (T := TX6) (N := 3) (ci := 6) (n := 4) (hk_X6_takeMast l D K ad hTw_36 r (nI j) frequency (nI i) hr (vp_in_nI (by omega) (by decide)) (vp_in_nI (by omega) (by decide))) rfl (by decide) hh_E_4 (hh_gV hm_285 hm_286 hm_287 hm_288 hm_289) ⟨rfl, rfl⟩ (by decide +kernel) ⟨Nat.le_of_ble_eq_true rfl, Nat.le_of_ble_eq_true rfl⟩ ⟨Nat.zero_le _, Nat.zero_le _⟩ hl.1 rfl rfl (Nat.le_of_ble_eq_true rfl) dX6_take_54 (fun v_54 H locs hv_54 hp => ?_)
              obtain ⟨ev_54, hTv_54⟩ := hv_54
              refine lv_iinc (v := (nI (j + 1))) (lv' := [(4, .int (nI (j + 1))), (3, .int (nI i)), (0, .ref (ad 4)), (1, .ref (ad (hh_rI r))), (2, .int frequency)]) hx hb dX6_take_57 hl (k := 0) rfl (nI_1 j) (by decide) rfl (fun ls hl => ?_)
              refine lv_goto (tgt := 36) hx hb dX6_take_60 (by decide) ?_
              exact ih (j + 1) v_54 _ _ _ (by omega) (by omega) (by rw [hh_fld, ← hsL_36]; show _ = hl_X6_take_36 r frequency i j w_36; unfold hl_X6_take_36; rw [hh_let_eq ev_54]) hTv_54 hp (lv_sub hl [0, 1, 2, 3, 4] rfl)
        exact hL_36 (nm + 1) 0 v_32 _ _ _ (Nat.zero_le _) (by omega) rfl hTv_32 hp (lv_sub hl [0, 1, 2, 3, 4] rfl)
  exact hL_2 (100 + 1) 0 v _ _ _ (Nat.zero_le _) (by omega) rfl hT hp (lv_sub hl [0, 1, 2, 3] rfl)
def hl_X6_servedFrom_5 (v : hh_M) (newPlace : Int32) (power : Int32) (i : Nat) (a5_3 : Int32) : Int32 := (hh_let ((if 0 ≤ (newPlace - (nI i)) then (newPlace - (nI i)) else 0 - (newPlace - (nI i))) : Int32) (fun (x_17 : Int32) => (hh_let ((power - x_17) : Int32) (fun (x_21 : Int32) => (hh_let ((if x_21 ≤ 0 then 0 else (x_21 / 3)) : Int32) (fun (j36_0 : Int32) => (if 5 ≤ (v 5 i) then (hh_let ((a5_3 + 1) : Int32) (fun (x_77 : Int32) => x_77)) else (if 5 ≤ ((v 6 i) - j36_0) then (hh_let ((a5_3 + 1) : Int32) (fun (x_77 : Int32) => x_77)) else (if (x_21 - (v 7 i)) < 5 then a5_3 else (hh_let ((a5_3 + 1) : Int32) (fun (x_77 : Int32) => x_77)))))))))))
def hf_X6_servedFrom (v : hh_M) (newPlace : Int32) (power : Int32) : Int32 := (hh_let (hh_fld (fun (i9 : Nat) (z : Int32) => hl_X6_servedFrom_5 v newPlace power i9 z) 100 0 : Int32) (fun (a5_3 : Int32) => a5_3))
set_option maxHeartbeats 4000000 in
set_option maxRecDepth 100000 in
theorem hk_X6_servedFrom (l : Launch) (D : va_G) (K : Nat → ClassId) (ad : Nat → Nat) {nm : Nat} {nh nc : Nat → Nat} {v : hh_M} (hT : hh_T nm nh nc v) (newPlace : Int32) (power : Int32) : hh_Ki l D K ad yX6_servedFrom (hh_wm yX6_servedFrom cX6_servedFrom 7 (some .int)) { frames := 1, cells := 0, slots := 0, locals := 21 } [.ref (ad 4), .int newPlace, .int power] v (fun (q : Int32) (v1 : hh_M) => q = hf_X6_servedFrom v newPlace power ∧ v1 = v) := by
  refine hh_Ki_of (by decide) (Nat.le_of_ble_eq_true rfl) ?_
  intro p e s m args below meth c ls A C0 hp hl
  obtain ⟨hx, hb, hr9, hml, hown, hts, hK, hlk, hA⟩ := id C0
  have hnm := hT.1
  have hnh := hT.2.1
  have hnc := hT.2.2.1
  have hl : lv_has ls 7 [(0, .ref (ad 4)), (1, .int newPlace), (2, .int power)] := hl
  refine lv_iconst (v := 0) hx hb dX6_servedFrom_0 (by decide) ?_
  refine lv_istore_n (lv' := [(3, .int 0), (0, .ref (ad 4)), (1, .int newPlace), (2, .int power)]) hx hb dX6_servedFrom_1 rfl hl (by decide) rfl (fun ls hl => ?_)
  refine lv_iconst (v := 0) hx hb dX6_servedFrom_2 (by decide) ?_
  refine lv_istore (lv' := [(4, .int 0), (3, .int 0), (0, .ref (ad 4)), (1, .int newPlace), (2, .int power)]) hx hb dX6_servedFrom_3 hl (by decide) rfl (fun ls hl => ?_)
  have hL_5 : ∀ (n i : Nat) (a5_3 : Int32) (H : Heap) (locs : List Loc) (ls : Array Slot), i ≤ 100 → 100 - i < n → a5_3 = hh_fld (fun (i9 : Nat) (z : Int32) => hl_X6_servedFrom_5 v newPlace power i9 z) i 0 → hh_H D K ad A s.heap v H locs → lv_has ls 7 [(4, .int (nI i)), (3, .int a5_3), (0, .ref (ad 4)), (1, .int newPlace), (2, .int power)] → W p l e ({ frames := 1, cells := 0, slots := 0, locals := 21 } : Room) s m args below meth c H locs 0 0 (MQ below (va_Qi (fun (q : Int32) (v1 : hh_M) => q = hf_X6_servedFrom v newPlace power ∧ v1 = v) (hh_B D K ad A) A) args s 0 0 A) (F0 m 5 ls []) := by
    intro n
    induction n with
    | zero => intro i a5_3 H locs ls h1 h2; omega
    | succ n ih =>
      intro i a5_3 H locs ls hii hni hsL_5 hp hl
      refine lv_iload hx hb dX6_servedFrom_5 (lv_at hl 0 rfl) ?_
      refine lv_bipush (v := 100) hx hb dX6_servedFrom_7 (by decide) ?_
      refine lv_icmp_ge (tgt := 86) hx hb dX6_servedFrom_9 (by decide) (fun c_9 => ?_) (fun c_9 => ?_)
      · have hbc_9 : 100 = nI 100 := rfl
        rw [hbc_9] at c_9
        have hc_9 := (nI_leI (a := 100) (b := i) (by omega) (by omega))
        have hltc_9 : 100 ≤ i := by exact hc_9.mp c_9
        have hNL_5 : i = 100 := by omega
        rw [hNL_5] at hsL_5
        have ea5_3 : a5_3 = hh_fld (fun (i9 : Nat) (z : Int32) => hl_X6_servedFrom_5 v newPlace power i9 z) 100 0 := hsL_5
        clear ih hsL_5
        refine lv_iload_n hx hb dX6_servedFrom_86 rfl (lv_at hl 1 rfl) ?_
        exact hh_iret C0 hp dX6_servedFrom_87 ⟨(by unfold hf_X6_servedFrom; rw [hh_let_eq ea5_3]), rfl⟩
      · have hbc_9 : 100 = nI 100 := rfl
        rw [hbc_9] at c_9
        have hc_9 := (nI_leI (a := 100) (b := i) (by omega) (by omega))
        have hltc_9 : i < 100 := by exact Nat.not_le.mp (fun z => c_9 (hc_9.mpr z))
        refine lv_iload_n hx hb dX6_servedFrom_12 rfl (lv_at hl 4 rfl) ?_
        refine lv_iload_n hx hb dX6_servedFrom_13 rfl (lv_at hl 3 rfl) ?_
        refine lv_iload hx hb dX6_servedFrom_14 (lv_at hl 0 rfl) ?_
        refine lv_isub hx hb dX6_servedFrom_16 ?_
        refine va_mabs hx hb (hml.trans hl.1.symm) hown (hts _ hm_303) (hts _ hm_304) (hts _ hm_294) (hts _ hm_305) (Nat.le_of_ble_eq_true rfl) (Nat.le_of_ble_eq_true rfl) (Nat.zero_le _) (Nat.zero_le _) dX6_servedFrom_17 ?_
        refine lv_topi (fun x_17 ex_17 => ?_)
        refine lv_isub hx hb dX6_servedFrom_20 ?_
        refine lv_topi (fun x_21 ex_21 => ?_)
        refine lv_istore (lv' := [(5, .int x_21), (4, .int (nI i)), (3, .int a5_3), (0, .ref (ad 4)), (1, .int newPlace), (2, .int power)]) hx hb dX6_servedFrom_21 hl (by decide) rfl (fun ls hl => ?_)
        have hJ_36 : ∀ (j36_0 : Int32) (H : Heap) (locs : List Loc) (ls : Array Slot), j36_0 = (if x_21 ≤ 0 then 0 else (x_21 / 3)) → hh_H D K ad A s.heap v H locs → lv_has ls 7 [(5, .int x_21), (4, .int (nI i)), (3, .int a5_3), (0, .ref (ad 4)), (1, .int newPlace), (2, .int power)] → W p l e ({ frames := 1, cells := 0, slots := 0, locals := 21 } : Room) s m args below meth c H locs 0 0 (MQ below (va_Qi (fun (q : Int32) (v1 : hh_M) => q = hf_X6_servedFrom v newPlace power ∧ v1 = v) (hh_B D K ad A) A) args s 0 0 A) (F0 m 36 ls [.int j36_0]) := by
          intro j36_0 H locs ls eJ_36 hp hl
          have ej36_0 : j36_0 = (if x_21 ≤ 0 then 0 else (x_21 / 3)) := eJ_36
          clear eJ_36
          refine lv_istore (lv' := [(6, .int j36_0), (5, .int x_21), (4, .int (nI i)), (3, .int a5_3), (0, .ref (ad 4)), (1, .int newPlace), (2, .int power)]) hx hb dX6_servedFrom_36 hl (by decide) rfl (fun ls hl => ?_)
          refine lv_aload_n hx hb dX6_servedFrom_38 rfl (lv_at hl 4 rfl) ?_
          refine hh_get C0 hp (C := RX6) (T := TX6) (N := 3) (ci := 6) (by decide) hh_E_4 rfl hh_uX6 0 (by decide) hm_279 rfl rfl dX6_servedFrom_39 ?_
          refine lv_iload hx hb dX6_servedFrom_42 (lv_at hl 2 rfl) ?_
          refine hh_ial C0 hp (by decide) hh_E_5 (vp_in_nI (by omega) (by decide)) (nI_clamp (by omega)) dX6_servedFrom_44 ?_
          refine lv_iconst (v := 5) hx hb dX6_servedFrom_45 (by decide) ?_
          refine lv_icmp_ge (tgt := 77) hx hb dX6_servedFrom_46 (by decide) (fun c_46 => ?_) (fun c_46 => ?_)
          · obtain ⟨x_77, ex_77⟩ : ∃ z : Int32, z = (a5_3 + 1) := ⟨_, rfl⟩
            refine lv_iinc (v := x_77) (lv' := [(3, .int x_77), (6, .int j36_0), (5, .int x_21), (4, .int (nI i)), (0, .ref (ad 4)), (1, .int newPlace), (2, .int power)]) hx hb dX6_servedFrom_77 hl (k := 3) rfl (by rw [ex_77]; rfl) (by decide) rfl (fun ls hl => ?_)
            refine lv_iinc (v := (nI (i + 1))) (lv' := [(4, .int (nI (i + 1))), (3, .int x_77), (6, .int j36_0), (5, .int x_21), (0, .ref (ad 4)), (1, .int newPlace), (2, .int power)]) hx hb dX6_servedFrom_80 hl (k := 3) rfl (nI_1 i) (by decide) rfl (fun ls hl => ?_)
            refine lv_goto (tgt := 5) hx hb dX6_servedFrom_83 (by decide) ?_
            exact ih (i + 1) x_77 _ _ _ (by omega) (by omega) (by rw [hh_fld, ← hsL_5]; show _ = hl_X6_servedFrom_5 v newPlace power i a5_3; unfold hl_X6_servedFrom_5; rw [hh_let_eq ex_17, hh_let_eq ex_21, hh_let_eq ej36_0, if_pos c_46, hh_let_eq ex_77]) hp (lv_sub hl [0, 1, 4, 5, 6] rfl)
          · refine lv_aload_n hx hb dX6_servedFrom_49 rfl (lv_at hl 4 rfl) ?_
            refine hh_get C0 hp (C := RX6) (T := TX6) (N := 3) (ci := 6) (by decide) hh_E_4 rfl hh_uX6 1 (by decide) hm_280 rfl rfl dX6_servedFrom_50 ?_
            refine lv_iload hx hb dX6_servedFrom_53 (lv_at hl 2 rfl) ?_
            refine hh_ial C0 hp (by decide) hh_E_6 (vp_in_nI (by omega) (by decide)) (nI_clamp (by omega)) dX6_servedFrom_55 ?_
            refine lv_iload hx hb dX6_servedFrom_56 (lv_at hl 0 rfl) ?_
            refine lv_isub hx hb dX6_servedFrom_58 ?_
            refine lv_iconst (v := 5) hx hb dX6_servedFrom_59 (by decide) ?_
            refine lv_icmp_ge (tgt := 77) hx hb dX6_servedFrom_60 (by decide) (fun c_60 => ?_) (fun c_60 => ?_)
            · obtain ⟨x_77, ex_77⟩ : ∃ z : Int32, z = (a5_3 + 1) := ⟨_, rfl⟩
              refine lv_iinc (v := x_77) (lv' := [(3, .int x_77), (6, .int j36_0), (5, .int x_21), (4, .int (nI i)), (0, .ref (ad 4)), (1, .int newPlace), (2, .int power)]) hx hb dX6_servedFrom_77 hl (k := 3) rfl (by rw [ex_77]; rfl) (by decide) rfl (fun ls hl => ?_)
              refine lv_iinc (v := (nI (i + 1))) (lv' := [(4, .int (nI (i + 1))), (3, .int x_77), (6, .int j36_0), (5, .int x_21), (0, .ref (ad 4)), (1, .int newPlace), (2, .int power)]) hx hb dX6_servedFrom_80 hl (k := 3) rfl (nI_1 i) (by decide) rfl (fun ls hl => ?_)
              refine lv_goto (tgt := 5) hx hb dX6_servedFrom_83 (by decide) ?_
              exact ih (i + 1) x_77 _ _ _ (by omega) (by omega) (by rw [hh_fld, ← hsL_5]; show _ = hl_X6_servedFrom_5 v newPlace power i a5_3; unfold hl_X6_servedFrom_5; rw [hh_let_eq ex_17, hh_let_eq ex_21, hh_let_eq ej36_0, if_neg c_46, if_pos c_60, hh_let_eq ex_77]) hp (lv_sub hl [0, 1, 4, 5, 6] rfl)
            · refine lv_iload hx hb dX6_servedFrom_63 (lv_at hl 1 rfl) ?_
              refine lv_aload_n hx hb dX6_servedFrom_65 rfl (lv_at hl 4 rfl) ?_
              refine hh_get C0 hp (C := RX6) (T := TX6) (N := 3) (ci := 6) (by decide) hh_E_4 rfl hh_uX6 2 (by decide) hm_281 rfl rfl dX6_servedFrom_66 ?_
              refine lv_iload hx hb dX6_servedFrom_69 (lv_at hl 2 rfl) ?_
              refine hh_ial C0 hp (by decide) hh_E_7 (vp_in_nI (by omega) (by decide)) (nI_clamp (by omega)) dX6_servedFrom_71 ?_
              refine lv_isub hx hb dX6_servedFrom_72 ?_
              refine lv_iconst (v := 5) hx hb dX6_servedFrom_73 (by decide) ?_
              refine lv_icmp_lt (tgt := 80) hx hb dX6_servedFrom_74 (by decide) (fun c_74 => ?_) (fun c_74 => ?_)
              · refine lv_iinc (v := (nI (i + 1))) (lv' := [(4, .int (nI (i + 1))), (6, .int j36_0), (5, .int x_21), (3, .int a5_3), (0, .ref (ad 4)), (1, .int newPlace), (2, .int power)]) hx hb dX6_servedFrom_80 hl (k := 2) rfl (nI_1 i) (by decide) rfl (fun ls hl => ?_)
                refine lv_goto (tgt := 5) hx hb dX6_servedFrom_83 (by decide) ?_
                exact ih (i + 1) a5_3 _ _ _ (by omega) (by omega) (by rw [hh_fld, ← hsL_5]; show _ = hl_X6_servedFrom_5 v newPlace power i a5_3; unfold hl_X6_servedFrom_5; rw [hh_let_eq ex_17, hh_let_eq ex_21, hh_let_eq ej36_0, if_neg c_46, if_neg c_60, if_pos c_74]) hp (lv_sub hl [0, 3, 4, 5, 6] rfl)
              · obtain ⟨x_77, ex_77⟩ : ∃ z : Int32, z = (a5_3 + 1) := ⟨_, rfl⟩
                refine lv_iinc (v := x_77) (lv' := [(3, .int x_77), (6, .int j36_0), (5, .int x_21), (4, .int (nI i)), (0, .ref (ad 4)), (1, .int newPlace), (2, .int power)]) hx hb dX6_servedFrom_77 hl (k := 3) rfl (by rw [ex_77]; rfl) (by decide) rfl (fun ls hl => ?_)
                refine lv_iinc (v := (nI (i + 1))) (lv' := [(4, .int (nI (i + 1))), (3, .int x_77), (6, .int j36_0), (5, .int x_21), (0, .ref (ad 4)), (1, .int newPlace), (2, .int power)]) hx hb dX6_servedFrom_80 hl (k := 3) rfl (nI_1 i) (by decide) rfl (fun ls hl => ?_)
                refine lv_goto (tgt := 5) hx hb dX6_servedFrom_83 (by decide) ?_
                exact ih (i + 1) x_77 _ _ _ (by omega) (by omega) (by rw [hh_fld, ← hsL_5]; show _ = hl_X6_servedFrom_5 v newPlace power i a5_3; unfold hl_X6_servedFrom_5; rw [hh_let_eq ex_17, hh_let_eq ex_21, hh_let_eq ej36_0, if_neg c_46, if_neg c_60, if_neg c_74, hh_let_eq ex_77]) hp (lv_sub hl [0, 1, 4, 5, 6] rfl)
        refine lv_iload hx hb dX6_servedFrom_23 (lv_at hl 0 rfl) ?_
        refine lv_if_le (tgt := 35) hx hb dX6_servedFrom_25 (by decide) (fun c_25 => ?_) (fun c_25 => ?_)
        · refine lv_iconst (v := 0) hx hb dX6_servedFrom_35 (by decide) ?_
          exact hJ_36 0 _ _ _ (by rw [if_pos c_25]) hp (lv_sub hl [0, 1, 2, 3, 4, 5] rfl)
        · refine lv_iload hx hb dX6_servedFrom_28 (lv_at hl 0 rfl) ?_
          refine lv_iconst (v := 3) hx hb dX6_servedFrom_30 (by decide) ?_
          refine lv_idiv hx hb dX6_servedFrom_31 (by decide) ?_
          refine lv_goto (tgt := 36) hx hb dX6_servedFrom_32 (by decide) ?_
          exact hJ_36 (x_21 / 3) _ _ _ (by rw [if_neg c_25]) hp (lv_sub hl [0, 1, 2, 3, 4, 5] rfl)
  exact hL_5 (100 + 1) 0 0 _ _ _ (Nat.zero_le _) (by omega) rfl hp (lv_sub hl [0, 1, 2, 3, 4] rfl)
def hl_X6_placeFor_7 (v : hh_M) (power : Int32) (i : Nat) (a7_2 : Int32) (a7_3 : Int32) : Int32 × Int32 := (hh_let (hf_X6_servedFrom v (nI i) power : Int32) (fun (q_18 : Int32) => (if q_18 ≤ a7_3 then (a7_2, a7_3) else ((nI i), q_18))))
def hf_X6_placeFor (v : hh_M) (power : Int32) : Int32 := (hh_let ((hh_fld (fun (i9 : Nat) (z : Int32 × Int32) => hl_X6_placeFor_7 v power i9 z.1 z.2) 100 ((-1), (-1))).1 : Int32) (fun (a7_2 : Int32) => (hh_let ((hh_fld (fun (i9 : Nat) (z : Int32 × Int32) => hl_X6_placeFor_7 v power i9 z.1 z.2) 100 ((-1), (-1))).2 : Int32) (fun (a7_3 : Int32) => a7_2))))
set_option maxHeartbeats 4000000 in
set_option maxRecDepth 100000 in
theorem hk_X6_placeFor (l : Launch) (D : va_G) (K : Nat → ClassId) (ad : Nat → Nat) {nm : Nat} {nh nc : Nat → Nat} {v : hh_M} (hT : hh_T nm nh nc v) (power : Int32) : hh_Ki l D K ad yX6_placeFor (hh_wm yX6_placeFor cX6_placeFor 6 (some .int)) { frames := 2, cells := 0, slots := 0, locals := 47 } [.ref (ad 4), .int power] v (fun (q : Int32) (v1 : hh_M) => q = hf_X6_placeFor v power ∧ v1 = v ∧ (-1 ≤ q ∧ q < nI 100)) := by
  refine hh_Ki_of (by decide) (Nat.le_of_ble_eq_true rfl) ?_
  intro p e s m args below meth c ls A C0 hp hl
  obtain ⟨hx, hb, hr9, hml, hown, hts, hK, hlk, hA⟩ := id C0
  have hnm := hT.1
  have hnh := hT.2.1
  have hnc := hT.2.2.1
  have hl : lv_has ls 6 [(0, .ref (ad 4)), (1, .int power)] := hl
  refine lv_iconst (v := (-1)) hx hb dX6_placeFor_0 (by decide) ?_
  refine lv_istore_n (lv' := [(2, .int (-1)), (0, .ref (ad 4)), (1, .int power)]) hx hb dX6_placeFor_1 rfl hl (by decide) rfl (fun ls hl => ?_)
  refine lv_iconst (v := (-1)) hx hb dX6_placeFor_2 (by decide) ?_
  refine lv_istore_n (lv' := [(3, .int (-1)), (2, .int (-1)), (0, .ref (ad 4)), (1, .int power)]) hx hb dX6_placeFor_3 rfl hl (by decide) rfl (fun ls hl => ?_)
  refine lv_iconst (v := 0) hx hb dX6_placeFor_4 (by decide) ?_
  refine lv_istore (lv' := [(4, .int 0), (3, .int (-1)), (2, .int (-1)), (0, .ref (ad 4)), (1, .int power)]) hx hb dX6_placeFor_5 hl (by decide) rfl (fun ls hl => ?_)
  have hL_7 : ∀ (n i : Nat) (a7_2 : Int32) (a7_3 : Int32) (H : Heap) (locs : List Loc) (ls : Array Slot), i ≤ 100 → 100 - i < n → (a7_2, a7_3) = hh_fld (fun (i9 : Nat) (z : Int32 × Int32) => hl_X6_placeFor_7 v power i9 z.1 z.2) i ((-1), (-1)) → hh_H D K ad A s.heap v H locs → lv_has ls 6 [(4, .int (nI i)), (3, .int a7_3), (2, .int a7_2), (0, .ref (ad 4)), (1, .int power)] → -1 ≤ a7_2 ∧ a7_2 < nI 100 → W p l e ({ frames := 2, cells := 0, slots := 0, locals := 47 } : Room) s m args below meth c H locs 0 0 (MQ below (va_Qi (fun (q : Int32) (v1 : hh_M) => q = hf_X6_placeFor v power ∧ v1 = v ∧ (-1 ≤ q ∧ q < nI 100)) (hh_B D K ad A) A) args s 0 0 A) (F0 m 7 ls []) := by
    intro n
    induction n with
    | zero => intro i a7_2 a7_3 H locs ls h1 h2; omega
    | succ n ih =>
      intro i a7_2 a7_3 H locs ls hii hni hsL_7 hp hl hf1
      refine lv_iload hx hb dX6_placeFor_7 (lv_at hl 0 rfl) ?_
      refine lv_bipush (v := 100) hx hb dX6_placeFor_9 (by decide) ?_
      refine lv_icmp_ge (tgt := 41) hx hb dX6_placeFor_11 (by decide) (fun c_11 => ?_) (fun c_11 => ?_)
      · have hbc_11 : 100 = nI 100 := rfl
        rw [hbc_11] at c_11
        have hc_11 := (nI_leI (a := 100) (b := i) (by omega) (by omega))
        have hltc_11 : 100 ≤ i := by exact hc_11.mp c_11
        have hNL_7 : i = 100 := by omega
        rw [hNL_7] at hsL_7
        have ea7_2 : a7_2 = (hh_fld (fun (i9 : Nat) (z : Int32 × Int32) => hl_X6_placeFor_7 v power i9 z.1 z.2) 100 ((-1), (-1))).1 := congrArg (fun z => z.1) hsL_7
        have ea7_3 : a7_3 = (hh_fld (fun (i9 : Nat) (z : Int32 × Int32) => hl_X6_placeFor_7 v power i9 z.1 z.2) 100 ((-1), (-1))).2 := congrArg (fun z => z.2) hsL_7
        clear ih hsL_7
        refine lv_iload_n hx hb dX6_placeFor_41 rfl (lv_at hl 2 rfl) ?_
        exact hh_iret C0 hp dX6_placeFor_42 ⟨(by unfold hf_X6_placeFor; rw [hh_let_eq ea7_2, hh_let_eq ea7_3]), rfl, (by assumption)⟩
      · have hbc_11 : 100 = nI 100 := rfl
        rw [hbc_11] at c_11
        have hc_11 := (nI_leI (a := 100) (b := i) (by omega) (by omega))
        have hltc_11 : i < 100 := by exact Nat.not_le.mp (fun z => c_11 (hc_11.mpr z))
        refine lv_aload_n hx hb dX6_placeFor_14 rfl (lv_at hl 3 rfl) ?_
        refine lv_iload hx hb dX6_placeFor_15 (lv_at hl 0 rfl) ?_
        refine lv_iload_n hx hb dX6_placeFor_17 rfl (lv_at hl 4 rfl) ?_
        refine hh_cVi C0 hp (As := [.int (nI i), .int power]) (rest := []) (C := RX6) (T := TX6) (N := 3) (ci := 6) (n := 2) (hk_X6_servedFrom l D K ad hT (nI i) power) rfl (by decide) hh_E_4 (hh_gV hm_299 hm_300 hm_301 hm_288 hm_302) ⟨rfl, rfl⟩ (by decide +kernel) ⟨Nat.le_of_ble_eq_true rfl, Nat.le_of_ble_eq_true rfl⟩ ⟨Nat.zero_le _, Nat.zero_le _⟩ hl.1 rfl rfl (Nat.le_of_ble_eq_true rfl) dX6_placeFor_18 (fun q_18 v_18 H locs hv_18 hp => ?_)
        obtain ⟨eq_18, hv9⟩ := hv_18
        rw [hv9] at hp; clear hv9
        refine lv_istore (lv' := [(5, .int q_18), (4, .int (nI i)), (3, .int a7_3), (2, .int a7_2), (0, .ref (ad 4)), (1, .int power)]) hx hb dX6_placeFor_21 hl (by decide) rfl (fun ls hl => ?_)
        refine lv_iload hx hb dX6_placeFor_23 (lv_at hl 0 rfl) ?_
        refine lv_iload_n hx hb dX6_placeFor_25 rfl (lv_at hl 2 rfl) ?_
        refine lv_icmp_le (tgt := 35) hx hb dX6_placeFor_26 (by decide) (fun c_26 => ?_) (fun c_26 => ?_)
        · refine lv_iinc (v := (nI (i + 1))) (lv' := [(4, .int (nI (i + 1))), (5, .int q_18), (3, .int a7_3), (2, .int a7_2), (0, .ref (ad 4)), (1, .int power)]) hx hb dX6_placeFor_35 hl (k := 1) rfl (nI_1 i) (by decide) rfl (fun ls hl => ?_)
          refine lv_goto (tgt := 7) hx hb dX6_placeFor_38 (by decide) ?_
          exact ih (i + 1) a7_2 a7_3 _ _ _ (by omega) (by omega) (by rw [hh_fld, ← hsL_7]; show _ = hl_X6_placeFor_7 v power i a7_2 a7_3; unfold hl_X6_placeFor_7; rw [hh_let_eq eq_18, if_pos c_26]) hp (lv_sub hl [0, 2, 3, 4, 5] rfl) (by first | assumption | exact hh_rg (by omega) (by omega))
        · refine lv_iload hx hb dX6_placeFor_29 (lv_at hl 1 rfl) ?_
          refine lv_istore_n (lv' := [(2, .int (nI i)), (5, .int q_18), (4, .int (nI i)), (3, .int a7_3), (0, .ref (ad 4)), (1, .int power)]) hx hb dX6_placeFor_31 rfl hl (by decide) rfl (fun ls hl => ?_)
          refine lv_iload hx hb dX6_placeFor_32 (lv_at hl 1 rfl) ?_
          refine lv_istore_n (lv' := [(3, .int q_18), (2, .int (nI i)), (5, .int q_18), (4, .int (nI i)), (0, .ref (ad 4)), (1, .int power)]) hx hb dX6_placeFor_34 rfl hl (by decide) rfl (fun ls hl => ?_)
          refine lv_iinc (v := (nI (i + 1))) (lv' := [(4, .int (nI (i + 1))), (3, .int q_18), (2, .int (nI i)), (5, .int q_18), (0, .ref (ad 4)), (1, .int power)]) hx hb dX6_placeFor_35 hl (k := 3) rfl (nI_1 i) (by decide) rfl (fun ls hl => ?_)
          refine lv_goto (tgt := 7) hx hb dX6_placeFor_38 (by decide) ?_
          exact ih (i + 1) (nI i) q_18 _ _ _ (by omega) (by omega) (by rw [hh_fld, ← hsL_7]; show _ = hl_X6_placeFor_7 v power i a7_2 a7_3; unfold hl_X6_placeFor_7; rw [hh_let_eq eq_18, if_neg c_26]) hp (lv_sub hl [0, 1, 2, 4, 5] rfl) (by first | assumption | exact hh_rg (by omega) (by omega))
  exact hL_7 (100 + 1) 0 (-1) (-1) _ _ _ (Nat.zero_le _) (by omega) rfl hp (lv_sub hl [0, 1, 2, 3, 4] rfl) (by exact hh_rg0 (by decide))
def hl_X4_measure_12 (i : Nat) (j : Nat) (w_12 : hh_M) : hh_M := (hh_let (hf_X4_measureOne w_12 (nI i) (nI j) : Int32) (fun (q_28 : Int32) => (hh_let (hh_up w_12 (hh_bI i) j q_28 : hh_M) (fun (v_31 : hh_M) => v_31))))
def hl_X4_measure_2 (i : Nat) (w_2 : hh_M) : hh_M := (hh_let (hh_fld (fun (i9 : Nat) (z : hh_M) => hl_X4_measure_12 i i9 z) 100 w_2 : hh_M) (fun (w_12 : hh_M) => w_12))
def hf_X4_measure (v : hh_M) : hh_M := (hh_let (hh_fld (fun (i9 : Nat) (z : hh_M) => hl_X4_measure_2 i9 z) ((v 1 2).toNatClampNeg) v : hh_M) (fun (w_2 : hh_M) => w_2))
set_option maxHeartbeats 4000000 in
set_option maxRecDepth 100000 in
theorem hk_X4_measure (l : Launch) (D : va_G) (K : Nat → ClassId) (ad : Nat → Nat) {nm : Nat} {nh nc : Nat → Nat} {v : hh_M} (hT : hh_T nm nh nc v) : hh_Kv l D K ad yX4_measure (hh_wm yX4_measure cX4_measure 3 none) { frames := 3, cells := 0, slots := 0, locals := 68 } [.ref (ad 1)] v (fun (v1 : hh_M) => v1 = hf_X4_measure v ∧ hh_T nm nh nc v1) := by
  refine hh_Kv_of (by decide) (Nat.le_of_ble_eq_true rfl) ?_
  intro p e s m args below meth c ls A C0 hp hl
  obtain ⟨hx, hb, hr9, hml, hown, hts, hK, hlk, hA⟩ := id C0
  have hnm := hT.1
  have hnh := hT.2.1
  have hnc := hT.2.2.1
  have hl : lv_has ls 3 [(0, .ref (ad 1))] := hl
  refine lv_iconst (v := 0) hx hb dX4_measure_0 (by decide) ?_
  refine lv_istore_n (lv' := [(1, .int 0), (0, .ref (ad 1))]) hx hb dX4_measure_1 rfl hl (by decide) rfl (fun ls hl => ?_)
  have hL_2 : ∀ (n i : Nat) (w_2 : hh_M) (H : Heap) (locs : List Loc) (ls : Array Slot), i ≤ nm → nm - i < n → w_2 = hh_fld (fun (i9 : Nat) (z : hh_M) => hl_X4_measure_2 i9 z) i v → hh_T nm nh nc w_2 → hh_H D K ad A s.heap w_2 H locs → lv_has ls 3 [(1, .int (nI i)), (0, .ref (ad 1))] → W p l e ({ frames := 3, cells := 0, slots := 0, locals := 68 } : Room) s m args below meth c H locs 0 0 (MQ below (va_Qv (fun (v1 : hh_M) => v1 = hf_X4_measure v ∧ hh_T nm nh nc v1) (hh_B D K ad A) A) args s 0 0 A) (F0 m 2 ls []) := by
    intro n
    induction n with
    | zero => intro i w_2 H locs ls h1 h2; omega
    | succ n ih =>
      intro i w_2 H locs ls hii hni hsL_2 hTw_2 hp hl
      refine lv_iload_n hx hb dX4_measure_2 rfl (lv_at hl 0 rfl) ?_
      refine lv_aload_n hx hb dX4_measure_3 rfl (lv_at hl 1 rfl) ?_
      refine hh_get C0 hp (C := RX4) (T := TX4) (N := 3) (ci := 4) (by decide) hh_E_1 rfl hh_uX4 2 (by decide) hm_79 rfl rfl dX4_measure_4 ?_
      refine lv_icmp_ge (tgt := 44) hx hb dX4_measure_7 (by decide) (fun c_7 => ?_) (fun c_7 => ?_)
      · have hbc_7 : (w_2 1 2) = nI nm := hh_T_M hTw_2
        rw [hbc_7] at c_7
        have hc_7 := (nI_leI (a := nm) (b := i) (by omega) (by omega))
        have hltc_7 : nm ≤ i := by exact hc_7.mp c_7
        have hNL_2 : i = nm := by omega
        rw [hNL_2] at hsL_2
        have hsL_2 : w_2 = hh_fld (fun (i9 : Nat) (z : hh_M) => hl_X4_measure_2 i9 z) ((v 1 2).toNatClampNeg) v := by rw [hsL_2, show (v 1 2).toNatClampNeg = nm from by rw [hh_T_M hT]; exact nI_clamp (by omega)]
        have ew_2 : w_2 = hh_fld (fun (i9 : Nat) (z : hh_M) => hl_X4_measure_2 i9 z) ((v 1 2).toNatClampNeg) v := hsL_2
        clear ih hsL_2
        exact hh_vret C0 hp dX4_measure_44 ⟨(by show _ = _; unfold hf_X4_measure; rw [hh_let_eq ew_2]), hTw_2⟩
      · have hbc_7 : (w_2 1 2) = nI nm := hh_T_M hTw_2
        rw [hbc_7] at c_7
        have hc_7 := (nI_leI (a := nm) (b := i) (by omega) (by omega))
        have hltc_7 : i < nm := by exact Nat.not_le.mp (fun z => c_7 (hc_7.mpr z))
        refine lv_iconst (v := 0) hx hb dX4_measure_10 (by decide) ?_
        refine lv_istore_n (lv' := [(2, .int 0), (1, .int (nI i)), (0, .ref (ad 1))]) hx hb dX4_measure_11 rfl hl (by decide) rfl (fun ls hl => ?_)
        have hL_12 : ∀ (n j : Nat) (w_12 : hh_M) (H : Heap) (locs : List Loc) (ls : Array Slot), j ≤ 100 → 100 - j < n → w_12 = hh_fld (fun (i9 : Nat) (z : hh_M) => hl_X4_measure_12 i i9 z) j w_2 → hh_T nm nh nc w_12 → hh_H D K ad A s.heap w_12 H locs → lv_has ls 3 [(2, .int (nI j)), (1, .int (nI i)), (0, .ref (ad 1))] → W p l e ({ frames := 3, cells := 0, slots := 0, locals := 68 } : Room) s m args below meth c H locs 0 0 (MQ below (va_Qv (fun (v1 : hh_M) => v1 = hf_X4_measure v ∧ hh_T nm nh nc v1) (hh_B D K ad A) A) args s 0 0 A) (F0 m 12 ls []) := by
          intro n
          induction n with
          | zero => intro j w_12 H locs ls h1 h2; omega
          | succ n ih =>
            intro j w_12 H locs ls hij hnj hsL_12 hTw_12 hp hl
            refine lv_iload_n hx hb dX4_measure_12 rfl (lv_at hl 0 rfl) ?_
            refine lv_bipush (v := 100) hx hb dX4_measure_13 (by decide) ?_
            refine lv_icmp_ge (tgt := 38) hx hb dX4_measure_15 (by decide) (fun c_15 => ?_) (fun c_15 => ?_)
            · have hbc_15 : 100 = nI 100 := rfl
              rw [hbc_15] at c_15
              have hc_15 := (nI_leI (a := 100) (b := j) (by omega) (by omega))
              have hltc_15 : 100 ≤ j := by exact hc_15.mp c_15
              have hNL_12 : j = 100 := by omega
              rw [hNL_12] at hsL_12
              have ew_12 : w_12 = hh_fld (fun (i9 : Nat) (z : hh_M) => hl_X4_measure_12 i i9 z) 100 w_2 := hsL_12
              clear ih hsL_12
              refine lv_iinc (v := (nI (i + 1))) (lv' := [(1, .int (nI (i + 1))), (2, .int (nI j)), (0, .ref (ad 1))]) hx hb dX4_measure_38 hl (k := 1) rfl (nI_1 i) (by decide) rfl (fun ls hl => ?_)
              refine lv_goto (tgt := 2) hx hb dX4_measure_41 (by decide) ?_
              exact ih (i + 1) w_12 _ _ _ (by omega) (by omega) (by rw [hh_fld, ← hsL_2]; show _ = hl_X4_measure_2 i w_2; unfold hl_X4_measure_2; rw [hh_let_eq ew_12]) hTw_12 hp (lv_sub hl [0, 2] rfl)
            · have hbc_15 : 100 = nI 100 := rfl
              rw [hbc_15] at c_15
              have hc_15 := (nI_leI (a := 100) (b := j) (by omega) (by omega))
              have hltc_15 : j < 100 := by exact Nat.not_le.mp (fun z => c_15 (hc_15.mpr z))
              refine lv_aload_n hx hb dX4_measure_18 rfl (lv_at hl 2 rfl) ?_
              refine hh_get C0 hp (C := RX4) (T := TX4) (N := 3) (ci := 4) (by decide) hh_E_1 rfl hh_uX4 1 (by decide) hm_76 rfl rfl dX4_measure_19 ?_
              refine lv_iload_n hx hb dX4_measure_22 rfl (lv_at hl 1 rfl) ?_
              refine hh_aal C0 hp (t0 := 1) (f := hh_bI) (by decide) hh_E_3 rfl rfl (vp_in_nI (by omega) (by decide)) (nI_clamp (by omega)) dX4_measure_23 ?_
              refine lv_iload_n hx hb dX4_measure_24 rfl (lv_at hl 0 rfl) ?_
              refine lv_aload_n hx hb dX4_measure_25 rfl (lv_at hl 2 rfl) ?_
              refine lv_iload_n hx hb dX4_measure_26 rfl (lv_at hl 1 rfl) ?_
              refine lv_iload_n hx hb dX4_measure_27 rfl (lv_at hl 0 rfl) ?_
              refine hh_cVi C0 hp (As := [.int (nI i), .int (nI j)]) (rest := [.int (nI j), .ref (ad (hh_bI i))]) (C := RX4) (T := TX4) (N := 3) (ci := 4) (n := 2) (hk_X4_measureOne l D K ad hTw_12 (nI i) (nI j) (vp_in_nI (by omega) (by decide))) rfl (by decide) hh_E_1 (hh_gV hm_80 hm_81 hm_82 hm_83 hm_84) ⟨rfl, rfl⟩ (by decide +kernel) ⟨Nat.le_of_ble_eq_true rfl, Nat.le_of_ble_eq_true rfl⟩ ⟨Nat.zero_le _, Nat.zero_le _⟩ hl.1 rfl rfl (Nat.le_of_ble_eq_true rfl) dX4_measure_28 (fun q_28 v_28 H locs hv_28 hp => ?_)
              obtain ⟨eq_28, hv9⟩ := hv_28
              rw [hv9] at hp; clear hv9
              refine hh_ias C0 hp (hh_b_b (by omega : i < 6)) (fun _ => (hh_E_b (by omega : i < 6))) (vp_in_nI (by omega) (by decide)) (nI_clamp (by omega)) dX4_measure_31 (fun H locs hp => ?_)
              obtain ⟨v_31, ev_31⟩ : ∃ z : hh_M, z = hh_up w_12 (hh_bI i) j q_28 := ⟨_, rfl⟩
              rw [← ev_31] at hp
              have hTv_31 : hh_T nm nh nc v_31 := by rw [ev_31]; exact hh_T_up hTw_12 (hh_Rt_b (by omega : i < 6))
              refine lv_iinc (v := (nI (j + 1))) (lv' := [(2, .int (nI (j + 1))), (1, .int (nI i)), (0, .ref (ad 1))]) hx hb dX4_measure_32 hl (k := 0) rfl (nI_1 j) (by decide) rfl (fun ls hl => ?_)
              refine lv_goto (tgt := 12) hx hb dX4_measure_35 (by decide) ?_
              exact ih (j + 1) v_31 _ _ _ (by omega) (by omega) (by rw [hh_fld, ← hsL_12]; show _ = hl_X4_measure_12 i j w_12; unfold hl_X4_measure_12; rw [hh_let_eq eq_28, hh_let_eq ev_31]) hTv_31 hp (lv_sub hl [0, 1, 2] rfl)
        exact hL_12 (100 + 1) 0 w_2 _ _ _ (Nat.zero_le _) (by omega) rfl hTw_2 hp (lv_sub hl [0, 1, 2] rfl)
  exact hL_2 (nm + 1) 0 v _ _ _ (Nat.zero_le _) (by omega) rfl hT hp (lv_sub hl [0, 1] rfl)
end
section
/-! 17.demands: laid by program (wip/gen/mk10.py) -/
set_option maxHeartbeats 4000000 in
set_option maxRecDepth 100000 in
theorem hk_X7_demandNumber (l : Launch) (D : va_G) (K : Nat → ClassId) (ad : Nat → Nat) {nm : Nat} {nh nc : Nat → Nat} {v : hh_M} (hT : hh_T nm nh nc v) (number : Int32) (count : Int32) (h0 : 0 ≤ number) (h1 : number < count) : hh_Kv l D K ad yX7_demandNumber (hh_wm yX7_demandNumber cX7_demandNumber 2 none) { frames := 0, cells := 0, slots := 0, locals := 0 } [.int number, .int count] v (fun (v1 : hh_M) => v1 = v) := by
  refine hh_Kv_of (by decide) (Nat.le_of_ble_eq_true rfl) ?_
  intro p e s m args below meth c ls A C0 hp hl
  obtain ⟨hx, hb, hr9, hml, hown, hts, hK, hlk, hA⟩ := id C0
  have hnm := hT.1
  have hnh := hT.2.1
  have hnc := hT.2.2.1
  have hl : lv_has ls 2 [(0, .int number), (1, .int count)] := hl
  refine lv_iload_n hx hb dX7_demandNumber_0 rfl (lv_at hl 0 rfl) ?_
  refine lv_if_lt (tgt := 9) hx hb dX7_demandNumber_1 (by decide) (fun c_1 => ?_) (fun c_1 => ?_)
  · exact absurd c_1 (Int32.not_lt.mpr h0)
  · refine lv_iload_n hx hb dX7_demandNumber_4 rfl (lv_at hl 0 rfl) ?_
    refine lv_iload_n hx hb dX7_demandNumber_5 rfl (lv_at hl 1 rfl) ?_
    refine lv_icmp_lt (tgt := 20) hx hb dX7_demandNumber_6 (by decide) (fun c_6 => ?_) (fun c_6 => ?_)
    · exact hh_vret C0 hp dX7_demandNumber_20 rfl
    · exact absurd h1 c_6
set_option maxHeartbeats 4000000 in
set_option maxRecDepth 100000 in
theorem hk_X7_demandWithin (l : Launch) (D : va_G) (K : Nat → ClassId) (ad : Nat → Nat) {nm : Nat} {nh nc : Nat → Nat} {v : hh_M} (hT : hh_T nm nh nc v) (value : Int32) (least : Int32) (most : Int32) (h0 : least ≤ value) (h1 : value ≤ most) : hh_Kv l D K ad yX7_demandWithin (hh_wm yX7_demandWithin cX7_demandWithin 3 none) { frames := 0, cells := 0, slots := 0, locals := 0 } [.int value, .int least, .int most] v (fun (v1 : hh_M) => v1 = v) := by
  refine hh_Kv_of (by decide) (Nat.le_of_ble_eq_true rfl) ?_
  intro p e s m args below meth c ls A C0 hp hl
  obtain ⟨hx, hb, hr9, hml, hown, hts, hK, hlk, hA⟩ := id C0
  have hnm := hT.1
  have hnh := hT.2.1
  have hnc := hT.2.2.1
  have hl : lv_has ls 3 [(0, .int value), (1, .int least), (2, .int most)] := hl
  refine lv_iload_n hx hb dX7_demandWithin_0 rfl (lv_at hl 0 rfl) ?_
  refine lv_iload_n hx hb dX7_demandWithin_1 rfl (lv_at hl 1 rfl) ?_
  refine lv_icmp_lt (tgt := 10) hx hb dX7_demandWithin_2 (by decide) (fun c_2 => ?_) (fun c_2 => ?_)
  · exact absurd c_2 (Int32.not_lt.mpr h0)
  · refine lv_iload_n hx hb dX7_demandWithin_5 rfl (lv_at hl 0 rfl) ?_
    refine lv_iload_n hx hb dX7_demandWithin_6 rfl (lv_at hl 2 rfl) ?_
    refine lv_icmp_le (tgt := 21) hx hb dX7_demandWithin_7 (by decide) (fun c_7 => ?_) (fun c_7 => ?_)
    · exact hh_vret C0 hp dX7_demandWithin_21 rfl
    · exact absurd h1 c_7
set_option maxHeartbeats 4000000 in
set_option maxRecDepth 100000 in
theorem hk_X7_demandOthers (l : Launch) (D : va_G) (K : Nat → ClassId) (ad : Nat → Nat) {nm : Nat} {nh nc : Nat → Nat} {v : hh_M} (hT : hh_T nm nh nc v) (from_ : Int32) (to_ : Int32) (h0 : ¬ from_ = to_) : hh_Kv l D K ad yX7_demandOthers (hh_wm yX7_demandOthers cX7_demandOthers 2 none) { frames := 0, cells := 0, slots := 0, locals := 0 } [.int from_, .int to_] v (fun (v1 : hh_M) => v1 = v) := by
  refine hh_Kv_of (by decide) (Nat.le_of_ble_eq_true rfl) ?_
  intro p e s m args below meth c ls A C0 hp hl
  obtain ⟨hx, hb, hr9, hml, hown, hts, hK, hlk, hA⟩ := id C0
  have hnm := hT.1
  have hnh := hT.2.1
  have hnc := hT.2.2.1
  have hl : lv_has ls 2 [(0, .int from_), (1, .int to_)] := hl
  refine lv_iload_n hx hb dX7_demandOthers_0 rfl (lv_at hl 0 rfl) ?_
  refine lv_iload_n hx hb dX7_demandOthers_1 rfl (lv_at hl 1 rfl) ?_
  refine lv_icmp_ne (tgt := 16) hx hb dX7_demandOthers_2 (by decide) (fun c_2 => ?_) (fun c_2 => ?_)
  · exact hh_vret C0 hp dX7_demandOthers_16 rfl
  · exact absurd c_2 h0
set_option maxHeartbeats 4000000 in
set_option maxRecDepth 100000 in
theorem hk_X7_demandRoomForCall (l : Launch) (D : va_G) (K : Nat → ClassId) (ad : Nat → Nat) {nm : Nat} {nh nc : Nat → Nat} {v : hh_M} (hT : hh_T nm nh nc v) (h0 : nc 0 < 24) : hh_Kv l D K ad yX7_demandRoomForCall (hh_wm yX7_demandRoomForCall cX7_demandRoomForCall 1 none) { frames := 0, cells := 0, slots := 0, locals := 0 } [.ref (ad 0)] v (fun (v1 : hh_M) => v1 = v) := by
  refine hh_Kv_of (by decide) (Nat.le_of_ble_eq_true rfl) ?_
  intro p e s m args below meth c ls A C0 hp hl
  obtain ⟨hx, hb, hr9, hml, hown, hts, hK, hlk, hA⟩ := id C0
  have hnm := hT.1
  have hnh := hT.2.1
  have hnc := hT.2.2.1
  have hbH0 := hnh 0
  have hbC0 := hnc 0
  have hbH1 := hnh 1
  have hbC1 := hnc 1
  have hl : lv_has ls 1 [(0, .ref (ad 0))] := hl
  refine lv_aload_n hx hb dX7_demandRoomForCall_0 rfl (lv_at hl 0 rfl) ?_
  refine hh_get C0 hp (C := RX7) (T := TX7) (N := 4) (ci := 7) (by decide) hh_E_0 rfl hh_uX7 1 (by decide) hm_313 rfl rfl dX7_demandRoomForCall_1 ?_
  refine hh_get C0 hp (C := RX5) (T := TX5) (N := 10) (ci := 5) (hh_b_r (by decide : 0 < 2)) (hh_E_r 0) rfl hh_uX5 6 (by decide) hm_370 rfl rfl dX7_demandRoomForCall_4 ?_
  refine lv_bipush (v := 24) hx hb dX7_demandRoomForCall_7 (by decide) ?_
  refine lv_icmp_lt (tgt := 23) hx hb dX7_demandRoomForCall_9 (by decide) (fun c_9 => ?_) (fun c_9 => ?_)
  · exact hh_vret C0 hp dX7_demandRoomForCall_23 rfl
  · exact absurd (by rw [hh_T_r6 hT 0]; exact nI_lt h0 (by decide) : v (hh_rI 0) 6 < 24) c_9
end
section
/-! 18.face: laid by program (wip/gen/mk10.py) -/
def hf_X7_mast (v : hh_M) (pl : Int32) (pw : Int32) (fr : Int32) (ch : Int32) (ar : Int32) (op : Int32) : Int32 × hh_M := (hh_let (hh_up v (hh_mI ((v 1 2).toNatClampNeg)) 0 pl : hh_M) (fun (v_84 : hh_M) => (hh_let (hh_up v_84 (hh_mI ((v 1 2).toNatClampNeg)) 1 pw : hh_M) (fun (v_90 : hh_M) => (hh_let (hh_up v_90 (hh_mI ((v 1 2).toNatClampNeg)) 2 fr : hh_M) (fun (v_96 : hh_M) => (hh_let (hh_up v_96 (hh_mI ((v 1 2).toNatClampNeg)) 3 ch : hh_M) (fun (v_103 : hh_M) => (hh_let (hh_up v_103 (hh_mI ((v 1 2).toNatClampNeg)) 4 ar : hh_M) (fun (v_110 : hh_M) => (hh_let (hh_up v_110 (hh_mI ((v 1 2).toNatClampNeg)) 5 op : hh_M) (fun (v_117 : hh_M) => (hh_let (hh_up v_117 (hh_mI ((v 1 2).toNatClampNeg)) 6 1 : hh_M) (fun (v_123 : hh_M) => (hh_let (hh_up v_123 1 2 ((v_123 1 2) + 1) : hh_M) (fun (v_136 : hh_M) => (hh_let (hf_X4_measure v_136 : hh_M) (fun (v_143 : hh_M) => (((v_143 1 2) - 1), v_143)))))))))))))))))))
set_option maxHeartbeats 4000000 in
set_option maxRecDepth 100000 in
theorem hk_X7_mast (l : Launch) (D : va_G) (K : Nat → ClassId) (ad : Nat → Nat) {nm : Nat} {nh nc : Nat → Nat} {v : hh_M} (hT : hh_T nm nh nc v) (pl : Int32) (pw : Int32) (fr : Int32) (ch : Int32) (ar : Int32) (op : Int32) (hpl0 : 0 ≤ pl) (hpl1 : pl ≤ 99) (hpw0 : 10 ≤ pw) (hpw1 : pw ≤ 60) (hfr0 : 0 ≤ fr) (hfr1 : fr ≤ 2) (hch0 : 1 ≤ ch) (hch1 : ch ≤ 4) (har0 : 0 ≤ ar) (har1 : ar ≤ 3) (hop0 : 0 ≤ op) (hop1 : op ≤ 1) (hm6 : nm < 6) : hh_Ki l D K ad yX7_mast (hh_wm yX7_mast cX7_mast 8 (some .int)) { frames := 4, cells := 0, slots := 0, locals := 90 } [.ref (ad 0), .int pl, .int pw, .int fr, .int ch, .int ar, .int op] v (fun (q : Int32) (v1 : hh_M) => (q, v1) = hf_X7_mast v pl pw fr ch ar op ∧ hh_T (nm + 1) nh nc v1) := by
  refine hh_Ki_of (by decide) (Nat.le_of_ble_eq_true rfl) ?_
  intro p e s m args below meth c ls A C0 hp hl
  obtain ⟨hx, hb, hr9, hml, hown, hts, hK, hlk, hA⟩ := id C0
  have hnm := hT.1
  have hnh := hT.2.1
  have hnc := hT.2.2.1
  have hbH0 := hnh 0
  have hbC0 := hnc 0
  have hbH1 := hnh 1
  have hbC1 := hnc 1
  have hl : lv_has ls 8 [(0, .ref (ad 0)), (1, .int pl), (2, .int pw), (3, .int fr), (4, .int ch), (5, .int ar), (6, .int op)] := hl
  refine lv_iload_n hx hb dX7_mast_0 rfl (lv_at hl 1 rfl) ?_
  refine lv_iconst (v := 0) hx hb dX7_mast_1 (by decide) ?_
  refine lv_bipush (v := 99) hx hb dX7_mast_2 (by decide) ?_
  refine hh_cSv C0 hp (As := [.int pl, .int 0, .int 99]) (rest := []) (n := 3) (hk_X7_demandWithin l D K ad hT pl 0 99 hpl0 hpl1) (hh_gS hm_333 hm_334 hm_335 hm_336) ⟨rfl, rfl⟩ (by decide +kernel) ⟨Nat.le_of_ble_eq_true rfl, Nat.le_of_ble_eq_true rfl⟩ ⟨Nat.zero_le _, Nat.zero_le _⟩ hl.1 rfl rfl (Nat.le_of_ble_eq_true rfl) dX7_mast_4 (fun v_4 H locs hv_4 hp => ?_)
  rw [hv_4] at hp
  refine lv_iload_n hx hb dX7_mast_7 rfl (lv_at hl 2 rfl) ?_
  refine lv_bipush (v := 10) hx hb dX7_mast_8 (by decide) ?_
  refine lv_bipush (v := 60) hx hb dX7_mast_10 (by decide) ?_
  refine hh_cSv C0 hp (As := [.int pw, .int 10, .int 60]) (rest := []) (n := 3) (hk_X7_demandWithin l D K ad hT pw 10 60 hpw0 hpw1) (hh_gS hm_333 hm_334 hm_335 hm_336) ⟨rfl, rfl⟩ (by decide +kernel) ⟨Nat.le_of_ble_eq_true rfl, Nat.le_of_ble_eq_true rfl⟩ ⟨Nat.zero_le _, Nat.zero_le _⟩ hl.1 rfl rfl (Nat.le_of_ble_eq_true rfl) dX7_mast_12 (fun v_12 H locs hv_12 hp => ?_)
  rw [hv_12] at hp
  refine lv_iload_n hx hb dX7_mast_15 rfl (lv_at hl 3 rfl) ?_
  refine lv_iconst (v := 0) hx hb dX7_mast_16 (by decide) ?_
  refine lv_iconst (v := 2) hx hb dX7_mast_17 (by decide) ?_
  refine hh_cSv C0 hp (As := [.int fr, .int 0, .int 2]) (rest := []) (n := 3) (hk_X7_demandWithin l D K ad hT fr 0 2 hfr0 hfr1) (hh_gS hm_333 hm_334 hm_335 hm_336) ⟨rfl, rfl⟩ (by decide +kernel) ⟨Nat.le_of_ble_eq_true rfl, Nat.le_of_ble_eq_true rfl⟩ ⟨Nat.zero_le _, Nat.zero_le _⟩ hl.1 rfl rfl (Nat.le_of_ble_eq_true rfl) dX7_mast_18 (fun v_18 H locs hv_18 hp => ?_)
  rw [hv_18] at hp
  refine lv_iload hx hb dX7_mast_21 (lv_at hl 4 rfl) ?_
  refine lv_iconst (v := 1) hx hb dX7_mast_23 (by decide) ?_
  refine lv_iconst (v := 4) hx hb dX7_mast_24 (by decide) ?_
  refine hh_cSv C0 hp (As := [.int ch, .int 1, .int 4]) (rest := []) (n := 3) (hk_X7_demandWithin l D K ad hT ch 1 4 hch0 hch1) (hh_gS hm_333 hm_334 hm_335 hm_336) ⟨rfl, rfl⟩ (by decide +kernel) ⟨Nat.le_of_ble_eq_true rfl, Nat.le_of_ble_eq_true rfl⟩ ⟨Nat.zero_le _, Nat.zero_le _⟩ hl.1 rfl rfl (Nat.le_of_ble_eq_true rfl) dX7_mast_25 (fun v_25 H locs hv_25 hp => ?_)
  rw [hv_25] at hp
  refine lv_iload hx hb dX7_mast_28 (lv_at hl 5 rfl) ?_
  refine lv_iconst (v := 0) hx hb dX7_mast_30 (by decide) ?_
  refine lv_iconst (v := 3) hx hb dX7_mast_31 (by decide) ?_
  refine hh_cSv C0 hp (As := [.int ar, .int 0, .int 3]) (rest := []) (n := 3) (hk_X7_demandWithin l D K ad hT ar 0 3 har0 har1) (hh_gS hm_333 hm_334 hm_335 hm_336) ⟨rfl, rfl⟩ (by decide +kernel) ⟨Nat.le_of_ble_eq_true rfl, Nat.le_of_ble_eq_true rfl⟩ ⟨Nat.zero_le _, Nat.zero_le _⟩ hl.1 rfl rfl (Nat.le_of_ble_eq_true rfl) dX7_mast_32 (fun v_32 H locs hv_32 hp => ?_)
  rw [hv_32] at hp
  refine lv_iload hx hb dX7_mast_35 (lv_at hl 6 rfl) ?_
  refine lv_iconst (v := 0) hx hb dX7_mast_37 (by decide) ?_
  refine lv_iconst (v := 1) hx hb dX7_mast_38 (by decide) ?_
  refine hh_cSv C0 hp (As := [.int op, .int 0, .int 1]) (rest := []) (n := 3) (hk_X7_demandWithin l D K ad hT op 0 1 hop0 hop1) (hh_gS hm_333 hm_334 hm_335 hm_336) ⟨rfl, rfl⟩ (by decide +kernel) ⟨Nat.le_of_ble_eq_true rfl, Nat.le_of_ble_eq_true rfl⟩ ⟨Nat.zero_le _, Nat.zero_le _⟩ hl.1 rfl rfl (Nat.le_of_ble_eq_true rfl) dX7_mast_39 (fun v_39 H locs hv_39 hp => ?_)
  rw [hv_39] at hp
  refine lv_aload_n hx hb dX7_mast_42 rfl (lv_at hl 0 rfl) ?_
  refine hh_get C0 hp (C := RX7) (T := TX7) (N := 4) (ci := 7) (by decide) hh_E_0 rfl hh_uX7 0 (by decide) hm_310 rfl rfl dX7_mast_43 ?_
  refine hh_get C0 hp (C := RX4) (T := TX4) (N := 3) (ci := 4) (by decide) hh_E_1 rfl hh_uX4 2 (by decide) hm_324 rfl rfl dX7_mast_46 ?_
  refine lv_bipush (v := 6) hx hb dX7_mast_49 (by decide) ?_
  refine lv_icmp_lt (tgt := 64) hx hb dX7_mast_51 (by decide) (fun c_51 => ?_) (fun c_51 => ?_)
  · refine lv_aload_n hx hb dX7_mast_64 rfl (lv_at hl 0 rfl) ?_
    refine hh_get C0 hp (C := RX7) (T := TX7) (N := 4) (ci := 7) (by decide) hh_E_0 rfl hh_uX7 0 (by decide) hm_310 rfl rfl dX7_mast_65 ?_
    refine hh_get C0 hp (C := RX4) (T := TX4) (N := 3) (ci := 4) (by decide) hh_E_1 rfl hh_uX4 0 (by decide) hm_325 rfl rfl dX7_mast_68 ?_
    refine lv_aload_n hx hb dX7_mast_71 rfl (lv_at hl 0 rfl) ?_
    refine hh_get C0 hp (C := RX7) (T := TX7) (N := 4) (ci := 7) (by decide) hh_E_0 rfl hh_uX7 0 (by decide) hm_310 rfl rfl dX7_mast_72 ?_
    refine hh_get C0 hp (C := RX4) (T := TX4) (N := 3) (ci := 4) (by decide) hh_E_1 rfl hh_uX4 2 (by decide) hm_324 rfl rfl dX7_mast_75 ?_
    have hin_78 : vp_in (v 1 2) 6 := by rw [hh_T_M hT]; exact vp_in_nI hm6 (by decide)
    refine hh_aal C0 hp (t0 := 2) (f := hh_mI) (by decide) hh_E_2 rfl rfl hin_78 rfl dX7_mast_78 ?_
    refine lv_astore (lv' := [(7, .ref (ad (hh_mI ((v 1 2).toNatClampNeg)))), (0, .ref (ad 0)), (1, .int pl), (2, .int pw), (3, .int fr), (4, .int ch), (5, .int ar), (6, .int op)]) hx hb dX7_mast_79 hl (by decide) rfl (fun ls hl => ?_)
    refine lv_aload hx hb dX7_mast_81 (lv_at hl 0 rfl) ?_
    refine lv_iload_n hx hb dX7_mast_83 rfl (lv_at hl 2 rfl) ?_
    refine hh_put C0 hp (C := RX3) (T := TX3) (N := 7) (ci := 3) (k := 0) (ty := .int) (hh_b_m (hh_lt hin_78)) (hh_E_m (hh_lt hin_78)) (hh_pm0 (hh_lt hin_78)) rfl hh_uX3 tyX3_ok nmX3 (by decide) hm_326 rfl rfl (by decide +kernel) rfl rfl (Nat.le_of_ble_eq_true rfl) dX7_mast_84 (fun H locs hp => ?_)
    obtain ⟨v_84, ev_84⟩ : ∃ z : hh_M, z = hh_up v (hh_mI ((v 1 2).toNatClampNeg)) 0 pl := ⟨_, rfl⟩
    rw [← ev_84] at hp
    have hTv_84 : hh_T nm nh nc v_84 := by rw [ev_84]; exact hh_T_up hT (hh_Rt_m (hh_lt hin_78) (by decide))
    refine lv_aload hx hb dX7_mast_87 (lv_at hl 0 rfl) ?_
    refine lv_iload_n hx hb dX7_mast_89 rfl (lv_at hl 3 rfl) ?_
    refine hh_put C0 hp (C := RX3) (T := TX3) (N := 7) (ci := 3) (k := 1) (ty := .int) (hh_b_m (hh_lt hin_78)) (hh_E_m (hh_lt hin_78)) (hh_pm1 (hh_lt hin_78)) rfl hh_uX3 tyX3_ok nmX3 (by decide) hm_327 rfl rfl (by decide +kernel) rfl rfl (Nat.le_of_ble_eq_true rfl) dX7_mast_90 (fun H locs hp => ?_)
    obtain ⟨v_90, ev_90⟩ : ∃ z : hh_M, z = hh_up v_84 (hh_mI ((v 1 2).toNatClampNeg)) 1 pw := ⟨_, rfl⟩
    rw [← ev_90] at hp
    have hTv_90 : hh_T nm nh nc v_90 := by rw [ev_90]; exact hh_T_up hTv_84 (hh_Rt_m (hh_lt hin_78) (by decide))
    refine lv_aload hx hb dX7_mast_93 (lv_at hl 0 rfl) ?_
    refine lv_iload_n hx hb dX7_mast_95 rfl (lv_at hl 4 rfl) ?_
    refine hh_put C0 hp (C := RX3) (T := TX3) (N := 7) (ci := 3) (k := 2) (ty := .int) (hh_b_m (hh_lt hin_78)) (hh_E_m (hh_lt hin_78)) (hh_pm2 (hh_lt hin_78)) rfl hh_uX3 tyX3_ok nmX3 (by decide) hm_328 rfl rfl (by decide +kernel) rfl rfl (Nat.le_of_ble_eq_true rfl) dX7_mast_96 (fun H locs hp => ?_)
    obtain ⟨v_96, ev_96⟩ : ∃ z : hh_M, z = hh_up v_90 (hh_mI ((v 1 2).toNatClampNeg)) 2 fr := ⟨_, rfl⟩
    rw [← ev_96] at hp
    have hTv_96 : hh_T nm nh nc v_96 := by rw [ev_96]; exact hh_T_up hTv_90 (hh_Rt_m (hh_lt hin_78) (by decide))
    refine lv_aload hx hb dX7_mast_99 (lv_at hl 0 rfl) ?_
    refine lv_iload hx hb dX7_mast_101 (lv_at hl 5 rfl) ?_
    refine hh_put C0 hp (C := RX3) (T := TX3) (N := 7) (ci := 3) (k := 3) (ty := .int) (hh_b_m (hh_lt hin_78)) (hh_E_m (hh_lt hin_78)) (hh_pm3 (hh_lt hin_78)) rfl hh_uX3 tyX3_ok nmX3 (by decide) hm_329 rfl rfl (by decide +kernel) rfl rfl (Nat.le_of_ble_eq_true rfl) dX7_mast_103 (fun H locs hp => ?_)
    obtain ⟨v_103, ev_103⟩ : ∃ z : hh_M, z = hh_up v_96 (hh_mI ((v 1 2).toNatClampNeg)) 3 ch := ⟨_, rfl⟩
    rw [← ev_103] at hp
    have hTv_103 : hh_T nm nh nc v_103 := by rw [ev_103]; exact hh_T_up hTv_96 (hh_Rt_m (hh_lt hin_78) (by decide))
    refine lv_aload hx hb dX7_mast_106 (lv_at hl 0 rfl) ?_
    refine lv_iload hx hb dX7_mast_108 (lv_at hl 6 rfl) ?_
    refine hh_put C0 hp (C := RX3) (T := TX3) (N := 7) (ci := 3) (k := 4) (ty := .int) (hh_b_m (hh_lt hin_78)) (hh_E_m (hh_lt hin_78)) (hh_pm4 (hh_lt hin_78)) rfl hh_uX3 tyX3_ok nmX3 (by decide) hm_330 rfl rfl (by decide +kernel) rfl rfl (Nat.le_of_ble_eq_true rfl) dX7_mast_110 (fun H locs hp => ?_)
    obtain ⟨v_110, ev_110⟩ : ∃ z : hh_M, z = hh_up v_103 (hh_mI ((v 1 2).toNatClampNeg)) 4 ar := ⟨_, rfl⟩
    rw [← ev_110] at hp
    have hTv_110 : hh_T nm nh nc v_110 := by rw [ev_110]; exact hh_T_up hTv_103 (hh_Rt_m (hh_lt hin_78) (by decide))
    refine lv_aload hx hb dX7_mast_113 (lv_at hl 0 rfl) ?_
    refine lv_iload hx hb dX7_mast_115 (lv_at hl 7 rfl) ?_
    refine hh_put C0 hp (C := RX3) (T := TX3) (N := 7) (ci := 3) (k := 5) (ty := .int) (hh_b_m (hh_lt hin_78)) (hh_E_m (hh_lt hin_78)) (hh_pm5 (hh_lt hin_78)) rfl hh_uX3 tyX3_ok nmX3 (by decide) hm_331 rfl rfl (by decide +kernel) rfl rfl (Nat.le_of_ble_eq_true rfl) dX7_mast_117 (fun H locs hp => ?_)
    obtain ⟨v_117, ev_117⟩ : ∃ z : hh_M, z = hh_up v_110 (hh_mI ((v 1 2).toNatClampNeg)) 5 op := ⟨_, rfl⟩
    rw [← ev_117] at hp
    have hTv_117 : hh_T nm nh nc v_117 := by rw [ev_117]; exact hh_T_up hTv_110 (hh_Rt_m (hh_lt hin_78) (by decide))
    refine lv_aload hx hb dX7_mast_120 (lv_at hl 0 rfl) ?_
    refine lv_iconst (v := 1) hx hb dX7_mast_122 (by decide) ?_
    refine hh_put C0 hp (C := RX3) (T := TX3) (N := 7) (ci := 3) (k := 6) (ty := .boolean) (hh_b_m (hh_lt hin_78)) (hh_E_m (hh_lt hin_78)) (hh_pm6 (hh_lt hin_78)) rfl hh_uX3 tyX3_ok nmX3 (by decide) hm_332 rfl rfl (by decide +kernel) (hh_nz (Or.inr rfl)) (hh_fz (Or.inr rfl)) (Nat.le_of_ble_eq_true rfl) dX7_mast_123 (fun H locs hp => ?_)
    obtain ⟨v_123, ev_123⟩ : ∃ z : hh_M, z = hh_up v_117 (hh_mI ((v 1 2).toNatClampNeg)) 6 1 := ⟨_, rfl⟩
    rw [← ev_123] at hp
    have hTv_123 : hh_T nm nh nc v_123 := by rw [ev_123]; exact hh_T_up hTv_117 (hh_R_m6 (hh_lt hin_78) (Or.inr rfl))
    refine lv_aload_n hx hb dX7_mast_126 rfl (lv_at hl 1 rfl) ?_
    refine hh_get C0 hp (C := RX7) (T := TX7) (N := 4) (ci := 7) (by decide) hh_E_0 rfl hh_uX7 0 (by decide) hm_310 rfl rfl dX7_mast_127 ?_
    refine lv_dup hx hb dX7_mast_130 rfl ?_
    refine hh_get C0 hp (C := RX4) (T := TX4) (N := 3) (ci := 4) (by decide) hh_E_1 rfl hh_uX4 2 (by decide) hm_324 rfl rfl dX7_mast_131 ?_
    refine lv_iconst (v := 1) hx hb dX7_mast_134 (by decide) ?_
    refine lv_iadd hx hb dX7_mast_135 ?_
    refine hh_put C0 hp (C := RX4) (T := TX4) (N := 3) (ci := 4) (k := 2) (ty := .int) (by decide) hh_E_1 hh_pM2 rfl hh_uX4 tyX4_ok nmX4 (by decide) hm_324 rfl rfl (by decide +kernel) rfl rfl (Nat.le_of_ble_eq_true rfl) dX7_mast_136 (fun H locs hp => ?_)
    obtain ⟨v_136, ev_136⟩ : ∃ z : hh_M, z = hh_up v_123 1 2 ((v_123 1 2) + 1) := ⟨_, rfl⟩
    rw [← ev_136] at hp
    have hTv_136 : hh_T (nm + 1) nh nc v_136 := by rw [ev_136]; exact hh_T_nm hTv_123 (by omega) (by omega) (by rw [hh_T_M hTv_123]; exact nI_1 nm)
    refine lv_aload_n hx hb dX7_mast_139 rfl (lv_at hl 1 rfl) ?_
    refine hh_get C0 hp (C := RX7) (T := TX7) (N := 4) (ci := 7) (by decide) hh_E_0 rfl hh_uX7 0 (by decide) hm_310 rfl rfl dX7_mast_140 ?_
    refine hh_cVv C0 hp (As := []) (rest := []) (C := RX4) (T := TX4) (N := 3) (ci := 4) (n := 0) (hk_X4_measure l D K ad hTv_136 ) rfl (by decide) hh_E_1 (hh_gV hm_337 hm_338 hm_339 hm_83 hm_78) ⟨rfl, rfl⟩ (by decide +kernel) ⟨Nat.le_of_ble_eq_true rfl, Nat.le_of_ble_eq_true rfl⟩ ⟨Nat.zero_le _, Nat.zero_le _⟩ hl.1 rfl rfl (Nat.le_of_ble_eq_true rfl) dX7_mast_143 (fun v_143 H locs hv_143 hp => ?_)
    obtain ⟨ev_143, hTv_143⟩ := hv_143
    refine lv_aload_n hx hb dX7_mast_146 rfl (lv_at hl 1 rfl) ?_
    refine hh_get C0 hp (C := RX7) (T := TX7) (N := 4) (ci := 7) (by decide) hh_E_0 rfl hh_uX7 0 (by decide) hm_310 rfl rfl dX7_mast_147 ?_
    refine hh_get C0 hp (C := RX4) (T := TX4) (N := 3) (ci := 4) (by decide) hh_E_1 rfl hh_uX4 2 (by decide) hm_324 rfl rfl dX7_mast_150 ?_
    refine lv_iconst (v := 1) hx hb dX7_mast_153 (by decide) ?_
    refine lv_isub hx hb dX7_mast_154 ?_
    exact hh_iret C0 hp dX7_mast_155 ⟨(by show (_, _) = _; unfold hf_X7_mast; rw [hh_let_eq ev_84, hh_let_eq ev_90, hh_let_eq ev_96, hh_let_eq ev_103, hh_let_eq ev_110, hh_let_eq ev_117, hh_let_eq ev_123, hh_let_eq ev_136, hh_let_eq ev_143]), hTv_143⟩
  · exact absurd (by rw [hh_T_M hT]; exact nI_lt hm6 (by decide) : v 1 2 < 6) c_51
def hf_X7_handset (v : hh_M) (op : Int32) (pl : Int32) (sp : Int32) (ba : Int32) : Int32 × hh_M := (hh_let (hh_up v (hh_hI 0 ((v (hh_rI 0) 5).toNatClampNeg)) 0 op : hh_M) (fun (v_71 : hh_M) => (hh_let (hh_up v_71 (hh_hI 0 ((v (hh_rI 0) 5).toNatClampNeg)) 1 pl : hh_M) (fun (v_77 : hh_M) => (hh_let (hh_up v_77 (hh_hI 0 ((v (hh_rI 0) 5).toNatClampNeg)) 2 sp : hh_M) (fun (v_83 : hh_M) => (hh_let (hh_up v_83 (hh_hI 0 ((v (hh_rI 0) 5).toNatClampNeg)) 3 ba : hh_M) (fun (v_90 : hh_M) => (hh_let (hh_up v_90 (hh_hI 0 ((v (hh_rI 0) 5).toNatClampNeg)) 4 1 : hh_M) (fun (v_96 : hh_M) => (hh_let (hh_up v_96 (hh_rI 0) 5 ((v_96 (hh_rI 0) 5) + 1) : hh_M) (fun (v_109 : hh_M) => (((v_109 (hh_rI 0) 5) - 1), v_109)))))))))))))
set_option maxHeartbeats 4000000 in
set_option maxRecDepth 100000 in
theorem hk_X7_handset (l : Launch) (D : va_G) (K : Nat → ClassId) (ad : Nat → Nat) {nm : Nat} {nh nc : Nat → Nat} {v : hh_M} (hT : hh_T nm nh nc v) (op : Int32) (pl : Int32) (sp : Int32) (ba : Int32) (hop0 : 0 ≤ op) (hop1 : op ≤ 1) (hpl0 : 0 ≤ pl) (hpl1 : pl ≤ 99) (hsp0 : (-3) ≤ sp) (hsp1 : sp ≤ 3) (hba0 : 0 ≤ ba) (hba1 : ba ≤ 999) (hh8 : nh 0 < 8) : hh_Ki l D K ad yX7_handset (hh_wm yX7_handset cX7_handset 6 (some .int)) { frames := 1, cells := 0, slots := 0, locals := 22 } [.ref (ad 0), .int op, .int pl, .int sp, .int ba] v (fun (q : Int32) (v1 : hh_M) => (q, v1) = hf_X7_handset v op pl sp ba ∧ hh_T nm (hh_fu nh 0 (nh 0 + 1)) nc v1) := by
  refine hh_Ki_of (by decide) (Nat.le_of_ble_eq_true rfl) ?_
  intro p e s m args below meth c ls A C0 hp hl
  obtain ⟨hx, hb, hr9, hml, hown, hts, hK, hlk, hA⟩ := id C0
  have hnm := hT.1
  have hnh := hT.2.1
  have hnc := hT.2.2.1
  have hbH0 := hnh 0
  have hbC0 := hnc 0
  have hbH1 := hnh 1
  have hbC1 := hnc 1
  have hl : lv_has ls 6 [(0, .ref (ad 0)), (1, .int op), (2, .int pl), (3, .int sp), (4, .int ba)] := hl
  refine lv_iload_n hx hb dX7_handset_0 rfl (lv_at hl 1 rfl) ?_
  refine lv_iconst (v := 0) hx hb dX7_handset_1 (by decide) ?_
  refine lv_iconst (v := 1) hx hb dX7_handset_2 (by decide) ?_
  refine hh_cSv C0 hp (As := [.int op, .int 0, .int 1]) (rest := []) (n := 3) (hk_X7_demandWithin l D K ad hT op 0 1 hop0 hop1) (hh_gS hm_333 hm_334 hm_335 hm_336) ⟨rfl, rfl⟩ (by decide +kernel) ⟨Nat.le_of_ble_eq_true rfl, Nat.le_of_ble_eq_true rfl⟩ ⟨Nat.zero_le _, Nat.zero_le _⟩ hl.1 rfl rfl (Nat.le_of_ble_eq_true rfl) dX7_handset_3 (fun v_3 H locs hv_3 hp => ?_)
  rw [hv_3] at hp
  refine lv_iload_n hx hb dX7_handset_6 rfl (lv_at hl 2 rfl) ?_
  refine lv_iconst (v := 0) hx hb dX7_handset_7 (by decide) ?_
  refine lv_bipush (v := 99) hx hb dX7_handset_8 (by decide) ?_
  refine hh_cSv C0 hp (As := [.int pl, .int 0, .int 99]) (rest := []) (n := 3) (hk_X7_demandWithin l D K ad hT pl 0 99 hpl0 hpl1) (hh_gS hm_333 hm_334 hm_335 hm_336) ⟨rfl, rfl⟩ (by decide +kernel) ⟨Nat.le_of_ble_eq_true rfl, Nat.le_of_ble_eq_true rfl⟩ ⟨Nat.zero_le _, Nat.zero_le _⟩ hl.1 rfl rfl (Nat.le_of_ble_eq_true rfl) dX7_handset_10 (fun v_10 H locs hv_10 hp => ?_)
  rw [hv_10] at hp
  refine lv_iload_n hx hb dX7_handset_13 rfl (lv_at hl 3 rfl) ?_
  refine lv_bipush (v := (-3)) hx hb dX7_handset_14 (by decide) ?_
  refine lv_iconst (v := 3) hx hb dX7_handset_16 (by decide) ?_
  refine hh_cSv C0 hp (As := [.int sp, .int (-3), .int 3]) (rest := []) (n := 3) (hk_X7_demandWithin l D K ad hT sp (-3) 3 hsp0 hsp1) (hh_gS hm_333 hm_334 hm_335 hm_336) ⟨rfl, rfl⟩ (by decide +kernel) ⟨Nat.le_of_ble_eq_true rfl, Nat.le_of_ble_eq_true rfl⟩ ⟨Nat.zero_le _, Nat.zero_le _⟩ hl.1 rfl rfl (Nat.le_of_ble_eq_true rfl) dX7_handset_17 (fun v_17 H locs hv_17 hp => ?_)
  rw [hv_17] at hp
  refine lv_iload hx hb dX7_handset_20 (lv_at hl 4 rfl) ?_
  refine lv_iconst (v := 0) hx hb dX7_handset_22 (by decide) ?_
  refine lv_sipush (v := 999) hx hb dX7_handset_23 (by decide) ?_
  refine hh_cSv C0 hp (As := [.int ba, .int 0, .int 999]) (rest := []) (n := 3) (hk_X7_demandWithin l D K ad hT ba 0 999 hba0 hba1) (hh_gS hm_333 hm_334 hm_335 hm_336) ⟨rfl, rfl⟩ (by decide +kernel) ⟨Nat.le_of_ble_eq_true rfl, Nat.le_of_ble_eq_true rfl⟩ ⟨Nat.zero_le _, Nat.zero_le _⟩ hl.1 rfl rfl (Nat.le_of_ble_eq_true rfl) dX7_handset_26 (fun v_26 H locs hv_26 hp => ?_)
  rw [hv_26] at hp
  refine lv_aload_n hx hb dX7_handset_29 rfl (lv_at hl 0 rfl) ?_
  refine hh_get C0 hp (C := RX7) (T := TX7) (N := 4) (ci := 7) (by decide) hh_E_0 rfl hh_uX7 1 (by decide) hm_313 rfl rfl dX7_handset_30 ?_
  refine hh_get C0 hp (C := RX5) (T := TX5) (N := 10) (ci := 5) (hh_b_r (by decide : 0 < 2)) (hh_E_r 0) rfl hh_uX5 5 (by decide) hm_341 rfl rfl dX7_handset_33 ?_
  refine lv_bipush (v := 8) hx hb dX7_handset_36 (by decide) ?_
  refine lv_icmp_lt (tgt := 51) hx hb dX7_handset_38 (by decide) (fun c_38 => ?_) (fun c_38 => ?_)
  · refine lv_aload_n hx hb dX7_handset_51 rfl (lv_at hl 0 rfl) ?_
    refine hh_get C0 hp (C := RX7) (T := TX7) (N := 4) (ci := 7) (by decide) hh_E_0 rfl hh_uX7 1 (by decide) hm_313 rfl rfl dX7_handset_52 ?_
    refine hh_get C0 hp (C := RX5) (T := TX5) (N := 10) (ci := 5) (hh_b_r (by decide : 0 < 2)) (hh_E_r 0) rfl hh_uX5 3 (by decide) hm_342 rfl rfl dX7_handset_55 ?_
    refine lv_aload_n hx hb dX7_handset_58 rfl (lv_at hl 0 rfl) ?_
    refine hh_get C0 hp (C := RX7) (T := TX7) (N := 4) (ci := 7) (by decide) hh_E_0 rfl hh_uX7 1 (by decide) hm_313 rfl rfl dX7_handset_59 ?_
    refine hh_get C0 hp (C := RX5) (T := TX5) (N := 10) (ci := 5) (hh_b_r (by decide : 0 < 2)) (hh_E_r 0) rfl hh_uX5 5 (by decide) hm_341 rfl rfl dX7_handset_62 ?_
    have hin_65 : vp_in (v (hh_rI 0) 5) 8 := by rw [hh_T_r5 hT 0]; exact vp_in_nI hh8 (by decide)
    refine hh_aal C0 hp (t0 := 3) (f := (hh_hI 0)) (hh_b_H (by decide : 0 < 2)) (hh_E_H 0) rfl rfl hin_65 rfl dX7_handset_65 ?_
    refine lv_astore (lv' := [(5, .ref (ad (hh_hI 0 ((v (hh_rI 0) 5).toNatClampNeg)))), (0, .ref (ad 0)), (1, .int op), (2, .int pl), (3, .int sp), (4, .int ba)]) hx hb dX7_handset_66 hl (by decide) rfl (fun ls hl => ?_)
    refine lv_aload hx hb dX7_handset_68 (lv_at hl 0 rfl) ?_
    refine lv_iload_n hx hb dX7_handset_70 rfl (lv_at hl 2 rfl) ?_
    refine hh_put C0 hp (C := RX1) (T := TX1) (N := 13) (ci := 1) (k := 0) (ty := .int) (hh_b_h (by decide : 0 < 2) (hh_lt hin_65)) (hh_E_h 0 (hh_lt hin_65)) (hh_ph0 0 (hh_lt hin_65)) rfl hh_uX1 tyX1_ok nmX1 (by decide) hm_343 rfl rfl (by decide +kernel) rfl rfl (Nat.le_of_ble_eq_true rfl) dX7_handset_71 (fun H locs hp => ?_)
    obtain ⟨v_71, ev_71⟩ : ∃ z : hh_M, z = hh_up v (hh_hI 0 ((v (hh_rI 0) 5).toNatClampNeg)) 0 op := ⟨_, rfl⟩
    rw [← ev_71] at hp
    have hTv_71 : hh_T nm nh nc v_71 := by rw [ev_71]; exact hh_T_up hT (hh_Rt_h (by decide : 0 < 2) (hh_lt hin_65) (by decide))
    refine lv_aload hx hb dX7_handset_74 (lv_at hl 0 rfl) ?_
    refine lv_iload_n hx hb dX7_handset_76 rfl (lv_at hl 3 rfl) ?_
    refine hh_put C0 hp (C := RX1) (T := TX1) (N := 13) (ci := 1) (k := 1) (ty := .int) (hh_b_h (by decide : 0 < 2) (hh_lt hin_65)) (hh_E_h 0 (hh_lt hin_65)) (hh_ph1 0 (hh_lt hin_65)) rfl hh_uX1 tyX1_ok nmX1 (by decide) hm_344 rfl rfl (by decide +kernel) rfl rfl (Nat.le_of_ble_eq_true rfl) dX7_handset_77 (fun H locs hp => ?_)
    obtain ⟨v_77, ev_77⟩ : ∃ z : hh_M, z = hh_up v_71 (hh_hI 0 ((v (hh_rI 0) 5).toNatClampNeg)) 1 pl := ⟨_, rfl⟩
    rw [← ev_77] at hp
    have hTv_77 : hh_T nm nh nc v_77 := by rw [ev_77]; exact hh_T_up hTv_71 (hh_R_h1 (by decide : 0 < 2) (hh_lt hin_65) ⟨hpl0, hpl1⟩)
    refine lv_aload hx hb dX7_handset_80 (lv_at hl 0 rfl) ?_
    refine lv_iload_n hx hb dX7_handset_82 rfl (lv_at hl 4 rfl) ?_
    refine hh_put C0 hp (C := RX1) (T := TX1) (N := 13) (ci := 1) (k := 2) (ty := .int) (hh_b_h (by decide : 0 < 2) (hh_lt hin_65)) (hh_E_h 0 (hh_lt hin_65)) (hh_ph2 0 (hh_lt hin_65)) rfl hh_uX1 tyX1_ok nmX1 (by decide) hm_345 rfl rfl (by decide +kernel) rfl rfl (Nat.le_of_ble_eq_true rfl) dX7_handset_83 (fun H locs hp => ?_)
    obtain ⟨v_83, ev_83⟩ : ∃ z : hh_M, z = hh_up v_77 (hh_hI 0 ((v (hh_rI 0) 5).toNatClampNeg)) 2 sp := ⟨_, rfl⟩
    rw [← ev_83] at hp
    have hTv_83 : hh_T nm nh nc v_83 := by rw [ev_83]; exact hh_T_up hTv_77 (hh_R_h2 (by decide : 0 < 2) (hh_lt hin_65) ⟨hsp0, hsp1⟩)
    refine lv_aload hx hb dX7_handset_86 (lv_at hl 0 rfl) ?_
    refine lv_iload hx hb dX7_handset_88 (lv_at hl 5 rfl) ?_
    refine hh_put C0 hp (C := RX1) (T := TX1) (N := 13) (ci := 1) (k := 3) (ty := .int) (hh_b_h (by decide : 0 < 2) (hh_lt hin_65)) (hh_E_h 0 (hh_lt hin_65)) (hh_ph3 0 (hh_lt hin_65)) rfl hh_uX1 tyX1_ok nmX1 (by decide) hm_346 rfl rfl (by decide +kernel) rfl rfl (Nat.le_of_ble_eq_true rfl) dX7_handset_90 (fun H locs hp => ?_)
    obtain ⟨v_90, ev_90⟩ : ∃ z : hh_M, z = hh_up v_83 (hh_hI 0 ((v (hh_rI 0) 5).toNatClampNeg)) 3 ba := ⟨_, rfl⟩
    rw [← ev_90] at hp
    have hTv_90 : hh_T nm nh nc v_90 := by rw [ev_90]; exact hh_T_up hTv_83 (hh_Rt_h (by decide : 0 < 2) (hh_lt hin_65) (by decide))
    refine lv_aload hx hb dX7_handset_93 (lv_at hl 0 rfl) ?_
    refine lv_iconst (v := 1) hx hb dX7_handset_95 (by decide) ?_
    refine hh_put C0 hp (C := RX1) (T := TX1) (N := 13) (ci := 1) (k := 4) (ty := .boolean) (hh_b_h (by decide : 0 < 2) (hh_lt hin_65)) (hh_E_h 0 (hh_lt hin_65)) (hh_ph4 0 (hh_lt hin_65)) rfl hh_uX1 tyX1_ok nmX1 (by decide) hm_347 rfl rfl (by decide +kernel) (hh_nz (Or.inr rfl)) (hh_fz (Or.inr rfl)) (Nat.le_of_ble_eq_true rfl) dX7_handset_96 (fun H locs hp => ?_)
    obtain ⟨v_96, ev_96⟩ : ∃ z : hh_M, z = hh_up v_90 (hh_hI 0 ((v (hh_rI 0) 5).toNatClampNeg)) 4 1 := ⟨_, rfl⟩
    rw [← ev_96] at hp
    have hTv_96 : hh_T nm nh nc v_96 := by rw [ev_96]; exact hh_T_up hTv_90 (hh_R_h4 (by decide : 0 < 2) (hh_lt hin_65) (Or.inr rfl))
    refine lv_aload_n hx hb dX7_handset_99 rfl (lv_at hl 1 rfl) ?_
    refine hh_get C0 hp (C := RX7) (T := TX7) (N := 4) (ci := 7) (by decide) hh_E_0 rfl hh_uX7 1 (by decide) hm_313 rfl rfl dX7_handset_100 ?_
    refine lv_dup hx hb dX7_handset_103 rfl ?_
    refine hh_get C0 hp (C := RX5) (T := TX5) (N := 10) (ci := 5) (hh_b_r (by decide : 0 < 2)) (hh_E_r 0) rfl hh_uX5 5 (by decide) hm_341 rfl rfl dX7_handset_104 ?_
    refine lv_iconst (v := 1) hx hb dX7_handset_107 (by decide) ?_
    refine lv_iadd hx hb dX7_handset_108 ?_
    refine hh_put C0 hp (C := RX5) (T := TX5) (N := 10) (ci := 5) (k := 5) (ty := .int) (hh_b_r (by decide : 0 < 2)) (hh_E_r 0) (hh_pr5 0) rfl hh_uX5 tyX5_ok nmX5 (by decide) hm_341 rfl rfl (by decide +kernel) rfl rfl (Nat.le_of_ble_eq_true rfl) dX7_handset_109 (fun H locs hp => ?_)
    obtain ⟨v_109, ev_109⟩ : ∃ z : hh_M, z = hh_up v_96 (hh_rI 0) 5 ((v_96 (hh_rI 0) 5) + 1) := ⟨_, rfl⟩
    rw [← ev_109] at hp
    have hTv_109 : hh_T nm (hh_fu nh 0 (nh 0 + 1)) nc v_109 := by rw [ev_109]; exact hh_T_nh hTv_96 (by decide) (by omega) (by rw [hh_T_r5 hTv_96 0]; exact nI_1 _)
    refine lv_aload_n hx hb dX7_handset_112 rfl (lv_at hl 1 rfl) ?_
    refine hh_get C0 hp (C := RX7) (T := TX7) (N := 4) (ci := 7) (by decide) hh_E_0 rfl hh_uX7 1 (by decide) hm_313 rfl rfl dX7_handset_113 ?_
    refine hh_get C0 hp (C := RX5) (T := TX5) (N := 10) (ci := 5) (hh_b_r (by decide : 0 < 2)) (hh_E_r 0) rfl hh_uX5 5 (by decide) hm_341 rfl rfl dX7_handset_116 ?_
    refine lv_iconst (v := 1) hx hb dX7_handset_119 (by decide) ?_
    refine lv_isub hx hb dX7_handset_120 ?_
    exact hh_iret C0 hp dX7_handset_121 ⟨(by show (_, _) = _; unfold hf_X7_handset; rw [hh_let_eq ev_71, hh_let_eq ev_77, hh_let_eq ev_83, hh_let_eq ev_90, hh_let_eq ev_96, hh_let_eq ev_109]), hTv_109⟩
  · exact absurd (by rw [hh_T_r5 hT 0]; exact nI_lt hh8 (by decide) : v (hh_rI 0) 5 < 8) c_38
def hf_X7_speed (v : hh_M) (ha : Int32) (sp : Int32) : Int32 × hh_M := (hh_let ((v (hh_hI 0 ha.toNatClampNeg) 2) : Int32) (fun (x_30 : Int32) => (hh_let (hh_up v (hh_hI 0 ha.toNatClampNeg) 2 sp : hh_M) (fun (v_41 : hh_M) => (x_30, v_41)))))
set_option maxHeartbeats 4000000 in
set_option maxRecDepth 100000 in
theorem hk_X7_speed (l : Launch) (D : va_G) (K : Nat → ClassId) (ad : Nat → Nat) {nm : Nat} {nh nc : Nat → Nat} {v : hh_M} (hT : hh_T nm nh nc v) (ha : Int32) (sp : Int32) (hha0 : 0 ≤ ha) (hha1 : ha < nI (nh 0)) (hsp0 : (-3) ≤ sp) (hsp1 : sp ≤ 3) : hh_Ki l D K ad yX7_speed (hh_wm yX7_speed cX7_speed 4 (some .int)) { frames := 1, cells := 0, slots := 0, locals := 22 } [.ref (ad 0), .int ha, .int sp] v (fun (q : Int32) (v1 : hh_M) => (q, v1) = hf_X7_speed v ha sp ∧ hh_T nm nh nc v1) := by
  refine hh_Ki_of (by decide) (Nat.le_of_ble_eq_true rfl) ?_
  intro p e s m args below meth c ls A C0 hp hl
  obtain ⟨hx, hb, hr9, hml, hown, hts, hK, hlk, hA⟩ := id C0
  have hnm := hT.1
  have hnh := hT.2.1
  have hnc := hT.2.2.1
  have hbH0 := hnh 0
  have hbC0 := hnc 0
  have hbH1 := hnh 1
  have hbC1 := hnc 1
  have hl : lv_has ls 4 [(0, .ref (ad 0)), (1, .int ha), (2, .int sp)] := hl
  refine lv_iload_n hx hb dX7_speed_0 rfl (lv_at hl 1 rfl) ?_
  refine lv_aload_n hx hb dX7_speed_1 rfl (lv_at hl 0 rfl) ?_
  refine hh_get C0 hp (C := RX7) (T := TX7) (N := 4) (ci := 7) (by decide) hh_E_0 rfl hh_uX7 1 (by decide) hm_313 rfl rfl dX7_speed_2 ?_
  refine hh_get C0 hp (C := RX5) (T := TX5) (N := 10) (ci := 5) (hh_b_r (by decide : 0 < 2)) (hh_E_r 0) rfl hh_uX5 5 (by decide) hm_341 rfl rfl dX7_speed_5 ?_
  refine hh_cSv C0 hp (As := [.int ha, .int (v (hh_rI 0) 5)]) (rest := []) (n := 2) (hk_X7_demandNumber l D K ad hT ha (v (hh_rI 0) 5) hha0 (by rw [hh_T_r5 hT 0]; exact hha1)) (hh_gS hm_349 hm_350 hm_335 hm_351) ⟨rfl, rfl⟩ (by decide +kernel) ⟨Nat.le_of_ble_eq_true rfl, Nat.le_of_ble_eq_true rfl⟩ ⟨Nat.zero_le _, Nat.zero_le _⟩ hl.1 rfl rfl (Nat.le_of_ble_eq_true rfl) dX7_speed_8 (fun v_8 H locs hv_8 hp => ?_)
  rw [hv_8] at hp
  refine lv_iload_n hx hb dX7_speed_11 rfl (lv_at hl 2 rfl) ?_
  refine lv_bipush (v := (-3)) hx hb dX7_speed_12 (by decide) ?_
  refine lv_iconst (v := 3) hx hb dX7_speed_14 (by decide) ?_
  refine hh_cSv C0 hp (As := [.int sp, .int (-3), .int 3]) (rest := []) (n := 3) (hk_X7_demandWithin l D K ad hT sp (-3) 3 hsp0 hsp1) (hh_gS hm_333 hm_334 hm_335 hm_336) ⟨rfl, rfl⟩ (by decide +kernel) ⟨Nat.le_of_ble_eq_true rfl, Nat.le_of_ble_eq_true rfl⟩ ⟨Nat.zero_le _, Nat.zero_le _⟩ hl.1 rfl rfl (Nat.le_of_ble_eq_true rfl) dX7_speed_15 (fun v_15 H locs hv_15 hp => ?_)
  rw [hv_15] at hp
  refine lv_aload_n hx hb dX7_speed_18 rfl (lv_at hl 0 rfl) ?_
  refine hh_get C0 hp (C := RX7) (T := TX7) (N := 4) (ci := 7) (by decide) hh_E_0 rfl hh_uX7 1 (by decide) hm_313 rfl rfl dX7_speed_19 ?_
  refine hh_get C0 hp (C := RX5) (T := TX5) (N := 10) (ci := 5) (hh_b_r (by decide : 0 < 2)) (hh_E_r 0) rfl hh_uX5 3 (by decide) hm_342 rfl rfl dX7_speed_22 ?_
  refine lv_iload_n hx hb dX7_speed_25 rfl (lv_at hl 1 rfl) ?_
  have hin_26 : vp_in ha 8 := hh_inZ hha0 hha1 hbH0 (by decide)
  refine hh_aal C0 hp (t0 := 3) (f := (hh_hI 0)) (hh_b_H (by decide : 0 < 2)) (hh_E_H 0) rfl rfl hin_26 rfl dX7_speed_26 ?_
  refine hh_get C0 hp (C := RX1) (T := TX1) (N := 13) (ci := 1) (hh_b_h (by decide : 0 < 2) (hh_lt hin_26)) (hh_E_h 0 (hh_lt hin_26)) rfl hh_uX1 2 (by decide) hm_345 rfl rfl dX7_speed_27 ?_
  refine lv_topi (fun x_30 ex_30 => ?_)
  refine lv_istore_n (lv' := [(3, .int x_30), (0, .ref (ad 0)), (1, .int ha), (2, .int sp)]) hx hb dX7_speed_30 rfl hl (by decide) rfl (fun ls hl => ?_)
  refine lv_aload_n hx hb dX7_speed_31 rfl (lv_at hl 1 rfl) ?_
  refine hh_get C0 hp (C := RX7) (T := TX7) (N := 4) (ci := 7) (by decide) hh_E_0 rfl hh_uX7 1 (by decide) hm_313 rfl rfl dX7_speed_32 ?_
  refine hh_get C0 hp (C := RX5) (T := TX5) (N := 10) (ci := 5) (hh_b_r (by decide : 0 < 2)) (hh_E_r 0) rfl hh_uX5 3 (by decide) hm_342 rfl rfl dX7_speed_35 ?_
  refine lv_iload_n hx hb dX7_speed_38 rfl (lv_at hl 2 rfl) ?_
  have hin_39 : vp_in ha 8 := hh_inZ hha0 hha1 hbH0 (by decide)
  refine hh_aal C0 hp (t0 := 3) (f := (hh_hI 0)) (hh_b_H (by decide : 0 < 2)) (hh_E_H 0) rfl rfl hin_39 rfl dX7_speed_39 ?_
  refine lv_iload_n hx hb dX7_speed_40 rfl (lv_at hl 3 rfl) ?_
  refine hh_put C0 hp (C := RX1) (T := TX1) (N := 13) (ci := 1) (k := 2) (ty := .int) (hh_b_h (by decide : 0 < 2) (hh_lt hin_39)) (hh_E_h 0 (hh_lt hin_39)) (hh_ph2 0 (hh_lt hin_39)) rfl hh_uX1 tyX1_ok nmX1 (by decide) hm_345 rfl rfl (by decide +kernel) rfl rfl (Nat.le_of_ble_eq_true rfl) dX7_speed_41 (fun H locs hp => ?_)
  obtain ⟨v_41, ev_41⟩ : ∃ z : hh_M, z = hh_up v (hh_hI 0 ha.toNatClampNeg) 2 sp := ⟨_, rfl⟩
  rw [← ev_41] at hp
  have hTv_41 : hh_T nm nh nc v_41 := by rw [ev_41]; exact hh_T_up hT (hh_R_h2 (by decide : 0 < 2) (hh_lt hin_39) ⟨hsp0, hsp1⟩)
  refine lv_iload_n hx hb dX7_speed_44 rfl (lv_at hl 0 rfl) ?_
  exact hh_iret C0 hp dX7_speed_45 ⟨(by show (_, _) = _; unfold hf_X7_speed; rw [hh_let_eq ex_30, hh_let_eq ev_41]), hTv_41⟩
def hf_X7_call (v : hh_M) (from_ : Int32) (to_ : Int32) : Int32 × hh_M := (hh_let ((hf_X5_tryCall v 0 from_ to_).1 : Int32) (fun (q_37 : Int32) => (hh_let ((hf_X5_tryCall v 0 from_ to_).2 : hh_M) (fun (v_37 : hh_M) => (q_37, v_37)))))
set_option maxHeartbeats 4000000 in
set_option maxRecDepth 100000 in
theorem hk_X7_call (l : Launch) (D : va_G) (K : Nat → ClassId) (ad : Nat → Nat) {nm : Nat} {nh nc : Nat → Nat} {v : hh_M} (hT : hh_T nm nh nc v) (from_ : Int32) (to_ : Int32) (hfrom_0 : 0 ≤ from_) (hfrom_1 : from_ < nI (nh 0)) (hto_0 : 0 ≤ to_) (hto_1 : to_ < nI (nh 0)) (hne : ¬ from_ = to_) (hc24 : nc 0 < 24) : hh_Ki l D K ad yX7_call (hh_wm yX7_call cX7_call 3 (some .int)) { frames := 3, cells := 0, slots := 0, locals := 70 } [.ref (ad 0), .int from_, .int to_] v (fun (q : Int32) (v1 : hh_M) => (q, v1) = hf_X7_call v from_ to_ ∧ ∃ nc1, hh_T nm nh nc1 v1) := by
  refine hh_Ki_of (by decide) (Nat.le_of_ble_eq_true rfl) ?_
  intro p e s m args below meth c ls A C0 hp hl
  obtain ⟨hx, hb, hr9, hml, hown, hts, hK, hlk, hA⟩ := id C0
  have hnm := hT.1
  have hnh := hT.2.1
  have hnc := hT.2.2.1
  have hbH0 := hnh 0
  have hbC0 := hnc 0
  have hbH1 := hnh 1
  have hbC1 := hnc 1
  have hl : lv_has ls 3 [(0, .ref (ad 0)), (1, .int from_), (2, .int to_)] := hl
  refine lv_iload_n hx hb dX7_call_0 rfl (lv_at hl 1 rfl) ?_
  refine lv_aload_n hx hb dX7_call_1 rfl (lv_at hl 0 rfl) ?_
  refine hh_get C0 hp (C := RX7) (T := TX7) (N := 4) (ci := 7) (by decide) hh_E_0 rfl hh_uX7 1 (by decide) hm_313 rfl rfl dX7_call_2 ?_
  refine hh_get C0 hp (C := RX5) (T := TX5) (N := 10) (ci := 5) (hh_b_r (by decide : 0 < 2)) (hh_E_r 0) rfl hh_uX5 5 (by decide) hm_341 rfl rfl dX7_call_5 ?_
  refine hh_cSv C0 hp (As := [.int from_, .int (v (hh_rI 0) 5)]) (rest := []) (n := 2) (hk_X7_demandNumber l D K ad hT from_ (v (hh_rI 0) 5) hfrom_0 (by rw [hh_T_r5 hT 0]; exact hfrom_1)) (hh_gS hm_349 hm_350 hm_335 hm_351) ⟨rfl, rfl⟩ (by decide +kernel) ⟨Nat.le_of_ble_eq_true rfl, Nat.le_of_ble_eq_true rfl⟩ ⟨Nat.zero_le _, Nat.zero_le _⟩ hl.1 rfl rfl (Nat.le_of_ble_eq_true rfl) dX7_call_8 (fun v_8 H locs hv_8 hp => ?_)
  rw [hv_8] at hp
  refine lv_iload_n hx hb dX7_call_11 rfl (lv_at hl 2 rfl) ?_
  refine lv_aload_n hx hb dX7_call_12 rfl (lv_at hl 0 rfl) ?_
  refine hh_get C0 hp (C := RX7) (T := TX7) (N := 4) (ci := 7) (by decide) hh_E_0 rfl hh_uX7 1 (by decide) hm_313 rfl rfl dX7_call_13 ?_
  refine hh_get C0 hp (C := RX5) (T := TX5) (N := 10) (ci := 5) (hh_b_r (by decide : 0 < 2)) (hh_E_r 0) rfl hh_uX5 5 (by decide) hm_341 rfl rfl dX7_call_16 ?_
  refine hh_cSv C0 hp (As := [.int to_, .int (v (hh_rI 0) 5)]) (rest := []) (n := 2) (hk_X7_demandNumber l D K ad hT to_ (v (hh_rI 0) 5) hto_0 (by rw [hh_T_r5 hT 0]; exact hto_1)) (hh_gS hm_349 hm_350 hm_335 hm_351) ⟨rfl, rfl⟩ (by decide +kernel) ⟨Nat.le_of_ble_eq_true rfl, Nat.le_of_ble_eq_true rfl⟩ ⟨Nat.zero_le _, Nat.zero_le _⟩ hl.1 rfl rfl (Nat.le_of_ble_eq_true rfl) dX7_call_19 (fun v_19 H locs hv_19 hp => ?_)
  rw [hv_19] at hp
  refine lv_iload_n hx hb dX7_call_22 rfl (lv_at hl 1 rfl) ?_
  refine lv_iload_n hx hb dX7_call_23 rfl (lv_at hl 2 rfl) ?_
  refine hh_cSv C0 hp (As := [.int from_, .int to_]) (rest := []) (n := 2) (hk_X7_demandOthers l D K ad hT from_ to_ hne) (hh_gS hm_363 hm_364 hm_335 hm_365) ⟨rfl, rfl⟩ (by decide +kernel) ⟨Nat.le_of_ble_eq_true rfl, Nat.le_of_ble_eq_true rfl⟩ ⟨Nat.zero_le _, Nat.zero_le _⟩ hl.1 rfl rfl (Nat.le_of_ble_eq_true rfl) dX7_call_24 (fun v_24 H locs hv_24 hp => ?_)
  rw [hv_24] at hp
  refine lv_aload_n hx hb dX7_call_27 rfl (lv_at hl 0 rfl) ?_
  refine hh_cVv C0 hp (As := []) (rest := []) (C := RX7) (T := TX7) (N := 4) (ci := 7) (n := 0) (hk_X7_demandRoomForCall l D K ad hT hc24) rfl (by decide) hh_E_0 (hh_gV hm_366 hm_367 hm_368 hm_335 hm_369) ⟨rfl, rfl⟩ (by decide +kernel) ⟨Nat.le_of_ble_eq_true rfl, Nat.le_of_ble_eq_true rfl⟩ ⟨Nat.zero_le _, Nat.zero_le _⟩ hl.1 rfl rfl (Nat.le_of_ble_eq_true rfl) dX7_call_28 (fun v_28 H locs hv_28 hp => ?_)
  rw [hv_28] at hp
  refine lv_aload_n hx hb dX7_call_31 rfl (lv_at hl 0 rfl) ?_
  refine hh_get C0 hp (C := RX7) (T := TX7) (N := 4) (ci := 7) (by decide) hh_E_0 rfl hh_uX7 1 (by decide) hm_313 rfl rfl dX7_call_32 ?_
  refine lv_iload_n hx hb dX7_call_35 rfl (lv_at hl 1 rfl) ?_
  refine lv_iload_n hx hb dX7_call_36 rfl (lv_at hl 2 rfl) ?_
  refine hh_cVi C0 hp (As := [.int from_, .int to_]) (rest := []) (C := RX5) (T := TX5) (N := 10) (ci := 5) (n := 2) (hk_X5_tryCall l D K ad hT 0 from_ to_ (by decide : 0 < 2) (hh_inZ hfrom_0 hfrom_1 hbH0 (by decide)) (hh_inZ hto_0 hto_1 hbH0 (by decide)) (by assumption)) rfl (hh_b_r (by decide : 0 < 2)) (hh_E_r 0) (hh_gV hm_371 hm_372 hm_373 hm_128 hm_248) ⟨rfl, rfl⟩ (by decide +kernel) ⟨Nat.le_of_ble_eq_true rfl, Nat.le_of_ble_eq_true rfl⟩ ⟨Nat.zero_le _, Nat.zero_le _⟩ hl.1 rfl rfl (Nat.le_of_ble_eq_true rfl) dX7_call_37 (fun q_37 v_37 H locs hv_37 hp => ?_)
  obtain ⟨h9, hTv_37⟩ := hv_37
  have eq_37 : q_37 = (hf_X5_tryCall v 0 from_ to_).1 := congrArg Prod.fst h9
  have ev_37 : v_37 = (hf_X5_tryCall v 0 from_ to_).2 := congrArg Prod.snd h9
  clear h9
  exact hh_iret C0 hp dX7_call_40 ⟨(by show (_, _) = _; unfold hf_X7_call; rw [hh_let_eq eq_37, hh_let_eq ev_37]), hTv_37⟩
def hf_X7_text (v : hh_M) (from_ : Int32) (to_ : Int32) : Int32 × hh_M := (hh_let (hh_up v (hh_rI 0) 7 ((v (hh_rI 0) 7) + 1) : hh_M) (fun (v_59 : hh_M) => (hh_let (hh_up v_59 (hh_hI 0 to_.toNatClampNeg) 12 ((v_59 (hh_hI 0 to_.toNatClampNeg) 12) + 1) : hh_M) (fun (v_77 : hh_M) => ((v_77 (hh_hI 0 to_.toNatClampNeg) 12), v_77)))))
set_option maxHeartbeats 4000000 in
set_option maxRecDepth 100000 in
theorem hk_X7_text (l : Launch) (D : va_G) (K : Nat → ClassId) (ad : Nat → Nat) {nm : Nat} {nh nc : Nat → Nat} {v : hh_M} (hT : hh_T nm nh nc v) (from_ : Int32) (to_ : Int32) (hfrom_0 : 0 ≤ from_) (hfrom_1 : from_ < nI (nh 0)) (hto_0 : 0 ≤ to_) (hto_1 : to_ < nI (nh 0)) (hne : ¬ from_ = to_) (ht24 : v (hh_rI 0) 7 < 24) : hh_Ki l D K ad yX7_text (hh_wm yX7_text cX7_text 3 (some .int)) { frames := 1, cells := 0, slots := 0, locals := 21 } [.ref (ad 0), .int from_, .int to_] v (fun (q : Int32) (v1 : hh_M) => (q, v1) = hf_X7_text v from_ to_ ∧ hh_T nm nh nc v1) := by
  refine hh_Ki_of (by decide) (Nat.le_of_ble_eq_true rfl) ?_
  intro p e s m args below meth c ls A C0 hp hl
  obtain ⟨hx, hb, hr9, hml, hown, hts, hK, hlk, hA⟩ := id C0
  have hnm := hT.1
  have hnh := hT.2.1
  have hnc := hT.2.2.1
  have hbH0 := hnh 0
  have hbC0 := hnc 0
  have hbH1 := hnh 1
  have hbC1 := hnc 1
  have hl : lv_has ls 3 [(0, .ref (ad 0)), (1, .int from_), (2, .int to_)] := hl
  refine lv_iload_n hx hb dX7_text_0 rfl (lv_at hl 1 rfl) ?_
  refine lv_aload_n hx hb dX7_text_1 rfl (lv_at hl 0 rfl) ?_
  refine hh_get C0 hp (C := RX7) (T := TX7) (N := 4) (ci := 7) (by decide) hh_E_0 rfl hh_uX7 1 (by decide) hm_313 rfl rfl dX7_text_2 ?_
  refine hh_get C0 hp (C := RX5) (T := TX5) (N := 10) (ci := 5) (hh_b_r (by decide : 0 < 2)) (hh_E_r 0) rfl hh_uX5 5 (by decide) hm_341 rfl rfl dX7_text_5 ?_
  refine hh_cSv C0 hp (As := [.int from_, .int (v (hh_rI 0) 5)]) (rest := []) (n := 2) (hk_X7_demandNumber l D K ad hT from_ (v (hh_rI 0) 5) hfrom_0 (by rw [hh_T_r5 hT 0]; exact hfrom_1)) (hh_gS hm_349 hm_350 hm_335 hm_351) ⟨rfl, rfl⟩ (by decide +kernel) ⟨Nat.le_of_ble_eq_true rfl, Nat.le_of_ble_eq_true rfl⟩ ⟨Nat.zero_le _, Nat.zero_le _⟩ hl.1 rfl rfl (Nat.le_of_ble_eq_true rfl) dX7_text_8 (fun v_8 H locs hv_8 hp => ?_)
  rw [hv_8] at hp
  refine lv_iload_n hx hb dX7_text_11 rfl (lv_at hl 2 rfl) ?_
  refine lv_aload_n hx hb dX7_text_12 rfl (lv_at hl 0 rfl) ?_
  refine hh_get C0 hp (C := RX7) (T := TX7) (N := 4) (ci := 7) (by decide) hh_E_0 rfl hh_uX7 1 (by decide) hm_313 rfl rfl dX7_text_13 ?_
  refine hh_get C0 hp (C := RX5) (T := TX5) (N := 10) (ci := 5) (hh_b_r (by decide : 0 < 2)) (hh_E_r 0) rfl hh_uX5 5 (by decide) hm_341 rfl rfl dX7_text_16 ?_
  refine hh_cSv C0 hp (As := [.int to_, .int (v (hh_rI 0) 5)]) (rest := []) (n := 2) (hk_X7_demandNumber l D K ad hT to_ (v (hh_rI 0) 5) hto_0 (by rw [hh_T_r5 hT 0]; exact hto_1)) (hh_gS hm_349 hm_350 hm_335 hm_351) ⟨rfl, rfl⟩ (by decide +kernel) ⟨Nat.le_of_ble_eq_true rfl, Nat.le_of_ble_eq_true rfl⟩ ⟨Nat.zero_le _, Nat.zero_le _⟩ hl.1 rfl rfl (Nat.le_of_ble_eq_true rfl) dX7_text_19 (fun v_19 H locs hv_19 hp => ?_)
  rw [hv_19] at hp
  refine lv_iload_n hx hb dX7_text_22 rfl (lv_at hl 1 rfl) ?_
  refine lv_iload_n hx hb dX7_text_23 rfl (lv_at hl 2 rfl) ?_
  refine hh_cSv C0 hp (As := [.int from_, .int to_]) (rest := []) (n := 2) (hk_X7_demandOthers l D K ad hT from_ to_ hne) (hh_gS hm_363 hm_364 hm_335 hm_365) ⟨rfl, rfl⟩ (by decide +kernel) ⟨Nat.le_of_ble_eq_true rfl, Nat.le_of_ble_eq_true rfl⟩ ⟨Nat.zero_le _, Nat.zero_le _⟩ hl.1 rfl rfl (Nat.le_of_ble_eq_true rfl) dX7_text_24 (fun v_24 H locs hv_24 hp => ?_)
  rw [hv_24] at hp
  refine lv_aload_n hx hb dX7_text_27 rfl (lv_at hl 0 rfl) ?_
  refine hh_get C0 hp (C := RX7) (T := TX7) (N := 4) (ci := 7) (by decide) hh_E_0 rfl hh_uX7 1 (by decide) hm_313 rfl rfl dX7_text_28 ?_
  refine hh_get C0 hp (C := RX5) (T := TX5) (N := 10) (ci := 5) (hh_b_r (by decide : 0 < 2)) (hh_E_r 0) rfl hh_uX5 7 (by decide) hm_384 rfl rfl dX7_text_31 ?_
  refine lv_bipush (v := 24) hx hb dX7_text_34 (by decide) ?_
  refine lv_icmp_lt (tgt := 49) hx hb dX7_text_36 (by decide) (fun c_36 => ?_) (fun c_36 => ?_)
  · refine lv_aload_n hx hb dX7_text_49 rfl (lv_at hl 0 rfl) ?_
    refine hh_get C0 hp (C := RX7) (T := TX7) (N := 4) (ci := 7) (by decide) hh_E_0 rfl hh_uX7 1 (by decide) hm_313 rfl rfl dX7_text_50 ?_
    refine lv_dup hx hb dX7_text_53 rfl ?_
    refine hh_get C0 hp (C := RX5) (T := TX5) (N := 10) (ci := 5) (hh_b_r (by decide : 0 < 2)) (hh_E_r 0) rfl hh_uX5 7 (by decide) hm_384 rfl rfl dX7_text_54 ?_
    refine lv_iconst (v := 1) hx hb dX7_text_57 (by decide) ?_
    refine lv_iadd hx hb dX7_text_58 ?_
    refine hh_put C0 hp (C := RX5) (T := TX5) (N := 10) (ci := 5) (k := 7) (ty := .int) (hh_b_r (by decide : 0 < 2)) (hh_E_r 0) (hh_pr7 0) rfl hh_uX5 tyX5_ok nmX5 (by decide) hm_384 rfl rfl (by decide +kernel) rfl rfl (Nat.le_of_ble_eq_true rfl) dX7_text_59 (fun H locs hp => ?_)
    obtain ⟨v_59, ev_59⟩ : ∃ z : hh_M, z = hh_up v (hh_rI 0) 7 ((v (hh_rI 0) 7) + 1) := ⟨_, rfl⟩
    rw [← ev_59] at hp
    have hTv_59 : hh_T nm nh nc v_59 := by rw [ev_59]; exact hh_T_up hT (hh_Rt_r (by decide : 0 < 2) (by decide))
    refine lv_aload_n hx hb dX7_text_62 rfl (lv_at hl 0 rfl) ?_
    refine hh_get C0 hp (C := RX7) (T := TX7) (N := 4) (ci := 7) (by decide) hh_E_0 rfl hh_uX7 1 (by decide) hm_313 rfl rfl dX7_text_63 ?_
    refine hh_get C0 hp (C := RX5) (T := TX5) (N := 10) (ci := 5) (hh_b_r (by decide : 0 < 2)) (hh_E_r 0) rfl hh_uX5 3 (by decide) hm_342 rfl rfl dX7_text_66 ?_
    refine lv_iload_n hx hb dX7_text_69 rfl (lv_at hl 2 rfl) ?_
    have hin_70 : vp_in to_ 8 := hh_inZ hto_0 hto_1 hbH0 (by decide)
    refine hh_aal C0 hp (t0 := 3) (f := (hh_hI 0)) (hh_b_H (by decide : 0 < 2)) (hh_E_H 0) rfl rfl hin_70 rfl dX7_text_70 ?_
    refine lv_dup hx hb dX7_text_71 rfl ?_
    refine hh_get C0 hp (C := RX1) (T := TX1) (N := 13) (ci := 1) (hh_b_h (by decide : 0 < 2) (hh_lt hin_70)) (hh_E_h 0 (hh_lt hin_70)) rfl hh_uX1 12 (by decide) hm_385 rfl rfl dX7_text_72 ?_
    refine lv_iconst (v := 1) hx hb dX7_text_75 (by decide) ?_
    refine lv_iadd hx hb dX7_text_76 ?_
    refine hh_put C0 hp (C := RX1) (T := TX1) (N := 13) (ci := 1) (k := 12) (ty := .int) (hh_b_h (by decide : 0 < 2) (hh_lt hin_70)) (hh_E_h 0 (hh_lt hin_70)) (hh_ph12 0 (hh_lt hin_70)) rfl hh_uX1 tyX1_ok nmX1 (by decide) hm_385 rfl rfl (by decide +kernel) rfl rfl (Nat.le_of_ble_eq_true rfl) dX7_text_77 (fun H locs hp => ?_)
    obtain ⟨v_77, ev_77⟩ : ∃ z : hh_M, z = hh_up v_59 (hh_hI 0 to_.toNatClampNeg) 12 ((v_59 (hh_hI 0 to_.toNatClampNeg) 12) + 1) := ⟨_, rfl⟩
    rw [← ev_77] at hp
    have hTv_77 : hh_T nm nh nc v_77 := by rw [ev_77]; exact hh_T_up hTv_59 (hh_Rt_h (by decide : 0 < 2) (hh_lt hin_70) (by decide))
    refine lv_aload_n hx hb dX7_text_80 rfl (lv_at hl 0 rfl) ?_
    refine hh_get C0 hp (C := RX7) (T := TX7) (N := 4) (ci := 7) (by decide) hh_E_0 rfl hh_uX7 1 (by decide) hm_313 rfl rfl dX7_text_81 ?_
    refine hh_get C0 hp (C := RX5) (T := TX5) (N := 10) (ci := 5) (hh_b_r (by decide : 0 < 2)) (hh_E_r 0) rfl hh_uX5 3 (by decide) hm_342 rfl rfl dX7_text_84 ?_
    refine lv_iload_n hx hb dX7_text_87 rfl (lv_at hl 2 rfl) ?_
    have hin_88 : vp_in to_ 8 := hh_inZ hto_0 hto_1 hbH0 (by decide)
    refine hh_aal C0 hp (t0 := 3) (f := (hh_hI 0)) (hh_b_H (by decide : 0 < 2)) (hh_E_H 0) rfl rfl hin_88 rfl dX7_text_88 ?_
    refine hh_get C0 hp (C := RX1) (T := TX1) (N := 13) (ci := 1) (hh_b_h (by decide : 0 < 2) (hh_lt hin_88)) (hh_E_h 0 (hh_lt hin_88)) rfl hh_uX1 12 (by decide) hm_385 rfl rfl dX7_text_89 ?_
    exact hh_iret C0 hp dX7_text_92 ⟨(by show (_, _) = _; unfold hf_X7_text; rw [hh_let_eq ev_59, hh_let_eq ev_77]), hTv_77⟩
  · exact absurd ht24 c_36
def hl_X7_pass_18 (i : Nat) (w_18 : hh_M) : hh_M := (hh_let (hf_X5_second w_18 0 : hh_M) (fun (v_27 : hh_M) => v_27))
def hf_X7_pass (v : hh_M) (se : Int32) : Int32 × hh_M := (hh_let (hf_X5_callsThat v 0 0 : Int32) (fun (q_12 : Int32) => (hh_let (hh_fld (fun (i9 : Nat) (z : hh_M) => hl_X7_pass_18 i9 z) se.toNatClampNeg v : hh_M) (fun (w_18 : hh_M) => (hh_let (hf_X5_callsThat w_18 0 0 : Int32) (fun (q_42 : Int32) => ((q_12 - q_42), w_18)))))))
set_option maxHeartbeats 4000000 in
set_option maxRecDepth 100000 in
theorem hk_X7_pass (l : Launch) (D : va_G) (K : Nat → ClassId) (ad : Nat → Nat) {nm : Nat} {nh nc : Nat → Nat} {v : hh_M} (hT : hh_T nm nh nc v) (se : Int32) (hse0 : 1 ≤ se) (hse1 : se ≤ 99) : hh_Ki l D K ad yX7_pass (hh_wm yX7_pass cX7_pass 4 (some .int)) { frames := 4, cells := 0, slots := 0, locals := 95 } [.ref (ad 0), .int se] v (fun (q : Int32) (v1 : hh_M) => (q, v1) = hf_X7_pass v se ∧ hh_T nm nh nc v1) := by
  refine hh_Ki_of (by decide) (Nat.le_of_ble_eq_true rfl) ?_
  intro p e s m args below meth c ls A C0 hp hl
  obtain ⟨hx, hb, hr9, hml, hown, hts, hK, hlk, hA⟩ := id C0
  have hnm := hT.1
  have hnh := hT.2.1
  have hnc := hT.2.2.1
  have hbH0 := hnh 0
  have hbC0 := hnc 0
  have hbH1 := hnh 1
  have hbC1 := hnc 1
  have hl : lv_has ls 4 [(0, .ref (ad 0)), (1, .int se)] := hl
  have hS0 : 0 ≤ se := by first | assumption | exact Int32.le_trans (by decide) hse0
  have hS : se = nI se.toNatClampNeg := hh_nat hS0
  have hS9 : se.toNatClampNeg ≤ 99 := hh_nat_le hS0 (by assumption) (by decide)
  refine lv_iload_n hx hb dX7_pass_0 rfl (lv_at hl 1 rfl) ?_
  refine lv_iconst (v := 1) hx hb dX7_pass_1 (by decide) ?_
  refine lv_bipush (v := 99) hx hb dX7_pass_2 (by decide) ?_
  refine hh_cSv C0 hp (As := [.int se, .int 1, .int 99]) (rest := []) (n := 3) (hk_X7_demandWithin l D K ad hT se 1 99 hse0 hse1) (hh_gS hm_333 hm_334 hm_335 hm_336) ⟨rfl, rfl⟩ (by decide +kernel) ⟨Nat.le_of_ble_eq_true rfl, Nat.le_of_ble_eq_true rfl⟩ ⟨Nat.zero_le _, Nat.zero_le _⟩ hl.1 rfl rfl (Nat.le_of_ble_eq_true rfl) dX7_pass_4 (fun v_4 H locs hv_4 hp => ?_)
  rw [hv_4] at hp
  refine lv_aload_n hx hb dX7_pass_7 rfl (lv_at hl 0 rfl) ?_
  refine hh_get C0 hp (C := RX7) (T := TX7) (N := 4) (ci := 7) (by decide) hh_E_0 rfl hh_uX7 1 (by decide) hm_313 rfl rfl dX7_pass_8 ?_
  refine lv_iconst (v := 0) hx hb dX7_pass_11 (by decide) ?_
  refine hh_cVi C0 hp (As := [.int 0]) (rest := []) (C := RX5) (T := TX5) (N := 10) (ci := 5) (n := 1) (hk_X5_callsThat l D K ad hT 0 0 (by decide : 0 < 2)) rfl (hh_b_r (by decide : 0 < 2)) (hh_E_r 0) (hh_gV hm_391 hm_392 hm_393 hm_128 hm_267) ⟨rfl, rfl⟩ (by decide +kernel) ⟨Nat.le_of_ble_eq_true rfl, Nat.le_of_ble_eq_true rfl⟩ ⟨Nat.zero_le _, Nat.zero_le _⟩ hl.1 rfl rfl (Nat.le_of_ble_eq_true rfl) dX7_pass_12 (fun q_12 v_12 H locs hv_12 hp => ?_)
  obtain ⟨eq_12, hv9⟩ := hv_12
  rw [hv9] at hp; clear hv9
  refine lv_istore_n (lv' := [(2, .int q_12), (0, .ref (ad 0)), (1, .int se)]) hx hb dX7_pass_15 rfl hl (by decide) rfl (fun ls hl => ?_)
  refine lv_iconst (v := 0) hx hb dX7_pass_16 (by decide) ?_
  refine lv_istore_n (lv' := [(3, .int 0), (2, .int q_12), (0, .ref (ad 0)), (1, .int se)]) hx hb dX7_pass_17 rfl hl (by decide) rfl (fun ls hl => ?_)
  have hL_18 : ∀ (n i : Nat) (w_18 : hh_M) (H : Heap) (locs : List Loc) (ls : Array Slot), i ≤ se.toNatClampNeg → se.toNatClampNeg - i < n → w_18 = hh_fld (fun (i9 : Nat) (z : hh_M) => hl_X7_pass_18 i9 z) i v → hh_T nm nh nc w_18 → hh_H D K ad A s.heap w_18 H locs → lv_has ls 4 [(3, .int (nI i)), (2, .int q_12), (0, .ref (ad 0)), (1, .int se)] → W p l e ({ frames := 4, cells := 0, slots := 0, locals := 95 } : Room) s m args below meth c H locs 0 0 (MQ below (va_Qi (fun (q : Int32) (v1 : hh_M) => (q, v1) = hf_X7_pass v se ∧ hh_T nm nh nc v1) (hh_B D K ad A) A) args s 0 0 A) (F0 m 18 ls []) := by
    intro n
    induction n with
    | zero => intro i w_18 H locs ls h1 h2; omega
    | succ n ih =>
      intro i w_18 H locs ls hii hni hsL_18 hTw_18 hp hl
      refine lv_iload_n hx hb dX7_pass_18 rfl (lv_at hl 0 rfl) ?_
      refine lv_iload_n hx hb dX7_pass_19 rfl (lv_at hl 3 rfl) ?_
      refine lv_icmp_ge (tgt := 36) hx hb dX7_pass_20 (by decide) (fun c_20 => ?_) (fun c_20 => ?_)
      · have hbc_20 : se = nI se.toNatClampNeg := hS
        rw [hbc_20] at c_20
        have hc_20 := (nI_leI (a := se.toNatClampNeg) (b := i) (by omega) (by omega))
        have hltc_20 : se.toNatClampNeg ≤ i := by exact hc_20.mp c_20
        have hNL_18 : i = se.toNatClampNeg := by omega
        rw [hNL_18] at hsL_18
        have ew_18 : w_18 = hh_fld (fun (i9 : Nat) (z : hh_M) => hl_X7_pass_18 i9 z) se.toNatClampNeg v := hsL_18
        clear ih hsL_18
        refine lv_iload_n hx hb dX7_pass_36 rfl (lv_at hl 1 rfl) ?_
        refine lv_aload_n hx hb dX7_pass_37 rfl (lv_at hl 2 rfl) ?_
        refine hh_get C0 hp (C := RX7) (T := TX7) (N := 4) (ci := 7) (by decide) hh_E_0 rfl hh_uX7 1 (by decide) hm_313 rfl rfl dX7_pass_38 ?_
        refine lv_iconst (v := 0) hx hb dX7_pass_41 (by decide) ?_
        refine hh_cVi C0 hp (As := [.int 0]) (rest := [.int q_12]) (C := RX5) (T := TX5) (N := 10) (ci := 5) (n := 1) (hk_X5_callsThat l D K ad hTw_18 0 0 (by decide : 0 < 2)) rfl (hh_b_r (by decide : 0 < 2)) (hh_E_r 0) (hh_gV hm_391 hm_392 hm_393 hm_128 hm_267) ⟨rfl, rfl⟩ (by decide +kernel) ⟨Nat.le_of_ble_eq_true rfl, Nat.le_of_ble_eq_true rfl⟩ ⟨Nat.zero_le _, Nat.zero_le _⟩ hl.1 rfl rfl (Nat.le_of_ble_eq_true rfl) dX7_pass_42 (fun q_42 v_42 H locs hv_42 hp => ?_)
        obtain ⟨eq_42, hv9⟩ := hv_42
        rw [hv9] at hp; clear hv9
        refine lv_isub hx hb dX7_pass_45 ?_
        exact hh_iret C0 hp dX7_pass_46 ⟨(by show (_, _) = _; unfold hf_X7_pass; rw [hh_let_eq eq_12, hh_let_eq ew_18, hh_let_eq eq_42]), hTw_18⟩
      · have hbc_20 : se = nI se.toNatClampNeg := hS
        rw [hbc_20] at c_20
        have hc_20 := (nI_leI (a := se.toNatClampNeg) (b := i) (by omega) (by omega))
        have hltc_20 : i < se.toNatClampNeg := by exact Nat.not_le.mp (fun z => c_20 (hc_20.mpr z))
        refine lv_aload_n hx hb dX7_pass_23 rfl (lv_at hl 2 rfl) ?_
        refine hh_get C0 hp (C := RX7) (T := TX7) (N := 4) (ci := 7) (by decide) hh_E_0 rfl hh_uX7 1 (by decide) hm_313 rfl rfl dX7_pass_24 ?_
        refine hh_cVv C0 hp (As := []) (rest := []) (C := RX5) (T := TX5) (N := 10) (ci := 5) (n := 0) (hk_X5_second l D K ad hTw_18 0 (by decide : 0 < 2)) rfl (hh_b_r (by decide : 0 < 2)) (hh_E_r 0) (hh_gV hm_394 hm_395 hm_396 hm_128 hm_158) ⟨rfl, rfl⟩ (by decide +kernel) ⟨Nat.le_of_ble_eq_true rfl, Nat.le_of_ble_eq_true rfl⟩ ⟨Nat.zero_le _, Nat.zero_le _⟩ hl.1 rfl rfl (Nat.le_of_ble_eq_true rfl) dX7_pass_27 (fun v_27 H locs hv_27 hp => ?_)
        obtain ⟨ev_27, hTv_27⟩ := hv_27
        refine lv_iinc (v := (nI (i + 1))) (lv' := [(3, .int (nI (i + 1))), (2, .int q_12), (0, .ref (ad 0)), (1, .int se)]) hx hb dX7_pass_30 hl (k := 0) rfl (nI_1 i) (by decide) rfl (fun ls hl => ?_)
        refine lv_goto (tgt := 18) hx hb dX7_pass_33 (by decide) ?_
        exact ih (i + 1) v_27 _ _ _ (by omega) (by omega) (by rw [hh_fld, ← hsL_18]; show _ = hl_X7_pass_18 i w_18; unfold hl_X7_pass_18; rw [hh_let_eq ev_27]) hTv_27 hp (lv_sub hl [0, 1, 2, 3] rfl)
  exact hL_18 (se.toNatClampNeg + 1) 0 v _ _ _ (Nat.zero_le _) (by omega) rfl hT hp (lv_sub hl [0, 1, 2, 3] rfl)
def hf_X7_quality (v : hh_M) (ma : Int32) (pl : Int32) : Int32 := (hh_let (hf_X5_qualityAt v 0 ma pl : Int32) (fun (q_24 : Int32) => q_24))
set_option maxHeartbeats 4000000 in
set_option maxRecDepth 100000 in
theorem hk_X7_quality (l : Launch) (D : va_G) (K : Nat → ClassId) (ad : Nat → Nat) {nm : Nat} {nh nc : Nat → Nat} {v : hh_M} (hT : hh_T nm nh nc v) (ma : Int32) (pl : Int32) (hma0 : 0 ≤ ma) (hma1 : ma < nI nm) (hpl0 : 0 ≤ pl) (hpl1 : pl ≤ 99) : hh_Ki l D K ad yX7_quality (hh_wm yX7_quality cX7_quality 3 (some .int)) { frames := 1, cells := 0, slots := 0, locals := 22 } [.ref (ad 0), .int ma, .int pl] v (fun (q : Int32) (v1 : hh_M) => q = hf_X7_quality v ma pl ∧ v1 = v) := by
  refine hh_Ki_of (by decide) (Nat.le_of_ble_eq_true rfl) ?_
  intro p e s m args below meth c ls A C0 hp hl
  obtain ⟨hx, hb, hr9, hml, hown, hts, hK, hlk, hA⟩ := id C0
  have hnm := hT.1
  have hnh := hT.2.1
  have hnc := hT.2.2.1
  have hbH0 := hnh 0
  have hbC0 := hnc 0
  have hbH1 := hnh 1
  have hbC1 := hnc 1
  have hl : lv_has ls 3 [(0, .ref (ad 0)), (1, .int ma), (2, .int pl)] := hl
  refine lv_iload_n hx hb dX7_quality_0 rfl (lv_at hl 1 rfl) ?_
  refine lv_aload_n hx hb dX7_quality_1 rfl (lv_at hl 0 rfl) ?_
  refine hh_get C0 hp (C := RX7) (T := TX7) (N := 4) (ci := 7) (by decide) hh_E_0 rfl hh_uX7 0 (by decide) hm_310 rfl rfl dX7_quality_2 ?_
  refine hh_get C0 hp (C := RX4) (T := TX4) (N := 3) (ci := 4) (by decide) hh_E_1 rfl hh_uX4 2 (by decide) hm_324 rfl rfl dX7_quality_5 ?_
  refine hh_cSv C0 hp (As := [.int ma, .int (v 1 2)]) (rest := []) (n := 2) (hk_X7_demandNumber l D K ad hT ma (v 1 2) hma0 (by rw [hh_T_M hT]; exact hma1)) (hh_gS hm_349 hm_350 hm_335 hm_351) ⟨rfl, rfl⟩ (by decide +kernel) ⟨Nat.le_of_ble_eq_true rfl, Nat.le_of_ble_eq_true rfl⟩ ⟨Nat.zero_le _, Nat.zero_le _⟩ hl.1 rfl rfl (Nat.le_of_ble_eq_true rfl) dX7_quality_8 (fun v_8 H locs hv_8 hp => ?_)
  rw [hv_8] at hp
  refine lv_iload_n hx hb dX7_quality_11 rfl (lv_at hl 2 rfl) ?_
  refine lv_iconst (v := 0) hx hb dX7_quality_12 (by decide) ?_
  refine lv_bipush (v := 99) hx hb dX7_quality_13 (by decide) ?_
  refine hh_cSv C0 hp (As := [.int pl, .int 0, .int 99]) (rest := []) (n := 3) (hk_X7_demandWithin l D K ad hT pl 0 99 hpl0 hpl1) (hh_gS hm_333 hm_334 hm_335 hm_336) ⟨rfl, rfl⟩ (by decide +kernel) ⟨Nat.le_of_ble_eq_true rfl, Nat.le_of_ble_eq_true rfl⟩ ⟨Nat.zero_le _, Nat.zero_le _⟩ hl.1 rfl rfl (Nat.le_of_ble_eq_true rfl) dX7_quality_15 (fun v_15 H locs hv_15 hp => ?_)
  rw [hv_15] at hp
  refine lv_aload_n hx hb dX7_quality_18 rfl (lv_at hl 0 rfl) ?_
  refine hh_get C0 hp (C := RX7) (T := TX7) (N := 4) (ci := 7) (by decide) hh_E_0 rfl hh_uX7 1 (by decide) hm_313 rfl rfl dX7_quality_19 ?_
  refine lv_iload_n hx hb dX7_quality_22 rfl (lv_at hl 1 rfl) ?_
  refine lv_iload_n hx hb dX7_quality_23 rfl (lv_at hl 2 rfl) ?_
  refine hh_cVi C0 hp (As := [.int ma, .int pl]) (rest := []) (C := RX5) (T := TX5) (N := 10) (ci := 5) (n := 2) (hk_X5_qualityAt l D K ad hT 0 ma pl (by decide : 0 < 2) (hh_inZ hma0 hma1 (by omega) (by decide)) (hh_in99 ⟨hpl0, hpl1⟩)) rfl (hh_b_r (by decide : 0 < 2)) (hh_E_r 0) (hh_gV hm_398 hm_126 hm_127 hm_128 hm_122) ⟨rfl, rfl⟩ (by decide +kernel) ⟨Nat.le_of_ble_eq_true rfl, Nat.le_of_ble_eq_true rfl⟩ ⟨Nat.zero_le _, Nat.zero_le _⟩ hl.1 rfl rfl (Nat.le_of_ble_eq_true rfl) dX7_quality_24 (fun q_24 v_24 H locs hv_24 hp => ?_)
  obtain ⟨eq_24, hv9⟩ := hv_24
  rw [hv9] at hp; clear hv9
  exact hh_iret C0 hp dX7_quality_27 ⟨(by unfold hf_X7_quality; rw [hh_let_eq eq_24]), rfl⟩
def hf_X7_best (v : hh_M) (pl : Int32) : Int32 := (hh_let (hf_X5_bestHeardAt v 0 pl : Int32) (fun (q_12 : Int32) => q_12))
set_option maxHeartbeats 4000000 in
set_option maxRecDepth 100000 in
theorem hk_X7_best (l : Launch) (D : va_G) (K : Nat → ClassId) (ad : Nat → Nat) {nm : Nat} {nh nc : Nat → Nat} {v : hh_M} (hT : hh_T nm nh nc v) (pl : Int32) (hpl0 : 0 ≤ pl) (hpl1 : pl ≤ 99) : hh_Ki l D K ad yX7_best (hh_wm yX7_best cX7_best 2 (some .int)) { frames := 2, cells := 0, slots := 0, locals := 47 } [.ref (ad 0), .int pl] v (fun (q : Int32) (v1 : hh_M) => q = hf_X7_best v pl ∧ v1 = v ∧ (-1 ≤ q ∧ q < nI nm)) := by
  refine hh_Ki_of (by decide) (Nat.le_of_ble_eq_true rfl) ?_
  intro p e s m args below meth c ls A C0 hp hl
  obtain ⟨hx, hb, hr9, hml, hown, hts, hK, hlk, hA⟩ := id C0
  have hnm := hT.1
  have hnh := hT.2.1
  have hnc := hT.2.2.1
  have hbH0 := hnh 0
  have hbC0 := hnc 0
  have hbH1 := hnh 1
  have hbC1 := hnc 1
  have hl : lv_has ls 2 [(0, .ref (ad 0)), (1, .int pl)] := hl
  refine lv_iload_n hx hb dX7_best_0 rfl (lv_at hl 1 rfl) ?_
  refine lv_iconst (v := 0) hx hb dX7_best_1 (by decide) ?_
  refine lv_bipush (v := 99) hx hb dX7_best_2 (by decide) ?_
  refine hh_cSv C0 hp (As := [.int pl, .int 0, .int 99]) (rest := []) (n := 3) (hk_X7_demandWithin l D K ad hT pl 0 99 hpl0 hpl1) (hh_gS hm_333 hm_334 hm_335 hm_336) ⟨rfl, rfl⟩ (by decide +kernel) ⟨Nat.le_of_ble_eq_true rfl, Nat.le_of_ble_eq_true rfl⟩ ⟨Nat.zero_le _, Nat.zero_le _⟩ hl.1 rfl rfl (Nat.le_of_ble_eq_true rfl) dX7_best_4 (fun v_4 H locs hv_4 hp => ?_)
  rw [hv_4] at hp
  refine lv_aload_n hx hb dX7_best_7 rfl (lv_at hl 0 rfl) ?_
  refine hh_get C0 hp (C := RX7) (T := TX7) (N := 4) (ci := 7) (by decide) hh_E_0 rfl hh_uX7 1 (by decide) hm_313 rfl rfl dX7_best_8 ?_
  refine lv_iload_n hx hb dX7_best_11 rfl (lv_at hl 1 rfl) ?_
  refine hh_cVi C0 hp (As := [.int pl]) (rest := []) (C := RX5) (T := TX5) (N := 10) (ci := 5) (n := 1) (hk_X5_bestHeardAt l D K ad hT 0 pl (by decide : 0 < 2) (hh_in99 ⟨hpl0, hpl1⟩)) rfl (hh_b_r (by decide : 0 < 2)) (hh_E_r 0) (hh_gV hm_400 hm_133 hm_134 hm_128 hm_129) ⟨rfl, rfl⟩ (by decide +kernel) ⟨Nat.le_of_ble_eq_true rfl, Nat.le_of_ble_eq_true rfl⟩ ⟨Nat.zero_le _, Nat.zero_le _⟩ hl.1 rfl rfl (Nat.le_of_ble_eq_true rfl) dX7_best_12 (fun q_12 v_12 H locs hv_12 hp => ?_)
  obtain ⟨eq_12, hv9, hpq_12a⟩ := hv_12
  rw [hv9] at hp; clear hv9
  exact hh_iret C0 hp dX7_best_15 ⟨(by unfold hf_X7_best; rw [hh_let_eq eq_12]), rfl, (by assumption)⟩
def hf_X7_ofMast (v : hh_M) (ma : Int32) (wh : Int32) : Int32 := (if wh = 7 then (v (hh_lI 0) ma.toNatClampNeg) else (if wh = 8 then (hh_let (hf_X5_campersOn v 0 ma : Int32) (fun (q_59 : Int32) => q_59)) else (if wh = 9 then (v (hh_kI 0) ma.toNatClampNeg) else (hh_let (hf_X3_fact v ma.toNatClampNeg wh : Int32) (fun (q_83 : Int32) => q_83)))))
set_option maxHeartbeats 4000000 in
set_option maxRecDepth 100000 in
theorem hk_X7_ofMast (l : Launch) (D : va_G) (K : Nat → ClassId) (ad : Nat → Nat) {nm : Nat} {nh nc : Nat → Nat} {v : hh_M} (hT : hh_T nm nh nc v) (ma : Int32) (wh : Int32) (hma0 : 0 ≤ ma) (hma1 : ma < nI nm) (hwh0 : 0 ≤ wh) (hwh1 : wh ≤ 9) : hh_Ki l D K ad yX7_ofMast (hh_wm yX7_ofMast cX7_ofMast 3 (some .int)) { frames := 2, cells := 0, slots := 0, locals := 43 } [.ref (ad 0), .int ma, .int wh] v (fun (q : Int32) (v1 : hh_M) => q = hf_X7_ofMast v ma wh ∧ v1 = v) := by
  refine hh_Ki_of (by decide) (Nat.le_of_ble_eq_true rfl) ?_
  intro p e s m args below meth c ls A C0 hp hl
  obtain ⟨hx, hb, hr9, hml, hown, hts, hK, hlk, hA⟩ := id C0
  have hnm := hT.1
  have hnh := hT.2.1
  have hnc := hT.2.2.1
  have hbH0 := hnh 0
  have hbC0 := hnc 0
  have hbH1 := hnh 1
  have hbC1 := hnc 1
  have hl : lv_has ls 3 [(0, .ref (ad 0)), (1, .int ma), (2, .int wh)] := hl
  refine lv_iload_n hx hb dX7_ofMast_0 rfl (lv_at hl 1 rfl) ?_
  refine lv_aload_n hx hb dX7_ofMast_1 rfl (lv_at hl 0 rfl) ?_
  refine hh_get C0 hp (C := RX7) (T := TX7) (N := 4) (ci := 7) (by decide) hh_E_0 rfl hh_uX7 0 (by decide) hm_310 rfl rfl dX7_ofMast_2 ?_
  refine hh_get C0 hp (C := RX4) (T := TX4) (N := 3) (ci := 4) (by decide) hh_E_1 rfl hh_uX4 2 (by decide) hm_324 rfl rfl dX7_ofMast_5 ?_
  refine hh_cSv C0 hp (As := [.int ma, .int (v 1 2)]) (rest := []) (n := 2) (hk_X7_demandNumber l D K ad hT ma (v 1 2) hma0 (by rw [hh_T_M hT]; exact hma1)) (hh_gS hm_349 hm_350 hm_335 hm_351) ⟨rfl, rfl⟩ (by decide +kernel) ⟨Nat.le_of_ble_eq_true rfl, Nat.le_of_ble_eq_true rfl⟩ ⟨Nat.zero_le _, Nat.zero_le _⟩ hl.1 rfl rfl (Nat.le_of_ble_eq_true rfl) dX7_ofMast_8 (fun v_8 H locs hv_8 hp => ?_)
  rw [hv_8] at hp
  refine lv_iload_n hx hb dX7_ofMast_11 rfl (lv_at hl 2 rfl) ?_
  refine lv_iconst (v := 0) hx hb dX7_ofMast_12 (by decide) ?_
  refine lv_bipush (v := 9) hx hb dX7_ofMast_13 (by decide) ?_
  refine hh_cSv C0 hp (As := [.int wh, .int 0, .int 9]) (rest := []) (n := 3) (hk_X7_demandWithin l D K ad hT wh 0 9 hwh0 hwh1) (hh_gS hm_333 hm_334 hm_335 hm_336) ⟨rfl, rfl⟩ (by decide +kernel) ⟨Nat.le_of_ble_eq_true rfl, Nat.le_of_ble_eq_true rfl⟩ ⟨Nat.zero_le _, Nat.zero_le _⟩ hl.1 rfl rfl (Nat.le_of_ble_eq_true rfl) dX7_ofMast_15 (fun v_15 H locs hv_15 hp => ?_)
  rw [hv_15] at hp
  refine lv_iload_n hx hb dX7_ofMast_18 rfl (lv_at hl 2 rfl) ?_
  by_cases c_19_7 : wh = 7
  · refine lv_tableIn (off := 25) (tgt := 44) hx hb dX7_ofMast_19 (by rw [c_19_7]; decide) (by rw [c_19_7]; decide) (by rw [c_19_7]; rfl) (by decide) ?_
    refine lv_aload_n hx hb dX7_ofMast_44 rfl (lv_at hl 0 rfl) ?_
    refine hh_get C0 hp (C := RX7) (T := TX7) (N := 4) (ci := 7) (by decide) hh_E_0 rfl hh_uX7 1 (by decide) hm_313 rfl rfl dX7_ofMast_45 ?_
    refine hh_get C0 hp (C := RX5) (T := TX5) (N := 10) (ci := 5) (hh_b_r (by decide : 0 < 2)) (hh_E_r 0) rfl hh_uX5 1 (by decide) hm_358 rfl rfl dX7_ofMast_48 ?_
    refine lv_iload_n hx hb dX7_ofMast_51 rfl (lv_at hl 1 rfl) ?_
    have hin_52 : vp_in ma 6 := hh_inZ hma0 hma1 (by omega) (by decide)
    refine hh_ial C0 hp (hh_b_l (by decide : 0 < 2)) (hh_E_l 0) hin_52 rfl dX7_ofMast_52 ?_
    exact hh_iret C0 hp dX7_ofMast_53 ⟨(by unfold hf_X7_ofMast; rw [if_pos c_19_7]), rfl⟩
  by_cases c_19_8 : wh = 8
  · refine lv_tableIn (off := 35) (tgt := 54) hx hb dX7_ofMast_19 (by rw [c_19_8]; decide) (by rw [c_19_8]; decide) (by rw [c_19_8]; rfl) (by decide) ?_
    refine lv_aload_n hx hb dX7_ofMast_54 rfl (lv_at hl 0 rfl) ?_
    refine hh_get C0 hp (C := RX7) (T := TX7) (N := 4) (ci := 7) (by decide) hh_E_0 rfl hh_uX7 1 (by decide) hm_313 rfl rfl dX7_ofMast_55 ?_
    refine lv_iload_n hx hb dX7_ofMast_58 rfl (lv_at hl 1 rfl) ?_
    refine hh_cVi C0 hp (As := [.int ma]) (rest := []) (C := RX5) (T := TX5) (N := 10) (ci := 5) (n := 1) (hk_X5_campersOn l D K ad hT 0 ma (by decide : 0 < 2)) rfl (hh_b_r (by decide : 0 < 2)) (hh_E_r 0) (hh_gV hm_403 hm_404 hm_405 hm_128 hm_266) ⟨rfl, rfl⟩ (by decide +kernel) ⟨Nat.le_of_ble_eq_true rfl, Nat.le_of_ble_eq_true rfl⟩ ⟨Nat.zero_le _, Nat.zero_le _⟩ hl.1 rfl rfl (Nat.le_of_ble_eq_true rfl) dX7_ofMast_59 (fun q_59 v_59 H locs hv_59 hp => ?_)
    obtain ⟨eq_59, hv9⟩ := hv_59
    rw [hv9] at hp; clear hv9
    exact hh_iret C0 hp dX7_ofMast_62 ⟨(by unfold hf_X7_ofMast; rw [if_neg c_19_7, if_pos c_19_8, hh_let_eq eq_59]), rfl⟩
  by_cases c_19_9 : wh = 9
  · refine lv_tableIn (off := 44) (tgt := 63) hx hb dX7_ofMast_19 (by rw [c_19_9]; decide) (by rw [c_19_9]; decide) (by rw [c_19_9]; rfl) (by decide) ?_
    refine lv_aload_n hx hb dX7_ofMast_63 rfl (lv_at hl 0 rfl) ?_
    refine hh_get C0 hp (C := RX7) (T := TX7) (N := 4) (ci := 7) (by decide) hh_E_0 rfl hh_uX7 1 (by decide) hm_313 rfl rfl dX7_ofMast_64 ?_
    refine hh_get C0 hp (C := RX5) (T := TX5) (N := 10) (ci := 5) (hh_b_r (by decide : 0 < 2)) (hh_E_r 0) rfl hh_uX5 2 (by decide) hm_402 rfl rfl dX7_ofMast_67 ?_
    refine lv_iload_n hx hb dX7_ofMast_70 rfl (lv_at hl 1 rfl) ?_
    have hin_71 : vp_in ma 6 := hh_inZ hma0 hma1 (by omega) (by decide)
    refine hh_ial C0 hp (hh_b_k (by decide : 0 < 2)) (hh_E_k 0) hin_71 rfl dX7_ofMast_71 ?_
    exact hh_iret C0 hp dX7_ofMast_72 ⟨(by unfold hf_X7_ofMast; rw [if_neg c_19_7, if_neg c_19_8, if_pos c_19_9]), rfl⟩
  refine lv_tableOut (tgt := 73) hx hb dX7_ofMast_19 (hh_sw2 c_19_7 c_19_8 c_19_9) (by decide) ?_
  refine lv_aload_n hx hb dX7_ofMast_73 rfl (lv_at hl 0 rfl) ?_
  refine hh_get C0 hp (C := RX7) (T := TX7) (N := 4) (ci := 7) (by decide) hh_E_0 rfl hh_uX7 0 (by decide) hm_310 rfl rfl dX7_ofMast_74 ?_
  refine hh_get C0 hp (C := RX4) (T := TX4) (N := 3) (ci := 4) (by decide) hh_E_1 rfl hh_uX4 0 (by decide) hm_325 rfl rfl dX7_ofMast_77 ?_
  refine lv_iload_n hx hb dX7_ofMast_80 rfl (lv_at hl 1 rfl) ?_
  have hin_81 : vp_in ma 6 := hh_inZ hma0 hma1 (by omega) (by decide)
  refine hh_aal C0 hp (t0 := 2) (f := hh_mI) (by decide) hh_E_2 rfl rfl hin_81 rfl dX7_ofMast_81 ?_
  refine lv_iload_n hx hb dX7_ofMast_82 rfl (lv_at hl 2 rfl) ?_
  refine hh_cVi C0 hp (As := [.int wh]) (rest := []) (C := RX3) (T := TX3) (N := 7) (ci := 3) (n := 1) (hk_X3_fact l D K ad hT ma.toNatClampNeg wh (hh_lt hin_81)) rfl (hh_b_m (hh_lt hin_81)) (hh_E_m (hh_lt hin_81)) (hh_gV hm_406 hm_407 hm_408 hm_63 hm_64) ⟨rfl, rfl⟩ (by decide +kernel) ⟨Nat.le_of_ble_eq_true rfl, Nat.le_of_ble_eq_true rfl⟩ ⟨Nat.zero_le _, Nat.zero_le _⟩ hl.1 rfl rfl (Nat.le_of_ble_eq_true rfl) dX7_ofMast_83 (fun q_83 v_83 H locs hv_83 hp => ?_)
  obtain ⟨eq_83, hv9⟩ := hv_83
  rw [hv9] at hp; clear hv9
  exact hh_iret C0 hp dX7_ofMast_86 ⟨(by unfold hf_X7_ofMast; rw [if_neg c_19_7, if_neg c_19_8, if_neg c_19_9, hh_let_eq eq_83]), rfl⟩
def hf_X7_ofHandset (v : hh_M) (ha : Int32) (wh : Int32) : Int32 := (hh_let (hf_X1_fact v 0 ha.toNatClampNeg wh : Int32) (fun (q_28 : Int32) => q_28))
set_option maxHeartbeats 4000000 in
set_option maxRecDepth 100000 in
theorem hk_X7_ofHandset (l : Launch) (D : va_G) (K : Nat → ClassId) (ad : Nat → Nat) {nm : Nat} {nh nc : Nat → Nat} {v : hh_M} (hT : hh_T nm nh nc v) (ha : Int32) (wh : Int32) (hha0 : 0 ≤ ha) (hha1 : ha < nI (nh 0)) (hwh0 : 0 ≤ wh) (hwh1 : wh ≤ 10) : hh_Ki l D K ad yX7_ofHandset (hh_wm yX7_ofHandset cX7_ofHandset 3 (some .int)) { frames := 1, cells := 0, slots := 0, locals := 22 } [.ref (ad 0), .int ha, .int wh] v (fun (q : Int32) (v1 : hh_M) => q = hf_X7_ofHandset v ha wh ∧ v1 = v) := by
  refine hh_Ki_of (by decide) (Nat.le_of_ble_eq_true rfl) ?_
  intro p e s m args below meth c ls A C0 hp hl
  obtain ⟨hx, hb, hr9, hml, hown, hts, hK, hlk, hA⟩ := id C0
  have hnm := hT.1
  have hnh := hT.2.1
  have hnc := hT.2.2.1
  have hbH0 := hnh 0
  have hbC0 := hnc 0
  have hbH1 := hnh 1
  have hbC1 := hnc 1
  have hl : lv_has ls 3 [(0, .ref (ad 0)), (1, .int ha), (2, .int wh)] := hl
  refine lv_iload_n hx hb dX7_ofHandset_0 rfl (lv_at hl 1 rfl) ?_
  refine lv_aload_n hx hb dX7_ofHandset_1 rfl (lv_at hl 0 rfl) ?_
  refine hh_get C0 hp (C := RX7) (T := TX7) (N := 4) (ci := 7) (by decide) hh_E_0 rfl hh_uX7 1 (by decide) hm_313 rfl rfl dX7_ofHandset_2 ?_
  refine hh_get C0 hp (C := RX5) (T := TX5) (N := 10) (ci := 5) (hh_b_r (by decide : 0 < 2)) (hh_E_r 0) rfl hh_uX5 5 (by decide) hm_341 rfl rfl dX7_ofHandset_5 ?_
  refine hh_cSv C0 hp (As := [.int ha, .int (v (hh_rI 0) 5)]) (rest := []) (n := 2) (hk_X7_demandNumber l D K ad hT ha (v (hh_rI 0) 5) hha0 (by rw [hh_T_r5 hT 0]; exact hha1)) (hh_gS hm_349 hm_350 hm_335 hm_351) ⟨rfl, rfl⟩ (by decide +kernel) ⟨Nat.le_of_ble_eq_true rfl, Nat.le_of_ble_eq_true rfl⟩ ⟨Nat.zero_le _, Nat.zero_le _⟩ hl.1 rfl rfl (Nat.le_of_ble_eq_true rfl) dX7_ofHandset_8 (fun v_8 H locs hv_8 hp => ?_)
  rw [hv_8] at hp
  refine lv_iload_n hx hb dX7_ofHandset_11 rfl (lv_at hl 2 rfl) ?_
  refine lv_iconst (v := 0) hx hb dX7_ofHandset_12 (by decide) ?_
  refine lv_bipush (v := 10) hx hb dX7_ofHandset_13 (by decide) ?_
  refine hh_cSv C0 hp (As := [.int wh, .int 0, .int 10]) (rest := []) (n := 3) (hk_X7_demandWithin l D K ad hT wh 0 10 hwh0 hwh1) (hh_gS hm_333 hm_334 hm_335 hm_336) ⟨rfl, rfl⟩ (by decide +kernel) ⟨Nat.le_of_ble_eq_true rfl, Nat.le_of_ble_eq_true rfl⟩ ⟨Nat.zero_le _, Nat.zero_le _⟩ hl.1 rfl rfl (Nat.le_of_ble_eq_true rfl) dX7_ofHandset_15 (fun v_15 H locs hv_15 hp => ?_)
  rw [hv_15] at hp
  refine lv_aload_n hx hb dX7_ofHandset_18 rfl (lv_at hl 0 rfl) ?_
  refine hh_get C0 hp (C := RX7) (T := TX7) (N := 4) (ci := 7) (by decide) hh_E_0 rfl hh_uX7 1 (by decide) hm_313 rfl rfl dX7_ofHandset_19 ?_
  refine hh_get C0 hp (C := RX5) (T := TX5) (N := 10) (ci := 5) (hh_b_r (by decide : 0 < 2)) (hh_E_r 0) rfl hh_uX5 3 (by decide) hm_342 rfl rfl dX7_ofHandset_22 ?_
  refine lv_iload_n hx hb dX7_ofHandset_25 rfl (lv_at hl 1 rfl) ?_
  have hin_26 : vp_in ha 8 := hh_inZ hha0 hha1 hbH0 (by decide)
  refine hh_aal C0 hp (t0 := 3) (f := (hh_hI 0)) (hh_b_H (by decide : 0 < 2)) (hh_E_H 0) rfl rfl hin_26 rfl dX7_ofHandset_26 ?_
  refine lv_iload_n hx hb dX7_ofHandset_27 rfl (lv_at hl 2 rfl) ?_
  refine hh_cVi C0 hp (As := [.int wh]) (rest := []) (C := RX1) (T := TX1) (N := 13) (ci := 1) (n := 1) (hk_X1_fact l D K ad hT 0 ha.toNatClampNeg wh (by decide : 0 < 2) (hh_lt hin_26)) rfl (hh_b_h (by decide : 0 < 2) (hh_lt hin_26)) (hh_E_h 0 (hh_lt hin_26)) (hh_gV hm_410 hm_274 hm_275 hm_103 hm_51) ⟨rfl, rfl⟩ (by decide +kernel) ⟨Nat.le_of_ble_eq_true rfl, Nat.le_of_ble_eq_true rfl⟩ ⟨Nat.zero_le _, Nat.zero_le _⟩ hl.1 rfl rfl (Nat.le_of_ble_eq_true rfl) dX7_ofHandset_28 (fun q_28 v_28 H locs hv_28 hp => ?_)
  obtain ⟨eq_28, hv9⟩ := hv_28
  rw [hv9] at hp; clear hv9
  exact hh_iret C0 hp dX7_ofHandset_31 ⟨(by unfold hf_X7_ofHandset; rw [hh_let_eq eq_28]), rfl⟩
def hf_X7_ofCall (v : hh_M) (ca : Int32) (wh : Int32) : Int32 := (hh_let (hf_X0_fact v 0 ca.toNatClampNeg wh : Int32) (fun (q_28 : Int32) => q_28))
set_option maxHeartbeats 4000000 in
set_option maxRecDepth 100000 in
theorem hk_X7_ofCall (l : Launch) (D : va_G) (K : Nat → ClassId) (ad : Nat → Nat) {nm : Nat} {nh nc : Nat → Nat} {v : hh_M} (hT : hh_T nm nh nc v) (ca : Int32) (wh : Int32) (hca0 : 0 ≤ ca) (hca1 : ca < nI (nc 0)) (hwh0 : 0 ≤ wh) (hwh1 : wh ≤ 8) : hh_Ki l D K ad yX7_ofCall (hh_wm yX7_ofCall cX7_ofCall 3 (some .int)) { frames := 1, cells := 0, slots := 0, locals := 22 } [.ref (ad 0), .int ca, .int wh] v (fun (q : Int32) (v1 : hh_M) => q = hf_X7_ofCall v ca wh ∧ v1 = v) := by
  refine hh_Ki_of (by decide) (Nat.le_of_ble_eq_true rfl) ?_
  intro p e s m args below meth c ls A C0 hp hl
  obtain ⟨hx, hb, hr9, hml, hown, hts, hK, hlk, hA⟩ := id C0
  have hnm := hT.1
  have hnh := hT.2.1
  have hnc := hT.2.2.1
  have hbH0 := hnh 0
  have hbC0 := hnc 0
  have hbH1 := hnh 1
  have hbC1 := hnc 1
  have hl : lv_has ls 3 [(0, .ref (ad 0)), (1, .int ca), (2, .int wh)] := hl
  refine lv_iload_n hx hb dX7_ofCall_0 rfl (lv_at hl 1 rfl) ?_
  refine lv_aload_n hx hb dX7_ofCall_1 rfl (lv_at hl 0 rfl) ?_
  refine hh_get C0 hp (C := RX7) (T := TX7) (N := 4) (ci := 7) (by decide) hh_E_0 rfl hh_uX7 1 (by decide) hm_313 rfl rfl dX7_ofCall_2 ?_
  refine hh_get C0 hp (C := RX5) (T := TX5) (N := 10) (ci := 5) (hh_b_r (by decide : 0 < 2)) (hh_E_r 0) rfl hh_uX5 6 (by decide) hm_370 rfl rfl dX7_ofCall_5 ?_
  refine hh_cSv C0 hp (As := [.int ca, .int (v (hh_rI 0) 6)]) (rest := []) (n := 2) (hk_X7_demandNumber l D K ad hT ca (v (hh_rI 0) 6) hca0 (by rw [hh_T_r6 hT 0]; exact hca1)) (hh_gS hm_349 hm_350 hm_335 hm_351) ⟨rfl, rfl⟩ (by decide +kernel) ⟨Nat.le_of_ble_eq_true rfl, Nat.le_of_ble_eq_true rfl⟩ ⟨Nat.zero_le _, Nat.zero_le _⟩ hl.1 rfl rfl (Nat.le_of_ble_eq_true rfl) dX7_ofCall_8 (fun v_8 H locs hv_8 hp => ?_)
  rw [hv_8] at hp
  refine lv_iload_n hx hb dX7_ofCall_11 rfl (lv_at hl 2 rfl) ?_
  refine lv_iconst (v := 0) hx hb dX7_ofCall_12 (by decide) ?_
  refine lv_bipush (v := 8) hx hb dX7_ofCall_13 (by decide) ?_
  refine hh_cSv C0 hp (As := [.int wh, .int 0, .int 8]) (rest := []) (n := 3) (hk_X7_demandWithin l D K ad hT wh 0 8 hwh0 hwh1) (hh_gS hm_333 hm_334 hm_335 hm_336) ⟨rfl, rfl⟩ (by decide +kernel) ⟨Nat.le_of_ble_eq_true rfl, Nat.le_of_ble_eq_true rfl⟩ ⟨Nat.zero_le _, Nat.zero_le _⟩ hl.1 rfl rfl (Nat.le_of_ble_eq_true rfl) dX7_ofCall_15 (fun v_15 H locs hv_15 hp => ?_)
  rw [hv_15] at hp
  refine lv_aload_n hx hb dX7_ofCall_18 rfl (lv_at hl 0 rfl) ?_
  refine hh_get C0 hp (C := RX7) (T := TX7) (N := 4) (ci := 7) (by decide) hh_E_0 rfl hh_uX7 1 (by decide) hm_313 rfl rfl dX7_ofCall_19 ?_
  refine hh_get C0 hp (C := RX5) (T := TX5) (N := 10) (ci := 5) (hh_b_r (by decide : 0 < 2)) (hh_E_r 0) rfl hh_uX5 4 (by decide) hm_379 rfl rfl dX7_ofCall_22 ?_
  refine lv_iload_n hx hb dX7_ofCall_25 rfl (lv_at hl 1 rfl) ?_
  have hin_26 : vp_in ca 24 := hh_inZ hca0 hca1 hbC0 (by decide)
  refine hh_aal C0 hp (t0 := 4) (f := (hh_cI 0)) (hh_b_C (by decide : 0 < 2)) (hh_E_C 0) rfl rfl hin_26 rfl dX7_ofCall_26 ?_
  refine lv_iload_n hx hb dX7_ofCall_27 rfl (lv_at hl 2 rfl) ?_
  refine hh_cVi C0 hp (As := [.int wh]) (rest := []) (C := RX0) (T := TX0) (N := 7) (ci := 0) (n := 1) (hk_X0_fact l D K ad hT 0 ca.toNatClampNeg wh (by decide : 0 < 2) (hh_lt hin_26)) rfl (hh_b_c (by decide : 0 < 2) (hh_lt hin_26)) (hh_E_c 0 (hh_lt hin_26)) (hh_gV hm_412 hm_270 hm_271 hm_107 hm_30) ⟨rfl, rfl⟩ (by decide +kernel) ⟨Nat.le_of_ble_eq_true rfl, Nat.le_of_ble_eq_true rfl⟩ ⟨Nat.zero_le _, Nat.zero_le _⟩ hl.1 rfl rfl (Nat.le_of_ble_eq_true rfl) dX7_ofCall_28 (fun q_28 v_28 H locs hv_28 hp => ?_)
  obtain ⟨eq_28, hv9⟩ := hv_28
  rw [hv9] at hp; clear hv9
  exact hh_iret C0 hp dX7_ofCall_31 ⟨(by unfold hf_X7_ofCall; rw [hh_let_eq eq_28]), rfl⟩
def hf_X7_many (v : hh_M) (wh : Int32) : Int32 := (if wh = 0 then (v (hh_rI 0) 8) else (if wh = 1 then (v 1 2) else (if wh = 2 then (v (hh_rI 0) 5) else (if wh = 3 then (v (hh_rI 0) 6) else (if wh = 4 then (hh_let (hf_X5_callsThat v 0 0 : Int32) (fun (q_117 : Int32) => q_117)) else (if wh = 5 then (hh_let (hf_X5_callsThat v 0 2 : Int32) (fun (q_126 : Int32) => q_126)) else (if wh = 6 then (hh_let (hf_X5_sumOfCalls v 0 4 : Int32) (fun (q_135 : Int32) => q_135)) else (if wh = 7 then (hh_let (hf_X5_sumOfCalls v 0 5 : Int32) (fun (q_144 : Int32) => q_144)) else (if wh = 8 then (v (hh_rI 0) 9) else (if wh = 9 then (v (hh_rI 0) 7) else (if wh = 10 then (hh_let (hf_X5_sumOfHandsets v 0 10 : Int32) (fun (q_170 : Int32) => q_170)) else (if wh = 11 then (hh_let (hf_X5_sumOfHandsets v 0 8 : Int32) (fun (q_180 : Int32) => q_180)) else (if wh = 12 then (hh_let (hf_X5_sumOfCalls v 0 3 : Int32) (fun (q_189 : Int32) => q_189)) else (if wh = 13 then (hh_let (hf_X5_handsetsToBeFound v 0 : Int32) (fun (q_197 : Int32) => q_197)) else (hh_let (hf_X5_placesHeardWell v 0 : Int32) (fun (q_205 : Int32) => q_205))))))))))))))))
set_option maxHeartbeats 4000000 in
set_option maxRecDepth 100000 in
theorem hk_X7_many (l : Launch) (D : va_G) (K : Nat → ClassId) (ad : Nat → Nat) {nm : Nat} {nh nc : Nat → Nat} {v : hh_M} (hT : hh_T nm nh nc v) (wh : Int32) (hwh0 : 0 ≤ wh) (hwh1 : wh ≤ 14) : hh_Ki l D K ad yX7_many (hh_wm yX7_many cX7_many 2 (some .int)) { frames := 3, cells := 0, slots := 0, locals := 70 } [.ref (ad 0), .int wh] v (fun (q : Int32) (v1 : hh_M) => q = hf_X7_many v wh ∧ v1 = v) := by
  refine hh_Ki_of (by decide) (Nat.le_of_ble_eq_true rfl) ?_
  intro p e s m args below meth c ls A C0 hp hl
  obtain ⟨hx, hb, hr9, hml, hown, hts, hK, hlk, hA⟩ := id C0
  have hnm := hT.1
  have hnh := hT.2.1
  have hnc := hT.2.2.1
  have hbH0 := hnh 0
  have hbC0 := hnc 0
  have hbH1 := hnh 1
  have hbC1 := hnc 1
  have hl : lv_has ls 2 [(0, .ref (ad 0)), (1, .int wh)] := hl
  refine lv_iload_n hx hb dX7_many_0 rfl (lv_at hl 1 rfl) ?_
  refine lv_iconst (v := 0) hx hb dX7_many_1 (by decide) ?_
  refine lv_bipush (v := 14) hx hb dX7_many_2 (by decide) ?_
  refine hh_cSv C0 hp (As := [.int wh, .int 0, .int 14]) (rest := []) (n := 3) (hk_X7_demandWithin l D K ad hT wh 0 14 hwh0 hwh1) (hh_gS hm_333 hm_334 hm_335 hm_336) ⟨rfl, rfl⟩ (by decide +kernel) ⟨Nat.le_of_ble_eq_true rfl, Nat.le_of_ble_eq_true rfl⟩ ⟨Nat.zero_le _, Nat.zero_le _⟩ hl.1 rfl rfl (Nat.le_of_ble_eq_true rfl) dX7_many_4 (fun v_4 H locs hv_4 hp => ?_)
  rw [hv_4] at hp
  refine lv_iload_n hx hb dX7_many_7 rfl (lv_at hl 1 rfl) ?_
  by_cases c_8_0 : wh = 0
  · refine lv_tableIn (off := 72) (tgt := 80) hx hb dX7_many_8 (by rw [c_8_0]; decide) (by rw [c_8_0]; decide) (by rw [c_8_0]; rfl) (by decide) ?_
    refine lv_aload_n hx hb dX7_many_80 rfl (lv_at hl 0 rfl) ?_
    refine hh_get C0 hp (C := RX7) (T := TX7) (N := 4) (ci := 7) (by decide) hh_E_0 rfl hh_uX7 1 (by decide) hm_313 rfl rfl dX7_many_81 ?_
    refine hh_get C0 hp (C := RX5) (T := TX5) (N := 10) (ci := 5) (hh_b_r (by decide : 0 < 2)) (hh_E_r 0) rfl hh_uX5 8 (by decide) hm_414 rfl rfl dX7_many_84 ?_
    exact hh_iret C0 hp dX7_many_87 ⟨(by unfold hf_X7_many; rw [if_pos c_8_0]), rfl⟩
  by_cases c_8_1 : wh = 1
  · refine lv_tableIn (off := 80) (tgt := 88) hx hb dX7_many_8 (by rw [c_8_1]; decide) (by rw [c_8_1]; decide) (by rw [c_8_1]; rfl) (by decide) ?_
    refine lv_aload_n hx hb dX7_many_88 rfl (lv_at hl 0 rfl) ?_
    refine hh_get C0 hp (C := RX7) (T := TX7) (N := 4) (ci := 7) (by decide) hh_E_0 rfl hh_uX7 0 (by decide) hm_310 rfl rfl dX7_many_89 ?_
    refine hh_get C0 hp (C := RX4) (T := TX4) (N := 3) (ci := 4) (by decide) hh_E_1 rfl hh_uX4 2 (by decide) hm_324 rfl rfl dX7_many_92 ?_
    exact hh_iret C0 hp dX7_many_95 ⟨(by unfold hf_X7_many; rw [if_neg c_8_0, if_pos c_8_1]), rfl⟩
  by_cases c_8_2 : wh = 2
  · refine lv_tableIn (off := 88) (tgt := 96) hx hb dX7_many_8 (by rw [c_8_2]; decide) (by rw [c_8_2]; decide) (by rw [c_8_2]; rfl) (by decide) ?_
    refine lv_aload_n hx hb dX7_many_96 rfl (lv_at hl 0 rfl) ?_
    refine hh_get C0 hp (C := RX7) (T := TX7) (N := 4) (ci := 7) (by decide) hh_E_0 rfl hh_uX7 1 (by decide) hm_313 rfl rfl dX7_many_97 ?_
    refine hh_get C0 hp (C := RX5) (T := TX5) (N := 10) (ci := 5) (hh_b_r (by decide : 0 < 2)) (hh_E_r 0) rfl hh_uX5 5 (by decide) hm_341 rfl rfl dX7_many_100 ?_
    exact hh_iret C0 hp dX7_many_103 ⟨(by unfold hf_X7_many; rw [if_neg c_8_0, if_neg c_8_1, if_pos c_8_2]), rfl⟩
  by_cases c_8_3 : wh = 3
  · refine lv_tableIn (off := 96) (tgt := 104) hx hb dX7_many_8 (by rw [c_8_3]; decide) (by rw [c_8_3]; decide) (by rw [c_8_3]; rfl) (by decide) ?_
    refine lv_aload_n hx hb dX7_many_104 rfl (lv_at hl 0 rfl) ?_
    refine hh_get C0 hp (C := RX7) (T := TX7) (N := 4) (ci := 7) (by decide) hh_E_0 rfl hh_uX7 1 (by decide) hm_313 rfl rfl dX7_many_105 ?_
    refine hh_get C0 hp (C := RX5) (T := TX5) (N := 10) (ci := 5) (hh_b_r (by decide : 0 < 2)) (hh_E_r 0) rfl hh_uX5 6 (by decide) hm_370 rfl rfl dX7_many_108 ?_
    exact hh_iret C0 hp dX7_many_111 ⟨(by unfold hf_X7_many; rw [if_neg c_8_0, if_neg c_8_1, if_neg c_8_2, if_pos c_8_3]), rfl⟩
  by_cases c_8_4 : wh = 4
  · refine lv_tableIn (off := 104) (tgt := 112) hx hb dX7_many_8 (by rw [c_8_4]; decide) (by rw [c_8_4]; decide) (by rw [c_8_4]; rfl) (by decide) ?_
    refine lv_aload_n hx hb dX7_many_112 rfl (lv_at hl 0 rfl) ?_
    refine hh_get C0 hp (C := RX7) (T := TX7) (N := 4) (ci := 7) (by decide) hh_E_0 rfl hh_uX7 1 (by decide) hm_313 rfl rfl dX7_many_113 ?_
    refine lv_iconst (v := 0) hx hb dX7_many_116 (by decide) ?_
    refine hh_cVi C0 hp (As := [.int 0]) (rest := []) (C := RX5) (T := TX5) (N := 10) (ci := 5) (n := 1) (hk_X5_callsThat l D K ad hT 0 0 (by decide : 0 < 2)) rfl (hh_b_r (by decide : 0 < 2)) (hh_E_r 0) (hh_gV hm_391 hm_392 hm_393 hm_128 hm_267) ⟨rfl, rfl⟩ (by decide +kernel) ⟨Nat.le_of_ble_eq_true rfl, Nat.le_of_ble_eq_true rfl⟩ ⟨Nat.zero_le _, Nat.zero_le _⟩ hl.1 rfl rfl (Nat.le_of_ble_eq_true rfl) dX7_many_117 (fun q_117 v_117 H locs hv_117 hp => ?_)
    obtain ⟨eq_117, hv9⟩ := hv_117
    rw [hv9] at hp; clear hv9
    exact hh_iret C0 hp dX7_many_120 ⟨(by unfold hf_X7_many; rw [if_neg c_8_0, if_neg c_8_1, if_neg c_8_2, if_neg c_8_3, if_pos c_8_4, hh_let_eq eq_117]), rfl⟩
  by_cases c_8_5 : wh = 5
  · refine lv_tableIn (off := 113) (tgt := 121) hx hb dX7_many_8 (by rw [c_8_5]; decide) (by rw [c_8_5]; decide) (by rw [c_8_5]; rfl) (by decide) ?_
    refine lv_aload_n hx hb dX7_many_121 rfl (lv_at hl 0 rfl) ?_
    refine hh_get C0 hp (C := RX7) (T := TX7) (N := 4) (ci := 7) (by decide) hh_E_0 rfl hh_uX7 1 (by decide) hm_313 rfl rfl dX7_many_122 ?_
    refine lv_iconst (v := 2) hx hb dX7_many_125 (by decide) ?_
    refine hh_cVi C0 hp (As := [.int 2]) (rest := []) (C := RX5) (T := TX5) (N := 10) (ci := 5) (n := 1) (hk_X5_callsThat l D K ad hT 0 2 (by decide : 0 < 2)) rfl (hh_b_r (by decide : 0 < 2)) (hh_E_r 0) (hh_gV hm_391 hm_392 hm_393 hm_128 hm_267) ⟨rfl, rfl⟩ (by decide +kernel) ⟨Nat.le_of_ble_eq_true rfl, Nat.le_of_ble_eq_true rfl⟩ ⟨Nat.zero_le _, Nat.zero_le _⟩ hl.1 rfl rfl (Nat.le_of_ble_eq_true rfl) dX7_many_126 (fun q_126 v_126 H locs hv_126 hp => ?_)
    obtain ⟨eq_126, hv9⟩ := hv_126
    rw [hv9] at hp; clear hv9
    exact hh_iret C0 hp dX7_many_129 ⟨(by unfold hf_X7_many; rw [if_neg c_8_0, if_neg c_8_1, if_neg c_8_2, if_neg c_8_3, if_neg c_8_4, if_pos c_8_5, hh_let_eq eq_126]), rfl⟩
  by_cases c_8_6 : wh = 6
  · refine lv_tableIn (off := 122) (tgt := 130) hx hb dX7_many_8 (by rw [c_8_6]; decide) (by rw [c_8_6]; decide) (by rw [c_8_6]; rfl) (by decide) ?_
    refine lv_aload_n hx hb dX7_many_130 rfl (lv_at hl 0 rfl) ?_
    refine hh_get C0 hp (C := RX7) (T := TX7) (N := 4) (ci := 7) (by decide) hh_E_0 rfl hh_uX7 1 (by decide) hm_313 rfl rfl dX7_many_131 ?_
    refine lv_iconst (v := 4) hx hb dX7_many_134 (by decide) ?_
    refine hh_cVi C0 hp (As := [.int 4]) (rest := []) (C := RX5) (T := TX5) (N := 10) (ci := 5) (n := 1) (hk_X5_sumOfCalls l D K ad hT 0 4 (by decide : 0 < 2)) rfl (hh_b_r (by decide : 0 < 2)) (hh_E_r 0) (hh_gV hm_416 hm_417 hm_418 hm_128 hm_268) ⟨rfl, rfl⟩ (by decide +kernel) ⟨Nat.le_of_ble_eq_true rfl, Nat.le_of_ble_eq_true rfl⟩ ⟨Nat.zero_le _, Nat.zero_le _⟩ hl.1 rfl rfl (Nat.le_of_ble_eq_true rfl) dX7_many_135 (fun q_135 v_135 H locs hv_135 hp => ?_)
    obtain ⟨eq_135, hv9⟩ := hv_135
    rw [hv9] at hp; clear hv9
    exact hh_iret C0 hp dX7_many_138 ⟨(by unfold hf_X7_many; rw [if_neg c_8_0, if_neg c_8_1, if_neg c_8_2, if_neg c_8_3, if_neg c_8_4, if_neg c_8_5, if_pos c_8_6, hh_let_eq eq_135]), rfl⟩
  by_cases c_8_7 : wh = 7
  · refine lv_tableIn (off := 131) (tgt := 139) hx hb dX7_many_8 (by rw [c_8_7]; decide) (by rw [c_8_7]; decide) (by rw [c_8_7]; rfl) (by decide) ?_
    refine lv_aload_n hx hb dX7_many_139 rfl (lv_at hl 0 rfl) ?_
    refine hh_get C0 hp (C := RX7) (T := TX7) (N := 4) (ci := 7) (by decide) hh_E_0 rfl hh_uX7 1 (by decide) hm_313 rfl rfl dX7_many_140 ?_
    refine lv_iconst (v := 5) hx hb dX7_many_143 (by decide) ?_
    refine hh_cVi C0 hp (As := [.int 5]) (rest := []) (C := RX5) (T := TX5) (N := 10) (ci := 5) (n := 1) (hk_X5_sumOfCalls l D K ad hT 0 5 (by decide : 0 < 2)) rfl (hh_b_r (by decide : 0 < 2)) (hh_E_r 0) (hh_gV hm_416 hm_417 hm_418 hm_128 hm_268) ⟨rfl, rfl⟩ (by decide +kernel) ⟨Nat.le_of_ble_eq_true rfl, Nat.le_of_ble_eq_true rfl⟩ ⟨Nat.zero_le _, Nat.zero_le _⟩ hl.1 rfl rfl (Nat.le_of_ble_eq_true rfl) dX7_many_144 (fun q_144 v_144 H locs hv_144 hp => ?_)
    obtain ⟨eq_144, hv9⟩ := hv_144
    rw [hv9] at hp; clear hv9
    exact hh_iret C0 hp dX7_many_147 ⟨(by unfold hf_X7_many; rw [if_neg c_8_0, if_neg c_8_1, if_neg c_8_2, if_neg c_8_3, if_neg c_8_4, if_neg c_8_5, if_neg c_8_6, if_pos c_8_7, hh_let_eq eq_144]), rfl⟩
  by_cases c_8_8 : wh = 8
  · refine lv_tableIn (off := 140) (tgt := 148) hx hb dX7_many_8 (by rw [c_8_8]; decide) (by rw [c_8_8]; decide) (by rw [c_8_8]; rfl) (by decide) ?_
    refine lv_aload_n hx hb dX7_many_148 rfl (lv_at hl 0 rfl) ?_
    refine hh_get C0 hp (C := RX7) (T := TX7) (N := 4) (ci := 7) (by decide) hh_E_0 rfl hh_uX7 1 (by decide) hm_313 rfl rfl dX7_many_149 ?_
    refine hh_get C0 hp (C := RX5) (T := TX5) (N := 10) (ci := 5) (hh_b_r (by decide : 0 < 2)) (hh_E_r 0) rfl hh_uX5 9 (by decide) hm_415 rfl rfl dX7_many_152 ?_
    exact hh_iret C0 hp dX7_many_155 ⟨(by unfold hf_X7_many; rw [if_neg c_8_0, if_neg c_8_1, if_neg c_8_2, if_neg c_8_3, if_neg c_8_4, if_neg c_8_5, if_neg c_8_6, if_neg c_8_7, if_pos c_8_8]), rfl⟩
  by_cases c_8_9 : wh = 9
  · refine lv_tableIn (off := 148) (tgt := 156) hx hb dX7_many_8 (by rw [c_8_9]; decide) (by rw [c_8_9]; decide) (by rw [c_8_9]; rfl) (by decide) ?_
    refine lv_aload_n hx hb dX7_many_156 rfl (lv_at hl 0 rfl) ?_
    refine hh_get C0 hp (C := RX7) (T := TX7) (N := 4) (ci := 7) (by decide) hh_E_0 rfl hh_uX7 1 (by decide) hm_313 rfl rfl dX7_many_157 ?_
    refine hh_get C0 hp (C := RX5) (T := TX5) (N := 10) (ci := 5) (hh_b_r (by decide : 0 < 2)) (hh_E_r 0) rfl hh_uX5 7 (by decide) hm_384 rfl rfl dX7_many_160 ?_
    exact hh_iret C0 hp dX7_many_163 ⟨(by unfold hf_X7_many; rw [if_neg c_8_0, if_neg c_8_1, if_neg c_8_2, if_neg c_8_3, if_neg c_8_4, if_neg c_8_5, if_neg c_8_6, if_neg c_8_7, if_neg c_8_8, if_pos c_8_9]), rfl⟩
  by_cases c_8_10 : wh = 10
  · refine lv_tableIn (off := 156) (tgt := 164) hx hb dX7_many_8 (by rw [c_8_10]; decide) (by rw [c_8_10]; decide) (by rw [c_8_10]; rfl) (by decide) ?_
    refine lv_aload_n hx hb dX7_many_164 rfl (lv_at hl 0 rfl) ?_
    refine hh_get C0 hp (C := RX7) (T := TX7) (N := 4) (ci := 7) (by decide) hh_E_0 rfl hh_uX7 1 (by decide) hm_313 rfl rfl dX7_many_165 ?_
    refine lv_bipush (v := 10) hx hb dX7_many_168 (by decide) ?_
    refine hh_cVi C0 hp (As := [.int 10]) (rest := []) (C := RX5) (T := TX5) (N := 10) (ci := 5) (n := 1) (hk_X5_sumOfHandsets l D K ad hT 0 10 (by decide : 0 < 2)) rfl (hh_b_r (by decide : 0 < 2)) (hh_E_r 0) (hh_gV hm_419 hm_420 hm_421 hm_128 hm_272) ⟨rfl, rfl⟩ (by decide +kernel) ⟨Nat.le_of_ble_eq_true rfl, Nat.le_of_ble_eq_true rfl⟩ ⟨Nat.zero_le _, Nat.zero_le _⟩ hl.1 rfl rfl (Nat.le_of_ble_eq_true rfl) dX7_many_170 (fun q_170 v_170 H locs hv_170 hp => ?_)
    obtain ⟨eq_170, hv9⟩ := hv_170
    rw [hv9] at hp; clear hv9
    exact hh_iret C0 hp dX7_many_173 ⟨(by unfold hf_X7_many; rw [if_neg c_8_0, if_neg c_8_1, if_neg c_8_2, if_neg c_8_3, if_neg c_8_4, if_neg c_8_5, if_neg c_8_6, if_neg c_8_7, if_neg c_8_8, if_neg c_8_9, if_pos c_8_10, hh_let_eq eq_170]), rfl⟩
  by_cases c_8_11 : wh = 11
  · refine lv_tableIn (off := 166) (tgt := 174) hx hb dX7_many_8 (by rw [c_8_11]; decide) (by rw [c_8_11]; decide) (by rw [c_8_11]; rfl) (by decide) ?_
    refine lv_aload_n hx hb dX7_many_174 rfl (lv_at hl 0 rfl) ?_
    refine hh_get C0 hp (C := RX7) (T := TX7) (N := 4) (ci := 7) (by decide) hh_E_0 rfl hh_uX7 1 (by decide) hm_313 rfl rfl dX7_many_175 ?_
    refine lv_bipush (v := 8) hx hb dX7_many_178 (by decide) ?_
    refine hh_cVi C0 hp (As := [.int 8]) (rest := []) (C := RX5) (T := TX5) (N := 10) (ci := 5) (n := 1) (hk_X5_sumOfHandsets l D K ad hT 0 8 (by decide : 0 < 2)) rfl (hh_b_r (by decide : 0 < 2)) (hh_E_r 0) (hh_gV hm_419 hm_420 hm_421 hm_128 hm_272) ⟨rfl, rfl⟩ (by decide +kernel) ⟨Nat.le_of_ble_eq_true rfl, Nat.le_of_ble_eq_true rfl⟩ ⟨Nat.zero_le _, Nat.zero_le _⟩ hl.1 rfl rfl (Nat.le_of_ble_eq_true rfl) dX7_many_180 (fun q_180 v_180 H locs hv_180 hp => ?_)
    obtain ⟨eq_180, hv9⟩ := hv_180
    rw [hv9] at hp; clear hv9
    exact hh_iret C0 hp dX7_many_183 ⟨(by unfold hf_X7_many; rw [if_neg c_8_0, if_neg c_8_1, if_neg c_8_2, if_neg c_8_3, if_neg c_8_4, if_neg c_8_5, if_neg c_8_6, if_neg c_8_7, if_neg c_8_8, if_neg c_8_9, if_neg c_8_10, if_pos c_8_11, hh_let_eq eq_180]), rfl⟩
  by_cases c_8_12 : wh = 12
  · refine lv_tableIn (off := 176) (tgt := 184) hx hb dX7_many_8 (by rw [c_8_12]; decide) (by rw [c_8_12]; decide) (by rw [c_8_12]; rfl) (by decide) ?_
    refine lv_aload_n hx hb dX7_many_184 rfl (lv_at hl 0 rfl) ?_
    refine hh_get C0 hp (C := RX7) (T := TX7) (N := 4) (ci := 7) (by decide) hh_E_0 rfl hh_uX7 1 (by decide) hm_313 rfl rfl dX7_many_185 ?_
    refine lv_iconst (v := 3) hx hb dX7_many_188 (by decide) ?_
    refine hh_cVi C0 hp (As := [.int 3]) (rest := []) (C := RX5) (T := TX5) (N := 10) (ci := 5) (n := 1) (hk_X5_sumOfCalls l D K ad hT 0 3 (by decide : 0 < 2)) rfl (hh_b_r (by decide : 0 < 2)) (hh_E_r 0) (hh_gV hm_416 hm_417 hm_418 hm_128 hm_268) ⟨rfl, rfl⟩ (by decide +kernel) ⟨Nat.le_of_ble_eq_true rfl, Nat.le_of_ble_eq_true rfl⟩ ⟨Nat.zero_le _, Nat.zero_le _⟩ hl.1 rfl rfl (Nat.le_of_ble_eq_true rfl) dX7_many_189 (fun q_189 v_189 H locs hv_189 hp => ?_)
    obtain ⟨eq_189, hv9⟩ := hv_189
    rw [hv9] at hp; clear hv9
    exact hh_iret C0 hp dX7_many_192 ⟨(by unfold hf_X7_many; rw [if_neg c_8_0, if_neg c_8_1, if_neg c_8_2, if_neg c_8_3, if_neg c_8_4, if_neg c_8_5, if_neg c_8_6, if_neg c_8_7, if_neg c_8_8, if_neg c_8_9, if_neg c_8_10, if_neg c_8_11, if_pos c_8_12, hh_let_eq eq_189]), rfl⟩
  by_cases c_8_13 : wh = 13
  · refine lv_tableIn (off := 185) (tgt := 193) hx hb dX7_many_8 (by rw [c_8_13]; decide) (by rw [c_8_13]; decide) (by rw [c_8_13]; rfl) (by decide) ?_
    refine lv_aload_n hx hb dX7_many_193 rfl (lv_at hl 0 rfl) ?_
    refine hh_get C0 hp (C := RX7) (T := TX7) (N := 4) (ci := 7) (by decide) hh_E_0 rfl hh_uX7 1 (by decide) hm_313 rfl rfl dX7_many_194 ?_
    refine hh_cVi C0 hp (As := []) (rest := []) (C := RX5) (T := TX5) (N := 10) (ci := 5) (n := 0) (hk_X5_handsetsToBeFound l D K ad hT 0 (by decide : 0 < 2)) rfl (hh_b_r (by decide : 0 < 2)) (hh_E_r 0) (hh_gV hm_422 hm_423 hm_424 hm_128 hm_153) ⟨rfl, rfl⟩ (by decide +kernel) ⟨Nat.le_of_ble_eq_true rfl, Nat.le_of_ble_eq_true rfl⟩ ⟨Nat.zero_le _, Nat.zero_le _⟩ hl.1 rfl rfl (Nat.le_of_ble_eq_true rfl) dX7_many_197 (fun q_197 v_197 H locs hv_197 hp => ?_)
    obtain ⟨eq_197, hv9⟩ := hv_197
    rw [hv9] at hp; clear hv9
    exact hh_iret C0 hp dX7_many_200 ⟨(by unfold hf_X7_many; rw [if_neg c_8_0, if_neg c_8_1, if_neg c_8_2, if_neg c_8_3, if_neg c_8_4, if_neg c_8_5, if_neg c_8_6, if_neg c_8_7, if_neg c_8_8, if_neg c_8_9, if_neg c_8_10, if_neg c_8_11, if_neg c_8_12, if_pos c_8_13, hh_let_eq eq_197]), rfl⟩
  refine lv_tableOut (tgt := 201) hx hb dX7_many_8 (hh_sw (n := 14) (fun k hk => (match k, hk with | 0, _ => c_8_0 | 1, _ => c_8_1 | 2, _ => c_8_2 | 3, _ => c_8_3 | 4, _ => c_8_4 | 5, _ => c_8_5 | 6, _ => c_8_6 | 7, _ => c_8_7 | 8, _ => c_8_8 | 9, _ => c_8_9 | 10, _ => c_8_10 | 11, _ => c_8_11 | 12, _ => c_8_12 | 13, _ => c_8_13 | k + 14, hk => absurd hk (by omega))) (by decide)) (by decide) ?_
  refine lv_aload_n hx hb dX7_many_201 rfl (lv_at hl 0 rfl) ?_
  refine hh_get C0 hp (C := RX7) (T := TX7) (N := 4) (ci := 7) (by decide) hh_E_0 rfl hh_uX7 1 (by decide) hm_313 rfl rfl dX7_many_202 ?_
  refine hh_cVi C0 hp (As := []) (rest := []) (C := RX5) (T := TX5) (N := 10) (ci := 5) (n := 0) (hk_X5_placesHeardWell l D K ad hT 0 (by decide : 0 < 2)) rfl (hh_b_r (by decide : 0 < 2)) (hh_E_r 0) (hh_gV hm_425 hm_426 hm_427 hm_128 hm_131) ⟨rfl, rfl⟩ (by decide +kernel) ⟨Nat.le_of_ble_eq_true rfl, Nat.le_of_ble_eq_true rfl⟩ ⟨Nat.zero_le _, Nat.zero_le _⟩ hl.1 rfl rfl (Nat.le_of_ble_eq_true rfl) dX7_many_205 (fun q_205 v_205 H locs hv_205 hp => ?_)
  obtain ⟨eq_205, hv9⟩ := hv_205
  rw [hv9] at hp; clear hv9
  exact hh_iret C0 hp dX7_many_208 ⟨(by unfold hf_X7_many; rw [if_neg c_8_0, if_neg c_8_1, if_neg c_8_2, if_neg c_8_3, if_neg c_8_4, if_neg c_8_5, if_neg c_8_6, if_neg c_8_7, if_neg c_8_8, if_neg c_8_9, if_neg c_8_10, if_neg c_8_11, if_neg c_8_12, if_neg c_8_13, hh_let_eq eq_205]), rfl⟩
def hl_X7_wouldBeOn_31 (i : Nat) (w_31 : hh_M) : hh_M := (hh_let (hf_X5_second w_31 1 : hh_M) (fun (v_40 : hh_M) => v_40))
def hf_X7_wouldBeOn (v : hh_M) (ha : Int32) (se : Int32) : Int32 × hh_M := (hh_let (hf_X5_copyFrom v 1 0 : hh_M) (fun (v_26 : hh_M) => (hh_let (hh_fld (fun (i9 : Nat) (z : hh_M) => hl_X7_wouldBeOn_31 i9 z) se.toNatClampNeg v_26 : hh_M) (fun (w_31 : hh_M) => ((w_31 (hh_hI 1 ha.toNatClampNeg) 5), w_31)))))
set_option maxHeartbeats 4000000 in
set_option maxRecDepth 100000 in
theorem hk_X7_wouldBeOn (l : Launch) (D : va_G) (K : Nat → ClassId) (ad : Nat → Nat) {nm : Nat} {nh nc : Nat → Nat} {v : hh_M} (hT : hh_T nm nh nc v) (ha : Int32) (se : Int32) (hha0 : 0 ≤ ha) (hha1 : ha < nI (nh 0)) (hse0 : 0 ≤ se) (hse1 : se ≤ 99) : hh_Ki l D K ad yX7_wouldBeOn (hh_wm yX7_wouldBeOn cX7_wouldBeOn 4 (some .int)) { frames := 4, cells := 0, slots := 0, locals := 95 } [.ref (ad 0), .int ha, .int se] v (fun (q : Int32) (v1 : hh_M) => (q, v1) = hf_X7_wouldBeOn v ha se ∧ hh_T nm (hh_fu nh 1 (nh 0)) (hh_fu nc 1 (nc 0)) v1 ∧ (-1 ≤ q ∧ q < nI nm)) := by
  refine hh_Ki_of (by decide) (Nat.le_of_ble_eq_true rfl) ?_
  intro p e s m args below meth c ls A C0 hp hl
  obtain ⟨hx, hb, hr9, hml, hown, hts, hK, hlk, hA⟩ := id C0
  have hnm := hT.1
  have hnh := hT.2.1
  have hnc := hT.2.2.1
  have hbH0 := hnh 0
  have hbC0 := hnc 0
  have hbH1 := hnh 1
  have hbC1 := hnc 1
  have hl : lv_has ls 4 [(0, .ref (ad 0)), (1, .int ha), (2, .int se)] := hl
  have hS0 : 0 ≤ se := by first | assumption | exact Int32.le_trans (by decide) hse0
  have hS : se = nI se.toNatClampNeg := hh_nat hS0
  have hS9 : se.toNatClampNeg ≤ 99 := hh_nat_le hS0 (by assumption) (by decide)
  refine lv_iload_n hx hb dX7_wouldBeOn_0 rfl (lv_at hl 1 rfl) ?_
  refine lv_aload_n hx hb dX7_wouldBeOn_1 rfl (lv_at hl 0 rfl) ?_
  refine hh_get C0 hp (C := RX7) (T := TX7) (N := 4) (ci := 7) (by decide) hh_E_0 rfl hh_uX7 1 (by decide) hm_313 rfl rfl dX7_wouldBeOn_2 ?_
  refine hh_get C0 hp (C := RX5) (T := TX5) (N := 10) (ci := 5) (hh_b_r (by decide : 0 < 2)) (hh_E_r 0) rfl hh_uX5 5 (by decide) hm_341 rfl rfl dX7_wouldBeOn_5 ?_
  refine hh_cSv C0 hp (As := [.int ha, .int (v (hh_rI 0) 5)]) (rest := []) (n := 2) (hk_X7_demandNumber l D K ad hT ha (v (hh_rI 0) 5) hha0 (by rw [hh_T_r5 hT 0]; exact hha1)) (hh_gS hm_349 hm_350 hm_335 hm_351) ⟨rfl, rfl⟩ (by decide +kernel) ⟨Nat.le_of_ble_eq_true rfl, Nat.le_of_ble_eq_true rfl⟩ ⟨Nat.zero_le _, Nat.zero_le _⟩ hl.1 rfl rfl (Nat.le_of_ble_eq_true rfl) dX7_wouldBeOn_8 (fun v_8 H locs hv_8 hp => ?_)
  rw [hv_8] at hp
  refine lv_iload_n hx hb dX7_wouldBeOn_11 rfl (lv_at hl 2 rfl) ?_
  refine lv_iconst (v := 0) hx hb dX7_wouldBeOn_12 (by decide) ?_
  refine lv_bipush (v := 99) hx hb dX7_wouldBeOn_13 (by decide) ?_
  refine hh_cSv C0 hp (As := [.int se, .int 0, .int 99]) (rest := []) (n := 3) (hk_X7_demandWithin l D K ad hT se 0 99 hse0 hse1) (hh_gS hm_333 hm_334 hm_335 hm_336) ⟨rfl, rfl⟩ (by decide +kernel) ⟨Nat.le_of_ble_eq_true rfl, Nat.le_of_ble_eq_true rfl⟩ ⟨Nat.zero_le _, Nat.zero_le _⟩ hl.1 rfl rfl (Nat.le_of_ble_eq_true rfl) dX7_wouldBeOn_15 (fun v_15 H locs hv_15 hp => ?_)
  rw [hv_15] at hp
  refine lv_aload_n hx hb dX7_wouldBeOn_18 rfl (lv_at hl 0 rfl) ?_
  refine hh_get C0 hp (C := RX7) (T := TX7) (N := 4) (ci := 7) (by decide) hh_E_0 rfl hh_uX7 2 (by decide) hm_314 rfl rfl dX7_wouldBeOn_19 ?_
  refine lv_aload_n hx hb dX7_wouldBeOn_22 rfl (lv_at hl 0 rfl) ?_
  refine hh_get C0 hp (C := RX7) (T := TX7) (N := 4) (ci := 7) (by decide) hh_E_0 rfl hh_uX7 1 (by decide) hm_313 rfl rfl dX7_wouldBeOn_23 ?_
  refine hh_cVv C0 hp (As := [.ref (ad (hh_rI 0))]) (rest := []) (C := RX5) (T := TX5) (N := 10) (ci := 5) (n := 1) (hk_X5_copyFrom l D K ad hT 1 0 (by decide : 1 < 2) (by decide : 0 < 2)) rfl (hh_b_r (by decide : 1 < 2)) (hh_E_r 1) (hh_gV hm_433 hm_434 hm_435 hm_128 hm_110) ⟨rfl, rfl⟩ (by decide +kernel) ⟨Nat.le_of_ble_eq_true rfl, Nat.le_of_ble_eq_true rfl⟩ ⟨Nat.zero_le _, Nat.zero_le _⟩ hl.1 rfl rfl (Nat.le_of_ble_eq_true rfl) dX7_wouldBeOn_26 (fun v_26 H locs hv_26 hp => ?_)
  obtain ⟨ev_26, hTv_26⟩ := hv_26
  refine lv_iconst (v := 0) hx hb dX7_wouldBeOn_29 (by decide) ?_
  refine lv_istore_n (lv' := [(3, .int 0), (0, .ref (ad 0)), (1, .int ha), (2, .int se)]) hx hb dX7_wouldBeOn_30 rfl hl (by decide) rfl (fun ls hl => ?_)
  have hL_31 : ∀ (n i : Nat) (w_31 : hh_M) (H : Heap) (locs : List Loc) (ls : Array Slot), i ≤ se.toNatClampNeg → se.toNatClampNeg - i < n → w_31 = hh_fld (fun (i9 : Nat) (z : hh_M) => hl_X7_wouldBeOn_31 i9 z) i v_26 → hh_T nm (hh_fu nh 1 (nh 0)) (hh_fu nc 1 (nc 0)) w_31 → hh_H D K ad A s.heap w_31 H locs → lv_has ls 4 [(3, .int (nI i)), (0, .ref (ad 0)), (1, .int ha), (2, .int se)] → W p l e ({ frames := 4, cells := 0, slots := 0, locals := 95 } : Room) s m args below meth c H locs 0 0 (MQ below (va_Qi (fun (q : Int32) (v1 : hh_M) => (q, v1) = hf_X7_wouldBeOn v ha se ∧ hh_T nm (hh_fu nh 1 (nh 0)) (hh_fu nc 1 (nc 0)) v1 ∧ (-1 ≤ q ∧ q < nI nm)) (hh_B D K ad A) A) args s 0 0 A) (F0 m 31 ls []) := by
    intro n
    induction n with
    | zero => intro i w_31 H locs ls h1 h2; omega
    | succ n ih =>
      intro i w_31 H locs ls hii hni hsL_31 hTw_31 hp hl
      refine lv_iload_n hx hb dX7_wouldBeOn_31 rfl (lv_at hl 0 rfl) ?_
      refine lv_iload_n hx hb dX7_wouldBeOn_32 rfl (lv_at hl 3 rfl) ?_
      refine lv_icmp_ge (tgt := 49) hx hb dX7_wouldBeOn_33 (by decide) (fun c_33 => ?_) (fun c_33 => ?_)
      · have hbc_33 : se = nI se.toNatClampNeg := hS
        rw [hbc_33] at c_33
        have hc_33 := (nI_leI (a := se.toNatClampNeg) (b := i) (by omega) (by omega))
        have hltc_33 : se.toNatClampNeg ≤ i := by exact hc_33.mp c_33
        have hNL_31 : i = se.toNatClampNeg := by omega
        rw [hNL_31] at hsL_31
        have ew_31 : w_31 = hh_fld (fun (i9 : Nat) (z : hh_M) => hl_X7_wouldBeOn_31 i9 z) se.toNatClampNeg v_26 := hsL_31
        clear ih hsL_31
        refine lv_aload_n hx hb dX7_wouldBeOn_49 rfl (lv_at hl 1 rfl) ?_
        refine hh_get C0 hp (C := RX7) (T := TX7) (N := 4) (ci := 7) (by decide) hh_E_0 rfl hh_uX7 2 (by decide) hm_314 rfl rfl dX7_wouldBeOn_50 ?_
        refine hh_get C0 hp (C := RX5) (T := TX5) (N := 10) (ci := 5) (hh_b_r (by decide : 1 < 2)) (hh_E_r 1) rfl hh_uX5 3 (by decide) hm_342 rfl rfl dX7_wouldBeOn_53 ?_
        refine lv_iload_n hx hb dX7_wouldBeOn_56 rfl (lv_at hl 2 rfl) ?_
        have hin_57 : vp_in ha 8 := hh_inZ hha0 hha1 hbH0 (by decide)
        refine hh_aal C0 hp (t0 := 3) (f := (hh_hI 1)) (hh_b_H (by decide : 1 < 2)) (hh_E_H 1) rfl rfl hin_57 rfl dX7_wouldBeOn_57 ?_
        refine hh_get C0 hp (C := RX1) (T := TX1) (N := 13) (ci := 1) (hh_b_h (by decide : 1 < 2) (hh_lt hin_57)) (hh_E_h 1 (hh_lt hin_57)) rfl hh_uX1 5 (by decide) hm_437 rfl rfl dX7_wouldBeOn_58 ?_
        exact hh_iret C0 hp dX7_wouldBeOn_61 ⟨(by show (_, _) = _; unfold hf_X7_wouldBeOn; rw [hh_let_eq ev_26, hh_let_eq ew_31]), hTw_31, (hh_T_h5 hTw_31 1 (hh_lt hin_57))⟩
      · have hbc_33 : se = nI se.toNatClampNeg := hS
        rw [hbc_33] at c_33
        have hc_33 := (nI_leI (a := se.toNatClampNeg) (b := i) (by omega) (by omega))
        have hltc_33 : i < se.toNatClampNeg := by exact Nat.not_le.mp (fun z => c_33 (hc_33.mpr z))
        refine lv_aload_n hx hb dX7_wouldBeOn_36 rfl (lv_at hl 1 rfl) ?_
        refine hh_get C0 hp (C := RX7) (T := TX7) (N := 4) (ci := 7) (by decide) hh_E_0 rfl hh_uX7 2 (by decide) hm_314 rfl rfl dX7_wouldBeOn_37 ?_
        refine hh_cVv C0 hp (As := []) (rest := []) (C := RX5) (T := TX5) (N := 10) (ci := 5) (n := 0) (hk_X5_second l D K ad hTw_31 1 (by decide : 1 < 2)) rfl (hh_b_r (by decide : 1 < 2)) (hh_E_r 1) (hh_gV hm_394 hm_395 hm_396 hm_128 hm_158) ⟨rfl, rfl⟩ (by decide +kernel) ⟨Nat.le_of_ble_eq_true rfl, Nat.le_of_ble_eq_true rfl⟩ ⟨Nat.zero_le _, Nat.zero_le _⟩ hl.1 rfl rfl (Nat.le_of_ble_eq_true rfl) dX7_wouldBeOn_40 (fun v_40 H locs hv_40 hp => ?_)
        obtain ⟨ev_40, hTv_40⟩ := hv_40
        refine lv_iinc (v := (nI (i + 1))) (lv' := [(3, .int (nI (i + 1))), (0, .ref (ad 0)), (1, .int ha), (2, .int se)]) hx hb dX7_wouldBeOn_43 hl (k := 0) rfl (nI_1 i) (by decide) rfl (fun ls hl => ?_)
        refine lv_goto (tgt := 31) hx hb dX7_wouldBeOn_46 (by decide) ?_
        exact ih (i + 1) v_40 _ _ _ (by omega) (by omega) (by rw [hh_fld, ← hsL_31]; show _ = hl_X7_wouldBeOn_31 i w_31; unfold hl_X7_wouldBeOn_31; rw [hh_let_eq ev_40]) hTv_40 hp (lv_sub hl [0, 1, 2, 3] rfl)
  exact hL_31 (se.toNatClampNeg + 1) 0 v_26 _ _ _ (Nat.zero_le _) (by omega) rfl hTv_26 hp (lv_sub hl [0, 1, 2, 3] rfl)
def hr_X7_endsIn_48 (ca : Int32) : Nat → Nat → hh_M → Int32 × hh_M
  | 0, i, w_48 => ((-1), w_48)
  | n9 + 1, i, w_48 => (hh_let (hf_X5_second w_48 1 : hh_M) (fun (v_57 : hh_M) => (if (v_57 (hh_cI 1 ca.toNatClampNeg) 6) = 0 then (hr_X7_endsIn_48 ca n9 (i + 1) v_57) else ((nI i), v_57))))
theorem hr_X7_endsIn_48_z (ca : Int32) (i : Nat) (w_48 : hh_M) : hr_X7_endsIn_48 ca 0 i w_48 = ((-1), w_48) := rfl
theorem hr_X7_endsIn_48_s (ca : Int32) (n9 i : Nat) (w_48 : hh_M) : hr_X7_endsIn_48 ca (n9 + 1) i w_48 = (hh_let (hf_X5_second w_48 1 : hh_M) (fun (v_57 : hh_M) => (if (v_57 (hh_cI 1 ca.toNatClampNeg) 6) = 0 then (hr_X7_endsIn_48 ca n9 (i + 1) v_57) else ((nI i), v_57)))) := rfl
def hf_X7_endsIn (v : hh_M) (ca : Int32) (se : Int32) : Int32 × hh_M := (if (v (hh_cI 0 ca.toNatClampNeg) 6) = 0 then (hh_let (hf_X5_copyFrom v 1 0 : hh_M) (fun (v_43 : hh_M) => (hr_X7_endsIn_48 ca se.toNatClampNeg 1 v_43))) else (0, v))
set_option maxHeartbeats 4000000 in
set_option maxRecDepth 100000 in
theorem hk_X7_endsIn (l : Launch) (D : va_G) (K : Nat → ClassId) (ad : Nat → Nat) {nm : Nat} {nh nc : Nat → Nat} {v : hh_M} (hT : hh_T nm nh nc v) (ca : Int32) (se : Int32) (hca0 : 0 ≤ ca) (hca1 : ca < nI (nc 0)) (hse0 : 1 ≤ se) (hse1 : se ≤ 99) : hh_Ki l D K ad yX7_endsIn (hh_wm yX7_endsIn cX7_endsIn 4 (some .int)) { frames := 4, cells := 0, slots := 0, locals := 95 } [.ref (ad 0), .int ca, .int se] v (fun (q : Int32) (v1 : hh_M) => (q, v1) = hf_X7_endsIn v ca se ∧ ∃ nh1 nc1, hh_T nm nh1 nc1 v1 ∧ nh1 0 = nh 0 ∧ nc1 0 = nc 0) := by
  refine hh_Ki_of (by decide) (Nat.le_of_ble_eq_true rfl) ?_
  intro p e s m args below meth c ls A C0 hp hl
  obtain ⟨hx, hb, hr9, hml, hown, hts, hK, hlk, hA⟩ := id C0
  have hnm := hT.1
  have hnh := hT.2.1
  have hnc := hT.2.2.1
  have hbH0 := hnh 0
  have hbC0 := hnc 0
  have hbH1 := hnh 1
  have hbC1 := hnc 1
  have hl : lv_has ls 4 [(0, .ref (ad 0)), (1, .int ca), (2, .int se)] := hl
  have hS0 : 0 ≤ se := by first | assumption | exact Int32.le_trans (by decide) hse0
  have hS : se = nI se.toNatClampNeg := hh_nat hS0
  have hS9 : se.toNatClampNeg ≤ 99 := hh_nat_le hS0 (by assumption) (by decide)
  refine lv_iload_n hx hb dX7_endsIn_0 rfl (lv_at hl 1 rfl) ?_
  refine lv_aload_n hx hb dX7_endsIn_1 rfl (lv_at hl 0 rfl) ?_
  refine hh_get C0 hp (C := RX7) (T := TX7) (N := 4) (ci := 7) (by decide) hh_E_0 rfl hh_uX7 1 (by decide) hm_313 rfl rfl dX7_endsIn_2 ?_
  refine hh_get C0 hp (C := RX5) (T := TX5) (N := 10) (ci := 5) (hh_b_r (by decide : 0 < 2)) (hh_E_r 0) rfl hh_uX5 6 (by decide) hm_370 rfl rfl dX7_endsIn_5 ?_
  refine hh_cSv C0 hp (As := [.int ca, .int (v (hh_rI 0) 6)]) (rest := []) (n := 2) (hk_X7_demandNumber l D K ad hT ca (v (hh_rI 0) 6) hca0 (by rw [hh_T_r6 hT 0]; exact hca1)) (hh_gS hm_349 hm_350 hm_335 hm_351) ⟨rfl, rfl⟩ (by decide +kernel) ⟨Nat.le_of_ble_eq_true rfl, Nat.le_of_ble_eq_true rfl⟩ ⟨Nat.zero_le _, Nat.zero_le _⟩ hl.1 rfl rfl (Nat.le_of_ble_eq_true rfl) dX7_endsIn_8 (fun v_8 H locs hv_8 hp => ?_)
  rw [hv_8] at hp
  refine lv_iload_n hx hb dX7_endsIn_11 rfl (lv_at hl 2 rfl) ?_
  refine lv_iconst (v := 1) hx hb dX7_endsIn_12 (by decide) ?_
  refine lv_bipush (v := 99) hx hb dX7_endsIn_13 (by decide) ?_
  refine hh_cSv C0 hp (As := [.int se, .int 1, .int 99]) (rest := []) (n := 3) (hk_X7_demandWithin l D K ad hT se 1 99 hse0 hse1) (hh_gS hm_333 hm_334 hm_335 hm_336) ⟨rfl, rfl⟩ (by decide +kernel) ⟨Nat.le_of_ble_eq_true rfl, Nat.le_of_ble_eq_true rfl⟩ ⟨Nat.zero_le _, Nat.zero_le _⟩ hl.1 rfl rfl (Nat.le_of_ble_eq_true rfl) dX7_endsIn_15 (fun v_15 H locs hv_15 hp => ?_)
  rw [hv_15] at hp
  refine lv_aload_n hx hb dX7_endsIn_18 rfl (lv_at hl 0 rfl) ?_
  refine hh_get C0 hp (C := RX7) (T := TX7) (N := 4) (ci := 7) (by decide) hh_E_0 rfl hh_uX7 1 (by decide) hm_313 rfl rfl dX7_endsIn_19 ?_
  refine hh_get C0 hp (C := RX5) (T := TX5) (N := 10) (ci := 5) (hh_b_r (by decide : 0 < 2)) (hh_E_r 0) rfl hh_uX5 4 (by decide) hm_379 rfl rfl dX7_endsIn_22 ?_
  refine lv_iload_n hx hb dX7_endsIn_25 rfl (lv_at hl 1 rfl) ?_
  have hin_26 : vp_in ca 24 := hh_inZ hca0 hca1 hbC0 (by decide)
  refine hh_aal C0 hp (t0 := 4) (f := (hh_cI 0)) (hh_b_C (by decide : 0 < 2)) (hh_E_C 0) rfl rfl hin_26 rfl dX7_endsIn_26 ?_
  refine hh_get C0 hp (C := RX0) (T := TX0) (N := 7) (ci := 0) (hh_b_c (by decide : 0 < 2) (hh_lt hin_26)) (hh_E_c 0 (hh_lt hin_26)) rfl hh_uX0 6 (by decide) hm_380 rfl rfl dX7_endsIn_27 ?_
  refine lv_if_eq (tgt := 35) hx hb dX7_endsIn_30 (by decide) (fun c_30 => ?_) (fun c_30 => ?_)
  · refine lv_aload_n hx hb dX7_endsIn_35 rfl (lv_at hl 0 rfl) ?_
    refine hh_get C0 hp (C := RX7) (T := TX7) (N := 4) (ci := 7) (by decide) hh_E_0 rfl hh_uX7 2 (by decide) hm_314 rfl rfl dX7_endsIn_36 ?_
    refine lv_aload_n hx hb dX7_endsIn_39 rfl (lv_at hl 0 rfl) ?_
    refine hh_get C0 hp (C := RX7) (T := TX7) (N := 4) (ci := 7) (by decide) hh_E_0 rfl hh_uX7 1 (by decide) hm_313 rfl rfl dX7_endsIn_40 ?_
    refine hh_cVv C0 hp (As := [.ref (ad (hh_rI 0))]) (rest := []) (C := RX5) (T := TX5) (N := 10) (ci := 5) (n := 1) (hk_X5_copyFrom l D K ad hT 1 0 (by decide : 1 < 2) (by decide : 0 < 2)) rfl (hh_b_r (by decide : 1 < 2)) (hh_E_r 1) (hh_gV hm_433 hm_434 hm_435 hm_128 hm_110) ⟨rfl, rfl⟩ (by decide +kernel) ⟨Nat.le_of_ble_eq_true rfl, Nat.le_of_ble_eq_true rfl⟩ ⟨Nat.zero_le _, Nat.zero_le _⟩ hl.1 rfl rfl (Nat.le_of_ble_eq_true rfl) dX7_endsIn_43 (fun v_43 H locs hv_43 hp => ?_)
    obtain ⟨ev_43, hTv_43⟩ := hv_43
    refine lv_iconst (v := 1) hx hb dX7_endsIn_46 (by decide) ?_
    refine lv_istore_n (lv' := [(3, .int 1), (0, .ref (ad 0)), (1, .int ca), (2, .int se)]) hx hb dX7_endsIn_47 rfl hl (by decide) rfl (fun ls hl => ?_)
    have hL_48 : ∀ (n i : Nat) (w_48 : hh_M) (H : Heap) (locs : List Loc) (ls : Array Slot), i + n = se.toNatClampNeg + 1 → hf_X7_endsIn v ca se = hr_X7_endsIn_48 ca n i w_48 → hh_T nm (hh_fu nh 1 (nh 0)) (hh_fu nc 1 (nc 0)) w_48 → hh_H D K ad A s.heap w_48 H locs → lv_has ls 4 [(3, .int (nI i)), (0, .ref (ad 0)), (1, .int ca), (2, .int se)] → W p l e ({ frames := 4, cells := 0, slots := 0, locals := 95 } : Room) s m args below meth c H locs 0 0 (MQ below (va_Qi (fun (q : Int32) (v1 : hh_M) => (q, v1) = hf_X7_endsIn v ca se ∧ ∃ nh1 nc1, hh_T nm nh1 nc1 v1 ∧ nh1 0 = nh 0 ∧ nc1 0 = nc 0) (hh_B D K ad A) A) args s 0 0 A) (F0 m 48 ls []) := by
      intro n
      induction n using Nat.strongRecOn with
      | ind n ih =>
        intro i w_48 H locs ls hi9 hsL_48 hTw_48 hp hl
        refine lv_iload_n hx hb dX7_endsIn_48 rfl (lv_at hl 0 rfl) ?_
        refine lv_iload_n hx hb dX7_endsIn_49 rfl (lv_at hl 3 rfl) ?_
        refine lv_icmp_gt (tgt := 83) hx hb dX7_endsIn_50 (by decide) (fun c_50 => ?_) (fun c_50 => ?_)
        · have hbc_50 : se = nI se.toNatClampNeg := hS
          rw [hbc_50] at c_50
          have hc_50 := (nI_ltI (a := se.toNatClampNeg) (b := i) (by omega) (by omega))
          have h9 := hc_50.mp c_50
          have hn0 : n = 0 := by omega
          subst hn0
          refine lv_iconst (v := (-1)) hx hb dX7_endsIn_83 (by decide) ?_
          exact hh_iret C0 hp dX7_endsIn_84 ⟨(by show (_, _) = _; rw [hsL_48, hr_X7_endsIn_48_z]), ⟨_, _, hTw_48, rfl, rfl⟩⟩
        · have hbc_50 : se = nI se.toNatClampNeg := hS
          rw [hbc_50] at c_50
          have hc_50 := (nI_ltI (a := se.toNatClampNeg) (b := i) (by omega) (by omega))
          have h9 : ¬ se.toNatClampNeg < i := fun z => c_50 (hc_50.mpr z)
          obtain ⟨n, rfl⟩ : ∃ z, n = z + 1 := ⟨n - 1, by omega⟩
          have ih := fun k (hk : k = n) => ih k (by omega)
          refine lv_aload_n hx hb dX7_endsIn_53 rfl (lv_at hl 1 rfl) ?_
          refine hh_get C0 hp (C := RX7) (T := TX7) (N := 4) (ci := 7) (by decide) hh_E_0 rfl hh_uX7 2 (by decide) hm_314 rfl rfl dX7_endsIn_54 ?_
          refine hh_cVv C0 hp (As := []) (rest := []) (C := RX5) (T := TX5) (N := 10) (ci := 5) (n := 0) (hk_X5_second l D K ad hTw_48 1 (by decide : 1 < 2)) rfl (hh_b_r (by decide : 1 < 2)) (hh_E_r 1) (hh_gV hm_394 hm_395 hm_396 hm_128 hm_158) ⟨rfl, rfl⟩ (by decide +kernel) ⟨Nat.le_of_ble_eq_true rfl, Nat.le_of_ble_eq_true rfl⟩ ⟨Nat.zero_le _, Nat.zero_le _⟩ hl.1 rfl rfl (Nat.le_of_ble_eq_true rfl) dX7_endsIn_57 (fun v_57 H locs hv_57 hp => ?_)
          obtain ⟨ev_57, hTv_57⟩ := hv_57
          refine lv_aload_n hx hb dX7_endsIn_60 rfl (lv_at hl 1 rfl) ?_
          refine hh_get C0 hp (C := RX7) (T := TX7) (N := 4) (ci := 7) (by decide) hh_E_0 rfl hh_uX7 2 (by decide) hm_314 rfl rfl dX7_endsIn_61 ?_
          refine hh_get C0 hp (C := RX5) (T := TX5) (N := 10) (ci := 5) (hh_b_r (by decide : 1 < 2)) (hh_E_r 1) rfl hh_uX5 4 (by decide) hm_379 rfl rfl dX7_endsIn_64 ?_
          refine lv_iload_n hx hb dX7_endsIn_67 rfl (lv_at hl 2 rfl) ?_
          have hin_68 : vp_in ca 24 := hh_inZ hca0 hca1 hbC0 (by decide)
          refine hh_aal C0 hp (t0 := 4) (f := (hh_cI 1)) (hh_b_C (by decide : 1 < 2)) (hh_E_C 1) rfl rfl hin_68 rfl dX7_endsIn_68 ?_
          refine hh_get C0 hp (C := RX0) (T := TX0) (N := 7) (ci := 0) (hh_b_c (by decide : 1 < 2) (hh_lt hin_68)) (hh_E_c 1 (hh_lt hin_68)) rfl hh_uX0 6 (by decide) hm_380 rfl rfl dX7_endsIn_69 ?_
          refine lv_if_eq (tgt := 77) hx hb dX7_endsIn_72 (by decide) (fun c_72 => ?_) (fun c_72 => ?_)
          · refine lv_iinc (v := (nI (i + 1))) (lv' := [(3, .int (nI (i + 1))), (0, .ref (ad 0)), (1, .int ca), (2, .int se)]) hx hb dX7_endsIn_77 hl (k := 0) rfl (nI_1 i) (by decide) rfl (fun ls hl => ?_)
            refine lv_goto (tgt := 48) hx hb dX7_endsIn_80 (by decide) ?_
            exact ih n rfl (i + 1) v_57 _ _ _ (by omega) (by rw [hsL_48, hr_X7_endsIn_48_s, hh_let_eq ev_57, if_pos c_72]) hTv_57 hp (lv_sub hl [0, 1, 2, 3] rfl)
          · refine lv_iload_n hx hb dX7_endsIn_75 rfl (lv_at hl 0 rfl) ?_
            exact hh_iret C0 hp dX7_endsIn_76 ⟨(by show (_, _) = _; rw [hsL_48, hr_X7_endsIn_48_s, hh_let_eq ev_57, if_neg c_72]), ⟨_, _, hTv_57, rfl, rfl⟩⟩
    exact hL_48 se.toNatClampNeg 1 v_43 _ _ _ (by omega) (by unfold hf_X7_endsIn; rw [if_pos c_30, hh_let_eq ev_43]) hTv_43 hp (lv_sub hl [0, 1, 2, 3] rfl)
  · refine lv_iconst (v := 0) hx hb dX7_endsIn_33 (by decide) ?_
    exact hh_iret C0 hp dX7_endsIn_34 ⟨(by show (_, _) = _; unfold hf_X7_endsIn; rw [if_neg c_30]), ⟨nh, nc, hT, rfl, rfl⟩⟩
def hf_X7_bestPlace (v : hh_M) (pw : Int32) (fr : Int32) : Int32 × hh_M := (if (v 1 2) < 6 then (hh_let (hf_X6_take v 0 fr : hh_M) (fun (v_37 : hh_M) => (hh_let (hf_X6_placeFor v_37 pw : Int32) (fun (q_45 : Int32) => (q_45, v_37))))) else ((-1), v))
set_option maxHeartbeats 4000000 in
set_option maxRecDepth 100000 in
theorem hk_X7_bestPlace (l : Launch) (D : va_G) (K : Nat → ClassId) (ad : Nat → Nat) {nm : Nat} {nh nc : Nat → Nat} {v : hh_M} (hT : hh_T nm nh nc v) (pw : Int32) (fr : Int32) (hpw0 : 10 ≤ pw) (hpw1 : pw ≤ 60) (hfr0 : 0 ≤ fr) (hfr1 : fr ≤ 2) : hh_Ki l D K ad yX7_bestPlace (hh_wm yX7_bestPlace cX7_bestPlace 3 (some .int)) { frames := 4, cells := 0, slots := 0, locals := 93 } [.ref (ad 0), .int pw, .int fr] v (fun (q : Int32) (v1 : hh_M) => (q, v1) = hf_X7_bestPlace v pw fr ∧ hh_T nm nh nc v1 ∧ (-1 ≤ q ∧ q < nI 100)) := by
  refine hh_Ki_of (by decide) (Nat.le_of_ble_eq_true rfl) ?_
  intro p e s m args below meth c ls A C0 hp hl
  obtain ⟨hx, hb, hr9, hml, hown, hts, hK, hlk, hA⟩ := id C0
  have hnm := hT.1
  have hnh := hT.2.1
  have hnc := hT.2.2.1
  have hbH0 := hnh 0
  have hbC0 := hnc 0
  have hbH1 := hnh 1
  have hbC1 := hnc 1
  have hl : lv_has ls 3 [(0, .ref (ad 0)), (1, .int pw), (2, .int fr)] := hl
  refine lv_iload_n hx hb dX7_bestPlace_0 rfl (lv_at hl 1 rfl) ?_
  refine lv_bipush (v := 10) hx hb dX7_bestPlace_1 (by decide) ?_
  refine lv_bipush (v := 60) hx hb dX7_bestPlace_3 (by decide) ?_
  refine hh_cSv C0 hp (As := [.int pw, .int 10, .int 60]) (rest := []) (n := 3) (hk_X7_demandWithin l D K ad hT pw 10 60 hpw0 hpw1) (hh_gS hm_333 hm_334 hm_335 hm_336) ⟨rfl, rfl⟩ (by decide +kernel) ⟨Nat.le_of_ble_eq_true rfl, Nat.le_of_ble_eq_true rfl⟩ ⟨Nat.zero_le _, Nat.zero_le _⟩ hl.1 rfl rfl (Nat.le_of_ble_eq_true rfl) dX7_bestPlace_5 (fun v_5 H locs hv_5 hp => ?_)
  rw [hv_5] at hp
  refine lv_iload_n hx hb dX7_bestPlace_8 rfl (lv_at hl 2 rfl) ?_
  refine lv_iconst (v := 0) hx hb dX7_bestPlace_9 (by decide) ?_
  refine lv_iconst (v := 2) hx hb dX7_bestPlace_10 (by decide) ?_
  refine hh_cSv C0 hp (As := [.int fr, .int 0, .int 2]) (rest := []) (n := 3) (hk_X7_demandWithin l D K ad hT fr 0 2 hfr0 hfr1) (hh_gS hm_333 hm_334 hm_335 hm_336) ⟨rfl, rfl⟩ (by decide +kernel) ⟨Nat.le_of_ble_eq_true rfl, Nat.le_of_ble_eq_true rfl⟩ ⟨Nat.zero_le _, Nat.zero_le _⟩ hl.1 rfl rfl (Nat.le_of_ble_eq_true rfl) dX7_bestPlace_11 (fun v_11 H locs hv_11 hp => ?_)
  rw [hv_11] at hp
  refine lv_aload_n hx hb dX7_bestPlace_14 rfl (lv_at hl 0 rfl) ?_
  refine hh_get C0 hp (C := RX7) (T := TX7) (N := 4) (ci := 7) (by decide) hh_E_0 rfl hh_uX7 0 (by decide) hm_310 rfl rfl dX7_bestPlace_15 ?_
  refine hh_get C0 hp (C := RX4) (T := TX4) (N := 3) (ci := 4) (by decide) hh_E_1 rfl hh_uX4 2 (by decide) hm_324 rfl rfl dX7_bestPlace_18 ?_
  refine lv_bipush (v := 6) hx hb dX7_bestPlace_21 (by decide) ?_
  refine lv_icmp_lt (tgt := 28) hx hb dX7_bestPlace_23 (by decide) (fun c_23 => ?_) (fun c_23 => ?_)
  · refine lv_aload_n hx hb dX7_bestPlace_28 rfl (lv_at hl 0 rfl) ?_
    refine hh_get C0 hp (C := RX7) (T := TX7) (N := 4) (ci := 7) (by decide) hh_E_0 rfl hh_uX7 3 (by decide) hm_317 rfl rfl dX7_bestPlace_29 ?_
    refine lv_aload_n hx hb dX7_bestPlace_32 rfl (lv_at hl 0 rfl) ?_
    refine hh_get C0 hp (C := RX7) (T := TX7) (N := 4) (ci := 7) (by decide) hh_E_0 rfl hh_uX7 1 (by decide) hm_313 rfl rfl dX7_bestPlace_33 ?_
    refine lv_iload_n hx hb dX7_bestPlace_36 rfl (lv_at hl 2 rfl) ?_
    refine hh_cVv C0 hp (As := [.ref (ad (hh_rI 0)), .int fr]) (rest := []) (C := RX6) (T := TX6) (N := 3) (ci := 6) (n := 2) (hk_X6_take l D K ad hT 0 fr (by decide : 0 < 2)) rfl (by decide) hh_E_4 (hh_gV hm_439 hm_440 hm_441 hm_288 hm_282) ⟨rfl, rfl⟩ (by decide +kernel) ⟨Nat.le_of_ble_eq_true rfl, Nat.le_of_ble_eq_true rfl⟩ ⟨Nat.zero_le _, Nat.zero_le _⟩ hl.1 rfl rfl (Nat.le_of_ble_eq_true rfl) dX7_bestPlace_37 (fun v_37 H locs hv_37 hp => ?_)
    obtain ⟨ev_37, hTv_37⟩ := hv_37
    refine lv_aload_n hx hb dX7_bestPlace_40 rfl (lv_at hl 0 rfl) ?_
    refine hh_get C0 hp (C := RX7) (T := TX7) (N := 4) (ci := 7) (by decide) hh_E_0 rfl hh_uX7 3 (by decide) hm_317 rfl rfl dX7_bestPlace_41 ?_
    refine lv_iload_n hx hb dX7_bestPlace_44 rfl (lv_at hl 1 rfl) ?_
    refine hh_cVi C0 hp (As := [.int pw]) (rest := []) (C := RX6) (T := TX6) (N := 3) (ci := 6) (n := 1) (hk_X6_placeFor l D K ad hTv_37 pw) rfl (by decide) hh_E_4 (hh_gV hm_442 hm_443 hm_444 hm_288 hm_298) ⟨rfl, rfl⟩ (by decide +kernel) ⟨Nat.le_of_ble_eq_true rfl, Nat.le_of_ble_eq_true rfl⟩ ⟨Nat.zero_le _, Nat.zero_le _⟩ hl.1 rfl rfl (Nat.le_of_ble_eq_true rfl) dX7_bestPlace_45 (fun q_45 v_45 H locs hv_45 hp => ?_)
    obtain ⟨eq_45, hv9, hpq_45a⟩ := hv_45
    rw [hv9] at hp; clear hv9
    exact hh_iret C0 hp dX7_bestPlace_48 ⟨(by show (_, _) = _; unfold hf_X7_bestPlace; rw [if_pos c_23, hh_let_eq ev_37, hh_let_eq eq_45]), hTv_37, (by assumption)⟩
  · refine lv_iconst (v := (-1)) hx hb dX7_bestPlace_26 (by decide) ?_
    exact hh_iret C0 hp dX7_bestPlace_27 ⟨(by show (_, _) = _; unfold hf_X7_bestPlace; rw [if_neg c_23]), hT, (hh_rg0 (by decide))⟩
end
