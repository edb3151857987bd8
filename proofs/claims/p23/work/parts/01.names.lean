/-! names, decode rows and words of the class, taken by program (wip/gen/mk01.py) out of the names that the task prints -/
def RX0 : String := "Handoverhouse$Call"
def TX0 : u_T := fun k => match k with
  | 0 => ("Handoverhouse$Call", "caller", "LHandoverhouse$Leg;", true)
  | 1 => ("Handoverhouse$Call", "other", "LHandoverhouse$Leg;", true)
  | 2 => ("Handoverhouse$Call", "seconds", "I", false)
  | 3 => ("Handoverhouse$Call", "paid", "I", false)
  | 4 => ("Handoverhouse$Call", "handovers", "I", false)
  | 5 => ("Handoverhouse$Call", "pingPongs", "I", false)
  | _ => ("Handoverhouse$Call", "ended", "I", false)
def tyX0 : Nat → FieldType := fun k => match k with
  | 0 => .object "Handoverhouse$Leg"
  | 1 => .object "Handoverhouse$Leg"
  | 2 => .int
  | 3 => .int
  | 4 => .int
  | 5 => .int
  | _ => .int
abbrev wsX00 : List Cond := u_ws RX0 TX0 7
theorem nmX0 : ∀ a, a < 7 → ∀ b, b < 7 → a ≠ b → (TX0 a).2.1 ≠ (TX0 b).2.1 := by decide +kernel
theorem tyX0_ok : ∀ k, k < 7 → parseFieldDescriptor (TX0 k).2.2.1 = some (tyX0 k) := by decide +kernel
abbrev cX0_init : ByteArray := prog_2_method_1_code
def yX0_init : MethodName := ⟨RX0, "<init>", "()V"⟩
abbrev cX0_hasLegOn : ByteArray := prog_2_method_2_code
def yX0_hasLegOn : MethodName := ⟨RX0, "hasLegOn", "(I)Z"⟩
abbrev cX0_copyFrom : ByteArray := prog_2_method_3_code
def yX0_copyFrom : MethodName := ⟨RX0, "copyFrom", "(LHandoverhouse$Call;)V"⟩
abbrev cX0_fact : ByteArray := prog_2_method_4_code
def yX0_fact : MethodName := ⟨RX0, "fact", "(I)I"⟩
def RX1 : String := "Handoverhouse$Handset"
def TX1 : u_T := fun k => match k with
  | 0 => ("Handoverhouse$Handset", "operator", "I", false)
  | 1 => ("Handoverhouse$Handset", "place", "I", false)
  | 2 => ("Handoverhouse$Handset", "speed", "I", false)
  | 3 => ("Handoverhouse$Handset", "balance", "I", false)
  | 4 => ("Handoverhouse$Handset", "on", "Z", false)
  | 5 => ("Handoverhouse$Handset", "mast", "I", false)
  | 6 => ("Handoverhouse$Handset", "call", "I", false)
  | 7 => ("Handoverhouse$Handset", "knownArea", "I", false)
  | 8 => ("Handoverhouse$Handset", "toldArea", "I", false)
  | 9 => ("Handoverhouse$Handset", "toldAt", "I", false)
  | 10 => ("Handoverhouse$Handset", "updates", "I", false)
  | 11 => ("Handoverhouse$Handset", "textsGot", "I", false)
  | _ => ("Handoverhouse$Handset", "textsWaiting", "I", false)
def tyX1 : Nat → FieldType := fun k => match k with
  | 0 => .int
  | 1 => .int
  | 2 => .int
  | 3 => .int
  | 4 => .boolean
  | 5 => .int
  | 6 => .int
  | 7 => .int
  | 8 => .int
  | 9 => .int
  | 10 => .int
  | 11 => .int
  | _ => .int
abbrev wsX10 : List Cond := u_ws RX1 TX1 13
theorem nmX1 : ∀ a, a < 13 → ∀ b, b < 13 → a ≠ b → (TX1 a).2.1 ≠ (TX1 b).2.1 := by decide +kernel
theorem tyX1_ok : ∀ k, k < 13 → parseFieldDescriptor (TX1 k).2.2.1 = some (tyX1 k) := by decide +kernel
abbrev cX1_init : ByteArray := prog_3_method_1_code
def yX1_init : MethodName := ⟨RX1, "<init>", "()V"⟩
abbrev cX1_isIdle : ByteArray := prog_3_method_2_code
def yX1_isIdle : MethodName := ⟨RX1, "isIdle", "()Z"⟩
abbrev cX1_move : ByteArray := prog_3_method_3_code
def yX1_move : MethodName := ⟨RX1, "move", "()V"⟩
abbrev cX1_tell : ByteArray := prog_3_method_4_code
def yX1_tell : MethodName := ⟨RX1, "tell", "(II)V"⟩
abbrev cX1_copyFrom : ByteArray := prog_3_method_5_code
def yX1_copyFrom : MethodName := ⟨RX1, "copyFrom", "(LHandoverhouse$Handset;)V"⟩
abbrev cX1_fact : ByteArray := prog_3_method_6_code
def yX1_fact : MethodName := ⟨RX1, "fact", "(I)I"⟩
def RX2 : String := "Handoverhouse$Leg"
def TX2 : u_T := fun k => match k with
  | 0 => ("Handoverhouse$Leg", "handset", "I", false)
  | 1 => ("Handoverhouse$Leg", "mast", "I", false)
  | 2 => ("Handoverhouse$Leg", "waits", "I", false)
  | 3 => ("Handoverhouse$Leg", "bad", "I", false)
  | 4 => ("Handoverhouse$Leg", "leftMast", "I", false)
  | _ => ("Handoverhouse$Leg", "leftAt", "I", false)
def tyX2 : Nat → FieldType := fun k => match k with
  | 0 => .int
  | 1 => .int
  | 2 => .int
  | 3 => .int
  | 4 => .int
  | _ => .int
abbrev wsX20 : List Cond := u_ws RX2 TX2 6
theorem nmX2 : ∀ a, a < 6 → ∀ b, b < 6 → a ≠ b → (TX2 a).2.1 ≠ (TX2 b).2.1 := by decide +kernel
theorem tyX2_ok : ∀ k, k < 6 → parseFieldDescriptor (TX2 k).2.2.1 = some (tyX2 k) := by decide +kernel
abbrev cX2_init : ByteArray := prog_4_method_1_code
def yX2_init : MethodName := ⟨RX2, "<init>", "()V"⟩
abbrev cX2_isUsed : ByteArray := prog_4_method_2_code
def yX2_isUsed : MethodName := ⟨RX2, "isUsed", "()Z"⟩
abbrev cX2_copyFrom : ByteArray := prog_4_method_3_code
def yX2_copyFrom : MethodName := ⟨RX2, "copyFrom", "(LHandoverhouse$Leg;)V"⟩
def RX3 : String := "Handoverhouse$Mast"
def TX3 : u_T := fun k => match k with
  | 0 => ("Handoverhouse$Mast", "place", "I", false)
  | 1 => ("Handoverhouse$Mast", "power", "I", false)
  | 2 => ("Handoverhouse$Mast", "frequency", "I", false)
  | 3 => ("Handoverhouse$Mast", "channels", "I", false)
  | 4 => ("Handoverhouse$Mast", "area", "I", false)
  | 5 => ("Handoverhouse$Mast", "operator", "I", false)
  | _ => ("Handoverhouse$Mast", "awake", "Z", false)
def tyX3 : Nat → FieldType := fun k => match k with
  | 0 => .int
  | 1 => .int
  | 2 => .int
  | 3 => .int
  | 4 => .int
  | 5 => .int
  | _ => .boolean
abbrev wsX30 : List Cond := u_ws RX3 TX3 7
theorem nmX3 : ∀ a, a < 7 → ∀ b, b < 7 → a ≠ b → (TX3 a).2.1 ≠ (TX3 b).2.1 := by decide +kernel
theorem tyX3_ok : ∀ k, k < 7 → parseFieldDescriptor (TX3 k).2.2.1 = some (tyX3 k) := by decide +kernel
abbrev cX3_init : ByteArray := prog_5_method_1_code
def yX3_init : MethodName := ⟨RX3, "<init>", "()V"⟩
abbrev cX3_distanceTo : ByteArray := prog_5_method_2_code
def yX3_distanceTo : MethodName := ⟨RX3, "distanceTo", "(I)I"⟩
abbrev cX3_noiseAt : ByteArray := prog_5_method_3_code
def yX3_noiseAt : MethodName := ⟨RX3, "noiseAt", "(I)I"⟩
abbrev cX3_fact : ByteArray := prog_5_method_4_code
def yX3_fact : MethodName := ⟨RX3, "fact", "(I)I"⟩
def RX4 : String := "Handoverhouse$Masts"
def TX4 : u_T := fun k => match k with
  | 0 => ("Handoverhouse$Masts", "all", "[LHandoverhouse$Mast;", true)
  | 1 => ("Handoverhouse$Masts", "bareQuality", "[[I", true)
  | _ => ("Handoverhouse$Masts", "count", "I", false)
def tyX4 : Nat → FieldType := fun k => match k with
  | 0 => .array (.object "Handoverhouse$Mast")
  | 1 => .array (.array .int)
  | _ => .int
abbrev wsX40 : List Cond := u_ws RX4 TX4 3
theorem nmX4 : ∀ a, a < 3 → ∀ b, b < 3 → a ≠ b → (TX4 a).2.1 ≠ (TX4 b).2.1 := by decide +kernel
theorem tyX4_ok : ∀ k, k < 3 → parseFieldDescriptor (TX4 k).2.2.1 = some (tyX4 k) := by decide +kernel
abbrev cX4_init : ByteArray := prog_6_method_1_code
def yX4_init : MethodName := ⟨RX4, "<init>", "()V"⟩
abbrev cX4_measure : ByteArray := prog_6_method_2_code
def yX4_measure : MethodName := ⟨RX4, "measure", "()V"⟩
abbrev cX4_measureOne : ByteArray := prog_6_method_3_code
def yX4_measureOne : MethodName := ⟨RX4, "measureOne", "(II)I"⟩
abbrev cX4_awakeInArea : ByteArray := prog_6_method_4_code
def yX4_awakeInArea : MethodName := ⟨RX4, "awakeInArea", "(I)I"⟩
abbrev cX4_awake : ByteArray := prog_6_method_5_code
def yX4_awake : MethodName := ⟨RX4, "awake", "()I"⟩
def RX5 : String := "Handoverhouse$Road"
def TX5 : u_T := fun k => match k with
  | 0 => ("Handoverhouse$Road", "masts", "LHandoverhouse$Masts;", true)
  | 1 => ("Handoverhouse$Road", "load", "[I", true)
  | 2 => ("Handoverhouse$Road", "carried", "[I", true)
  | 3 => ("Handoverhouse$Road", "handsets", "[LHandoverhouse$Handset;", true)
  | 4 => ("Handoverhouse$Road", "calls", "[LHandoverhouse$Call;", true)
  | 5 => ("Handoverhouse$Road", "handsetCount", "I", false)
  | 6 => ("Handoverhouse$Road", "callCount", "I", false)
  | 7 => ("Handoverhouse$Road", "textCount", "I", false)
  | 8 => ("Handoverhouse$Road", "now", "I", false)
  | _ => ("Handoverhouse$Road", "pages", "I", false)
def tyX5 : Nat → FieldType := fun k => match k with
  | 0 => .object "Handoverhouse$Masts"
  | 1 => .array .int
  | 2 => .array .int
  | 3 => .array (.object "Handoverhouse$Handset")
  | 4 => .array (.object "Handoverhouse$Call")
  | 5 => .int
  | 6 => .int
  | 7 => .int
  | 8 => .int
  | _ => .int
abbrev wsX50 : List Cond := u_ws RX5 TX5 10
theorem nmX5 : ∀ a, a < 10 → ∀ b, b < 10 → a ≠ b → (TX5 a).2.1 ≠ (TX5 b).2.1 := by decide +kernel
theorem tyX5_ok : ∀ k, k < 10 → parseFieldDescriptor (TX5 k).2.2.1 = some (tyX5 k) := by decide +kernel
abbrev cX5_init : ByteArray := prog_7_method_1_code
def yX5_init : MethodName := ⟨RX5, "<init>", "(LHandoverhouse$Masts;)V"⟩
abbrev cX5_copyFrom : ByteArray := prog_7_method_2_code
def yX5_copyFrom : MethodName := ⟨RX5, "copyFrom", "(LHandoverhouse$Road;)V"⟩
abbrev cX5_qualityAt : ByteArray := prog_7_method_3_code
def yX5_qualityAt : MethodName := ⟨RX5, "qualityAt", "(II)I"⟩
abbrev cX5_isHeard : ByteArray := prog_7_method_4_code
def yX5_isHeard : MethodName := ⟨RX5, "isHeard", "(II)Z"⟩
abbrev cX5_bestHeardAt : ByteArray := prog_7_method_5_code
def yX5_bestHeardAt : MethodName := ⟨RX5, "bestHeardAt", "(I)I"⟩
abbrev cX5_placesHeardWell : ByteArray := prog_7_method_6_code
def yX5_placesHeardWell : MethodName := ⟨RX5, "placesHeardWell", "()I"⟩
abbrev cX5_hasFreeChannels : ByteArray := prog_7_method_7_code
def yX5_hasFreeChannels : MethodName := ⟨RX5, "hasFreeChannels", "(II)Z"⟩
abbrev cX5_page : ByteArray := prog_7_method_8_code
def yX5_page : MethodName := ⟨RX5, "page", "(LHandoverhouse$Handset;)Z"⟩
abbrev cX5_isInArea : ByteArray := prog_7_method_9_code
def yX5_isInArea : MethodName := ⟨RX5, "isInArea", "(LHandoverhouse$Handset;I)Z"⟩
abbrev cX5_wouldBeFound : ByteArray := prog_7_method_10_code
def yX5_wouldBeFound : MethodName := ⟨RX5, "wouldBeFound", "(LHandoverhouse$Handset;)Z"⟩
abbrev cX5_handsetsToBeFound : ByteArray := prog_7_method_11_code
def yX5_handsetsToBeFound : MethodName := ⟨RX5, "handsetsToBeFound", "()I"⟩
abbrev cX5_forgetAreas : ByteArray := prog_7_method_12_code
def yX5_forgetAreas : MethodName := ⟨RX5, "forgetAreas", "()I"⟩
abbrev cX5_second : ByteArray := prog_7_method_13_code
def yX5_second : MethodName := ⟨RX5, "second", "()V"⟩
abbrev cX5_chooseMast : ByteArray := prog_7_method_14_code
def yX5_chooseMast : MethodName := ⟨RX5, "chooseMast", "(LHandoverhouse$Handset;)V"⟩
abbrev cX5_tellArea : ByteArray := prog_7_method_15_code
def yX5_tellArea : MethodName := ⟨RX5, "tellArea", "(LHandoverhouse$Handset;)V"⟩
abbrev cX5_lookAtLeg : ByteArray := prog_7_method_16_code
def yX5_lookAtLeg : MethodName := ⟨RX5, "lookAtLeg", "(LHandoverhouse$Call;LHandoverhouse$Leg;)V"⟩
abbrev cX5_isMuchBetter : ByteArray := prog_7_method_17_code
def yX5_isMuchBetter : MethodName := ⟨RX5, "isMuchBetter", "(III)Z"⟩
abbrev cX5_candidateFor : ByteArray := prog_7_method_18_code
def yX5_candidateFor : MethodName := ⟨RX5, "candidateFor", "(II)I"⟩
abbrev cX5_handOver : ByteArray := prog_7_method_19_code
def yX5_handOver : MethodName := ⟨RX5, "handOver", "(LHandoverhouse$Call;LHandoverhouse$Leg;I)V"⟩
abbrev cX5_charge : ByteArray := prog_7_method_20_code
def yX5_charge : MethodName := ⟨RX5, "charge", "(LHandoverhouse$Call;)V"⟩
abbrev cX5_carry : ByteArray := prog_7_method_21_code
def yX5_carry : MethodName := ⟨RX5, "carry", "(LHandoverhouse$Leg;)V"⟩
abbrev cX5_price : ByteArray := prog_7_method_22_code
def yX5_price : MethodName := ⟨RX5, "price", "(LHandoverhouse$Call;LHandoverhouse$Handset;)I"⟩
abbrev cX5_deliverTexts : ByteArray := prog_7_method_23_code
def yX5_deliverTexts : MethodName := ⟨RX5, "deliverTexts", "(LHandoverhouse$Handset;)V"⟩
abbrev cX5_tryCall : ByteArray := prog_7_method_24_code
def yX5_tryCall : MethodName := ⟨RX5, "tryCall", "(II)I"⟩
abbrev cX5_tryEmergency : ByteArray := prog_7_method_25_code
def yX5_tryEmergency : MethodName := ⟨RX5, "tryEmergency", "(I)I"⟩
abbrev cX5_join : ByteArray := prog_7_method_26_code
def yX5_join : MethodName := ⟨RX5, "join", "(LHandoverhouse$Leg;I)V"⟩
abbrev cX5_callToPush : ByteArray := prog_7_method_27_code
def yX5_callToPush : MethodName := ⟨RX5, "callToPush", "(I)I"⟩
abbrev cX5_end : ByteArray := prog_7_method_28_code
def yX5_end : MethodName := ⟨RX5, "end", "(LHandoverhouse$Call;I)V"⟩
abbrev cX5_release : ByteArray := prog_7_method_29_code
def yX5_release : MethodName := ⟨RX5, "release", "(LHandoverhouse$Leg;)V"⟩
abbrev cX5_switchOff : ByteArray := prog_7_method_30_code
def yX5_switchOff : MethodName := ⟨RX5, "switchOff", "(LHandoverhouse$Handset;)V"⟩
abbrev cX5_sendAway : ByteArray := prog_7_method_31_code
def yX5_sendAway : MethodName := ⟨RX5, "sendAway", "(I)V"⟩
abbrev cX5_campersOn : ByteArray := prog_7_method_32_code
def yX5_campersOn : MethodName := ⟨RX5, "campersOn", "(I)I"⟩
abbrev cX5_callsThat : ByteArray := prog_7_method_33_code
def yX5_callsThat : MethodName := ⟨RX5, "callsThat", "(I)I"⟩
abbrev cX5_sumOfCalls : ByteArray := prog_7_method_34_code
def yX5_sumOfCalls : MethodName := ⟨RX5, "sumOfCalls", "(I)I"⟩
abbrev cX5_sumOfHandsets : ByteArray := prog_7_method_35_code
def yX5_sumOfHandsets : MethodName := ⟨RX5, "sumOfHandsets", "(I)I"⟩
abbrev cX5_secondsOfEndedCalls : ByteArray := prog_7_method_36_code
def yX5_secondsOfEndedCalls : MethodName := ⟨RX5, "secondsOfEndedCalls", "()I"⟩
def RX6 : String := "Handoverhouse$Survey"
def TX6 : u_T := fun k => match k with
  | 0 => ("Handoverhouse$Survey", "undisturbed", "[I", true)
  | 1 => ("Handoverhouse$Survey", "disturbed", "[I", true)
  | _ => ("Handoverhouse$Survey", "noise", "[I", true)
def tyX6 : Nat → FieldType := fun k => match k with
  | 0 => .array .int
  | 1 => .array .int
  | _ => .array .int
abbrev wsX60 : List Cond := u_ws RX6 TX6 3
theorem nmX6 : ∀ a, a < 3 → ∀ b, b < 3 → a ≠ b → (TX6 a).2.1 ≠ (TX6 b).2.1 := by decide +kernel
theorem tyX6_ok : ∀ k, k < 3 → parseFieldDescriptor (TX6 k).2.2.1 = some (tyX6 k) := by decide +kernel
abbrev cX6_init : ByteArray := prog_8_method_1_code
def yX6_init : MethodName := ⟨RX6, "<init>", "()V"⟩
abbrev cX6_take : ByteArray := prog_8_method_2_code
def yX6_take : MethodName := ⟨RX6, "take", "(LHandoverhouse$Road;I)V"⟩
abbrev cX6_takeMast : ByteArray := prog_8_method_3_code
def yX6_takeMast : MethodName := ⟨RX6, "takeMast", "(LHandoverhouse$Road;III)V"⟩
abbrev cX6_placeFor : ByteArray := prog_8_method_4_code
def yX6_placeFor : MethodName := ⟨RX6, "placeFor", "(I)I"⟩
abbrev cX6_servedFrom : ByteArray := prog_8_method_5_code
def yX6_servedFrom : MethodName := ⟨RX6, "servedFrom", "(II)I"⟩
def RX7 : String := "Handoverhouse"
def TX7 : u_T := fun k => match k with
  | 0 => ("Handoverhouse", "masts", "LHandoverhouse$Masts;", true)
  | 1 => ("Handoverhouse", "road", "LHandoverhouse$Road;", true)
  | 2 => ("Handoverhouse", "trial", "LHandoverhouse$Road;", true)
  | _ => ("Handoverhouse", "survey", "LHandoverhouse$Survey;", true)
def tyX7 : Nat → FieldType := fun k => match k with
  | 0 => .object "Handoverhouse$Masts"
  | 1 => .object "Handoverhouse$Road"
  | 2 => .object "Handoverhouse$Road"
  | _ => .object "Handoverhouse$Survey"
abbrev wsX70 : List Cond := u_ws RX7 TX7 4
theorem nmX7 : ∀ a, a < 4 → ∀ b, b < 4 → a ≠ b → (TX7 a).2.1 ≠ (TX7 b).2.1 := by decide +kernel
theorem tyX7_ok : ∀ k, k < 4 → parseFieldDescriptor (TX7 k).2.2.1 = some (tyX7 k) := by decide +kernel
abbrev cX7_init : ByteArray := prog_1_method_1_code
def yX7_init : MethodName := ⟨RX7, "<init>", "()V"⟩
abbrev cX7_mast : ByteArray := prog_1_method_2_code
def yX7_mast : MethodName := ⟨RX7, "mast", "(IIIIII)I"⟩
abbrev cX7_handset : ByteArray := prog_1_method_3_code
def yX7_handset : MethodName := ⟨RX7, "handset", "(IIII)I"⟩
abbrev cX7_speed : ByteArray := prog_1_method_4_code
def yX7_speed : MethodName := ⟨RX7, "speed", "(II)I"⟩
abbrev cX7_top : ByteArray := prog_1_method_5_code
def yX7_top : MethodName := ⟨RX7, "top", "(II)I"⟩
abbrev cX7_turn : ByteArray := prog_1_method_6_code
def yX7_turn : MethodName := ⟨RX7, "turn", "(IZ)Z"⟩
abbrev cX7_wake : ByteArray := prog_1_method_7_code
def yX7_wake : MethodName := ⟨RX7, "wake", "(IZ)Z"⟩
abbrev cX7_call : ByteArray := prog_1_method_8_code
def yX7_call : MethodName := ⟨RX7, "call", "(II)I"⟩
abbrev cX7_emergency : ByteArray := prog_1_method_9_code
def yX7_emergency : MethodName := ⟨RX7, "emergency", "(I)I"⟩
abbrev cX7_hang : ByteArray := prog_1_method_10_code
def yX7_hang : MethodName := ⟨RX7, "hang", "(I)I"⟩
abbrev cX7_text : ByteArray := prog_1_method_11_code
def yX7_text : MethodName := ⟨RX7, "text", "(II)I"⟩
abbrev cX7_forget : ByteArray := prog_1_method_12_code
def yX7_forget : MethodName := ⟨RX7, "forget", "()I"⟩
abbrev cX7_pass : ByteArray := prog_1_method_13_code
def yX7_pass : MethodName := ⟨RX7, "pass", "(I)I"⟩
abbrev cX7_quality : ByteArray := prog_1_method_14_code
def yX7_quality : MethodName := ⟨RX7, "quality", "(II)I"⟩
abbrev cX7_best : ByteArray := prog_1_method_15_code
def yX7_best : MethodName := ⟨RX7, "best", "(I)I"⟩
abbrev cX7_ofMast : ByteArray := prog_1_method_16_code
def yX7_ofMast : MethodName := ⟨RX7, "ofMast", "(II)I"⟩
abbrev cX7_ofHandset : ByteArray := prog_1_method_17_code
def yX7_ofHandset : MethodName := ⟨RX7, "ofHandset", "(II)I"⟩
abbrev cX7_ofCall : ByteArray := prog_1_method_18_code
def yX7_ofCall : MethodName := ⟨RX7, "ofCall", "(II)I"⟩
abbrev cX7_many : ByteArray := prog_1_method_19_code
def yX7_many : MethodName := ⟨RX7, "many", "(I)I"⟩
abbrev cX7_meanSeconds : ByteArray := prog_1_method_20_code
def yX7_meanSeconds : MethodName := ⟨RX7, "meanSeconds", "()D"⟩
abbrev cX7_endsIn : ByteArray := prog_1_method_21_code
def yX7_endsIn : MethodName := ⟨RX7, "endsIn", "(II)I"⟩
abbrev cX7_wouldBeOn : ByteArray := prog_1_method_22_code
def yX7_wouldBeOn : MethodName := ⟨RX7, "wouldBeOn", "(II)I"⟩
abbrev cX7_bestPlace : ByteArray := prog_1_method_23_code
def yX7_bestPlace : MethodName := ⟨RX7, "bestPlace", "(II)I"⟩
abbrev cX7_digest : ByteArray := prog_1_method_24_code
def yX7_digest : MethodName := ⟨RX7, "digest", "()J"⟩
abbrev cX7_addMasts : ByteArray := prog_1_method_25_code
def yX7_addMasts : MethodName := ⟨RX7, "addMasts", "(J)J"⟩
abbrev cX7_addHandsets : ByteArray := prog_1_method_26_code
def yX7_addHandsets : MethodName := ⟨RX7, "addHandsets", "(J)J"⟩
abbrev cX7_addCalls : ByteArray := prog_1_method_27_code
def yX7_addCalls : MethodName := ⟨RX7, "addCalls", "(J)J"⟩
abbrev cX7_demandNumber : ByteArray := prog_1_method_28_code
def yX7_demandNumber : MethodName := ⟨RX7, "demandNumber", "(II)V"⟩
abbrev cX7_demandWithin : ByteArray := prog_1_method_29_code
def yX7_demandWithin : MethodName := ⟨RX7, "demandWithin", "(III)V"⟩
abbrev cX7_demandOthers : ByteArray := prog_1_method_30_code
def yX7_demandOthers : MethodName := ⟨RX7, "demandOthers", "(II)V"⟩
abbrev cX7_demandRoomForCall : ByteArray := prog_1_method_31_code
def yX7_demandRoomForCall : MethodName := ⟨RX7, "demandRoomForCall", "()V"⟩
def hh_w0 : List Cond := [.code yX0_init cX0_init 1 none, .methodLink RX0 3 objectInit, .instanceMethod objectInit, .code objectInit ⟨#[0xb1]⟩ 1 none, .classLink RX0 9 RX2, .instantiable RX2 6, .initialized RX2, .fieldLink RX0 12 "Handoverhouse$Call" "caller" "LHandoverhouse$Leg;", .fieldLink RX0 18 "Handoverhouse$Call" "other" "LHandoverhouse$Leg;", .fieldLink RX0 21 "Handoverhouse$Call" "ended" "I", .instanceMethod yX2_init, .code yX2_init cX2_init 1 none, .methodLink RX2 3 objectInit, .fieldLink RX2 9 "Handoverhouse$Leg" "handset" "I", .fieldLink RX2 15 "Handoverhouse$Leg" "mast" "I", .fieldLink RX2 18 "Handoverhouse$Leg" "leftMast" "I", .code yX0_hasLegOn cX0_hasLegOn 2 (some .boolean), .fieldLink RX0 25 "Handoverhouse$Leg" "mast" "I", .code yX0_copyFrom cX0_copyFrom 2 none, .fieldLink RX0 32 "Handoverhouse$Call" "seconds" "I", .fieldLink RX0 35 "Handoverhouse$Call" "paid" "I", .fieldLink RX0 38 "Handoverhouse$Call" "handovers" "I", .fieldLink RX0 41 "Handoverhouse$Call" "pingPongs" "I", .methodLink RX0 28 yX2_copyFrom, .instanceMethod yX2_copyFrom, .selects RX2 yX2_copyFrom yX2_copyFrom, .code yX2_copyFrom cX2_copyFrom 2 none, .fieldLink RX2 21 "Handoverhouse$Leg" "waits" "I", .fieldLink RX2 24 "Handoverhouse$Leg" "bad" "I", .fieldLink RX2 27 "Handoverhouse$Leg" "leftAt" "I", .code yX0_fact cX0_fact 2 (some .int), .fieldLink RX0 44 "Handoverhouse$Leg" "handset" "I", .code yX1_init cX1_init 1 none, .methodLink RX1 3 objectInit, .fieldLink RX1 9 "Handoverhouse$Handset" "mast" "I", .fieldLink RX1 15 "Handoverhouse$Handset" "call" "I", .fieldLink RX1 18 "Handoverhouse$Handset" "knownArea" "I", .fieldLink RX1 21 "Handoverhouse$Handset" "toldArea" "I", .code yX1_isIdle cX1_isIdle 1 (some .boolean), .fieldLink RX1 24 "Handoverhouse$Handset" "on" "Z"]
def hh_w1 : List Cond := [.code yX1_move cX1_move 1 none, .fieldLink RX1 28 "Handoverhouse$Handset" "place" "I", .fieldLink RX1 31 "Handoverhouse$Handset" "speed" "I", .code yX1_tell cX1_tell 3 none, .fieldLink RX1 34 "Handoverhouse$Handset" "toldAt" "I", .fieldLink RX1 37 "Handoverhouse$Handset" "updates" "I", .code yX1_copyFrom cX1_copyFrom 2 none, .fieldLink RX1 40 "Handoverhouse$Handset" "operator" "I", .fieldLink RX1 43 "Handoverhouse$Handset" "balance" "I", .fieldLink RX1 46 "Handoverhouse$Handset" "textsGot" "I", .fieldLink RX1 49 "Handoverhouse$Handset" "textsWaiting" "I", .code yX1_fact cX1_fact 2 (some .int), .code yX2_isUsed cX2_isUsed 1 (some .boolean), .code yX3_init cX3_init 1 none, .methodLink RX3 1 objectInit, .code yX3_distanceTo cX3_distanceTo 2 (some .int), .fieldLink RX3 7 "Handoverhouse$Mast" "place" "I", .code yX3_noiseAt cX3_noiseAt 3 (some .int), .fieldLink RX3 13 "Handoverhouse$Mast" "power" "I", .fieldLink RX3 20 "Handoverhouse$Mast" "awake" "Z", .methodLink RX3 16 yX3_distanceTo, .instanceMethod yX3_distanceTo, .selects RX3 yX3_distanceTo yX3_distanceTo, .initialized RX3, .code yX3_fact cX3_fact 2 (some .int), .fieldLink RX3 24 "Handoverhouse$Mast" "frequency" "I", .fieldLink RX3 27 "Handoverhouse$Mast" "channels" "I", .fieldLink RX3 30 "Handoverhouse$Mast" "area" "I", .fieldLink RX3 33 "Handoverhouse$Mast" "operator" "I", .code yX4_init cX4_init 2 none, .methodLink RX4 3 objectInit, .classLink RX4 9 RX3, .fieldLink RX4 11 "Handoverhouse$Masts" "all" "[LHandoverhouse$Mast;", .instantiable RX3 7, .classLink RX4 18 "[[I", .arrayClass .int, .fieldLink RX4 20 "Handoverhouse$Masts" "bareQuality" "[[I", .instanceMethod yX3_init, .code yX4_measure cX4_measure 3 none, .fieldLink RX4 23 "Handoverhouse$Masts" "count" "I"]
def hh_w2 : List Cond := [.methodLink RX4 27 yX4_measureOne, .instanceMethod yX4_measureOne, .selects RX4 yX4_measureOne yX4_measureOne, .initialized RX4, .code yX4_measureOne cX4_measureOne 6 (some .int), .fieldLink RX4 31 "Handoverhouse$Mast" "awake" "Z", .fieldLink RX4 35 "Handoverhouse$Mast" "power" "I", .fieldLink RX4 42 "Handoverhouse$Mast" "frequency" "I", .methodLink RX4 38 yX3_distanceTo, .methodLink RX4 45 yX3_noiseAt, .instanceMethod yX3_noiseAt, .selects RX3 yX3_noiseAt yX3_noiseAt, .code yX4_awakeInArea cX4_awakeInArea 4 (some .int), .fieldLink RX4 48 "Handoverhouse$Mast" "area" "I", .code yX4_awake cX4_awake 3 (some .int), .code yX5_init cX5_init 3 none, .methodLink RX5 3 objectInit, .fieldLink RX5 9 "Handoverhouse$Road" "masts" "LHandoverhouse$Masts;", .fieldLink RX5 15 "Handoverhouse$Road" "load" "[I", .fieldLink RX5 19 "Handoverhouse$Road" "carried" "[I", .classLink RX5 22 RX1, .fieldLink RX5 24 "Handoverhouse$Road" "handsets" "[LHandoverhouse$Handset;", .instantiable RX1 13, .initialized RX1, .classLink RX5 29 RX0, .fieldLink RX5 31 "Handoverhouse$Road" "calls" "[LHandoverhouse$Call;", .instantiable RX0 7, .initialized RX0, .instanceMethod yX1_init, .instanceMethod yX0_init, .code yX5_copyFrom cX5_copyFrom 3 none, .fieldLink RX5 36 "Handoverhouse$Road" "handsetCount" "I", .fieldLink RX5 44 "Handoverhouse$Road" "callCount" "I", .fieldLink RX5 50 "Handoverhouse$Road" "textCount" "I", .fieldLink RX5 53 "Handoverhouse$Road" "now" "I", .fieldLink RX5 56 "Handoverhouse$Road" "pages" "I", .methodLink RX5 40 yX1_copyFrom, .instanceMethod yX1_copyFrom, .selects RX1 yX1_copyFrom yX1_copyFrom, .methodLink RX5 47 yX0_copyFrom]
def hh_w3 : List Cond := [.instanceMethod yX0_copyFrom, .selects RX0 yX0_copyFrom yX0_copyFrom, .code yX5_qualityAt cX5_qualityAt 3 (some .int), .fieldLink RX5 59 "Handoverhouse$Masts" "bareQuality" "[[I", .code yX5_isHeard cX5_isHeard 3 (some .boolean), .methodLink RX5 65 yX5_qualityAt, .instanceMethod yX5_qualityAt, .selects RX5 yX5_qualityAt yX5_qualityAt, .initialized RX5, .code yX5_bestHeardAt cX5_bestHeardAt 6 (some .int), .fieldLink RX5 69 "Handoverhouse$Masts" "count" "I", .code yX5_placesHeardWell cX5_placesHeardWell 4 (some .int), .methodLink RX5 72 yX5_bestHeardAt, .instanceMethod yX5_bestHeardAt, .selects RX5 yX5_bestHeardAt yX5_bestHeardAt, .code yX5_hasFreeChannels cX5_hasFreeChannels 3 (some .boolean), .fieldLink RX5 76 "Handoverhouse$Masts" "all" "[LHandoverhouse$Mast;", .fieldLink RX5 80 "Handoverhouse$Mast" "channels" "I", .code yX5_page cX5_page 3 (some .boolean), .fieldLink RX5 85 "Handoverhouse$Handset" "knownArea" "I", .fieldLink RX5 92 "Handoverhouse$Handset" "mast" "I", .methodLink RX5 88 yX4_awake, .instanceMethod yX4_awake, .selects RX4 yX4_awake yX4_awake, .methodLink RX5 95 yX4_awakeInArea, .instanceMethod yX4_awakeInArea, .selects RX4 yX4_awakeInArea yX4_awakeInArea, .methodLink RX5 98 yX5_isInArea, .instanceMethod yX5_isInArea, .selects RX5 yX5_isInArea yX5_isInArea, .code yX5_isInArea cX5_isInArea 3 (some .boolean), .fieldLink RX5 102 "Handoverhouse$Mast" "area" "I", .code yX5_wouldBeFound cX5_wouldBeFound 3 (some .boolean), .code yX5_handsetsToBeFound cX5_handsetsToBeFound 3 (some .int), .methodLink RX5 105 yX5_wouldBeFound, .instanceMethod yX5_wouldBeFound, .selects RX5 yX5_wouldBeFound yX5_wouldBeFound, .code yX5_forgetAreas cX5_forgetAreas 3 (some .int), .code yX5_second cX5_second 2 none, .fieldLink RX5 122 "Handoverhouse$Call" "caller" "LHandoverhouse$Leg;"]
def hh_w4 : List Cond := [.fieldLink RX5 130 "Handoverhouse$Call" "other" "LHandoverhouse$Leg;", .methodLink RX5 109 yX1_move, .instanceMethod yX1_move, .selects RX1 yX1_move yX1_move, .methodLink RX5 112 yX1_isIdle, .instanceMethod yX1_isIdle, .selects RX1 yX1_isIdle yX1_isIdle, .methodLink RX5 116 yX5_chooseMast, .instanceMethod yX5_chooseMast, .selects RX5 yX5_chooseMast yX5_chooseMast, .code yX5_chooseMast cX5_chooseMast 5 none, .fieldLink RX5 139 "Handoverhouse$Handset" "place" "I", .methodLink RX5 119 yX5_tellArea, .instanceMethod yX5_tellArea, .selects RX5 yX5_tellArea yX5_tellArea, .code yX5_tellArea cX5_tellArea 3 none, .fieldLink RX5 142 "Handoverhouse$Handset" "toldArea" "I", .fieldLink RX5 145 "Handoverhouse$Handset" "toldAt" "I", .methodLink RX5 148 yX1_tell, .instanceMethod yX1_tell, .selects RX1 yX1_tell yX1_tell, .methodLink RX5 126 yX5_lookAtLeg, .instanceMethod yX5_lookAtLeg, .selects RX5 yX5_lookAtLeg yX5_lookAtLeg, .code yX5_lookAtLeg cX5_lookAtLeg 7 none, .fieldLink RX5 152 "Handoverhouse$Call" "ended" "I", .fieldLink RX5 160 "Handoverhouse$Leg" "handset" "I", .fieldLink RX5 163 "Handoverhouse$Leg" "mast" "I", .fieldLink RX5 175 "Handoverhouse$Leg" "waits" "I", .fieldLink RX5 182 "Handoverhouse$Leg" "bad" "I", .methodLink RX5 155 yX2_isUsed, .instanceMethod yX2_isUsed, .selects RX2 yX2_isUsed yX2_isUsed, .methodLink RX5 164 yX5_candidateFor, .instanceMethod yX5_candidateFor, .selects RX5 yX5_candidateFor yX5_candidateFor, .code yX5_candidateFor cX5_candidateFor 7 (some .int), .fieldLink RX5 189 "Handoverhouse$Mast" "awake" "Z", .methodLink RX5 192 yX5_hasFreeChannels, .instanceMethod yX5_hasFreeChannels]
def hh_w5 : List Cond := [.selects RX5 yX5_hasFreeChannels yX5_hasFreeChannels, .methodLink RX5 167 yX5_isHeard, .instanceMethod yX5_isHeard, .selects RX5 yX5_isHeard yX5_isHeard, .methodLink RX5 171 yX5_isMuchBetter, .instanceMethod yX5_isMuchBetter, .selects RX5 yX5_isMuchBetter yX5_isMuchBetter, .code yX5_isMuchBetter cX5_isMuchBetter 4 (some .boolean), .methodLink RX5 178 yX5_handOver, .instanceMethod yX5_handOver, .selects RX5 yX5_handOver yX5_handOver, .code yX5_handOver cX5_handOver 4 none, .fieldLink RX5 195 "Handoverhouse$Call" "handovers" "I", .fieldLink RX5 198 "Handoverhouse$Leg" "leftMast" "I", .fieldLink RX5 201 "Handoverhouse$Leg" "leftAt" "I", .fieldLink RX5 204 "Handoverhouse$Call" "pingPongs" "I", .methodLink RX5 185 yX5_end, .instanceMethod yX5_end, .selects RX5 yX5_end yX5_end, .code yX5_end cX5_end 3 none, .methodLink RX5 251 yX5_release, .instanceMethod yX5_release, .selects RX5 yX5_release yX5_release, .code yX5_release cX5_release 2 none, .fieldLink RX5 244 "Handoverhouse$Handset" "call" "I", .methodLink RX5 133 yX5_charge, .instanceMethod yX5_charge, .selects RX5 yX5_charge yX5_charge, .code yX5_charge cX5_charge 4 none, .fieldLink RX5 211 "Handoverhouse$Handset" "balance" "I", .fieldLink RX5 214 "Handoverhouse$Call" "paid" "I", .fieldLink RX5 217 "Handoverhouse$Call" "seconds" "I", .methodLink RX5 207 yX5_price, .instanceMethod yX5_price, .selects RX5 yX5_price yX5_price, .code yX5_price cX5_price 3 (some .int), .fieldLink RX5 224 "Handoverhouse$Mast" "operator" "I", .fieldLink RX5 227 "Handoverhouse$Handset" "operator" "I", .methodLink RX5 220 yX5_carry, .instanceMethod yX5_carry]
def hh_w6 : List Cond := [.selects RX5 yX5_carry yX5_carry, .code yX5_carry cX5_carry 2 none, .methodLink RX5 136 yX5_deliverTexts, .instanceMethod yX5_deliverTexts, .selects RX5 yX5_deliverTexts yX5_deliverTexts, .code yX5_deliverTexts cX5_deliverTexts 2 none, .fieldLink RX5 228 "Handoverhouse$Handset" "textsGot" "I", .fieldLink RX5 231 "Handoverhouse$Handset" "textsWaiting" "I", .code yX5_tryCall cX5_tryCall 6 (some .int), .methodLink RX5 234 yX5_page, .instanceMethod yX5_page, .selects RX5 yX5_page yX5_page, .methodLink RX5 237 yX5_join, .instanceMethod yX5_join, .selects RX5 yX5_join yX5_join, .code yX5_join cX5_join 3 none, .code yX5_tryEmergency cX5_tryEmergency 4 (some .int), .methodLink RX5 241 yX5_callToPush, .instanceMethod yX5_callToPush, .selects RX5 yX5_callToPush yX5_callToPush, .code yX5_callToPush cX5_callToPush 4 (some .int), .methodLink RX5 247 yX0_hasLegOn, .instanceMethod yX0_hasLegOn, .selects RX0 yX0_hasLegOn yX0_hasLegOn, .code yX5_switchOff cX5_switchOff 2 none, .code yX5_sendAway cX5_sendAway 3 none, .code yX5_campersOn cX5_campersOn 4 (some .int), .code yX5_callsThat cX5_callsThat 4 (some .int), .code yX5_sumOfCalls cX5_sumOfCalls 4 (some .int), .methodLink RX5 254 yX0_fact, .instanceMethod yX0_fact, .selects RX0 yX0_fact yX0_fact, .code yX5_sumOfHandsets cX5_sumOfHandsets 4 (some .int), .methodLink RX5 257 yX1_fact, .instanceMethod yX1_fact, .selects RX1 yX1_fact yX1_fact, .code yX5_secondsOfEndedCalls cX5_secondsOfEndedCalls 3 (some .int), .code yX6_init cX6_init 1 none, .methodLink RX6 3 objectInit, .fieldLink RX6 9 "Handoverhouse$Survey" "undisturbed" "[I"]
def hh_w7 : List Cond := [.fieldLink RX6 15 "Handoverhouse$Survey" "disturbed" "[I", .fieldLink RX6 18 "Handoverhouse$Survey" "noise" "[I", .code yX6_take cX6_take 5 none, .fieldLink RX6 21 "Handoverhouse$Road" "masts" "LHandoverhouse$Masts;", .fieldLink RX6 27 "Handoverhouse$Masts" "count" "I", .methodLink RX6 33 yX6_takeMast, .instanceMethod yX6_takeMast, .selects RX6 yX6_takeMast yX6_takeMast, .initialized RX6, .code yX6_takeMast cX6_takeMast 7 none, .fieldLink RX6 37 "Handoverhouse$Masts" "all" "[LHandoverhouse$Mast;", .fieldLink RX6 45 "Handoverhouse$Mast" "frequency" "I", .methodLink RX6 50 Lib.Math.max.name, .static Lib.Math.max.name, .initialized "java/lang/Math", .code Lib.Math.max.name Lib.Math.max.code 2 (some .int), .methodLink RX6 41 yX5_qualityAt, .methodLink RX6 55 yX3_noiseAt, .code yX6_placeFor cX6_placeFor 6 (some .int), .methodLink RX6 59 yX6_servedFrom, .instanceMethod yX6_servedFrom, .selects RX6 yX6_servedFrom yX6_servedFrom, .code yX6_servedFrom cX6_servedFrom 7 (some .int), .methodLink RX6 62 Lib.Math.abs.name, .static Lib.Math.abs.name, .code Lib.Math.abs.name Lib.Math.abs.code 1 (some .int), .code yX7_init cX7_init 1 none, .methodLink RX7 1 objectInit, .classLink RX7 7 RX4, .instantiable RX4 3, .fieldLink RX7 10 "Handoverhouse" "masts" "LHandoverhouse$Masts;", .classLink RX7 16 RX5, .instantiable RX5 10, .fieldLink RX7 21 "Handoverhouse" "road" "LHandoverhouse$Road;", .fieldLink RX7 25 "Handoverhouse" "trial" "LHandoverhouse$Road;", .classLink RX7 28 RX6, .instantiable RX6 3, .fieldLink RX7 31 "Handoverhouse" "survey" "LHandoverhouse$Survey;", .methodLink RX7 9 yX4_init, .instanceMethod yX4_init]
def hh_w8 : List Cond := [.methodLink RX7 18 yX5_init, .instanceMethod yX5_init, .instanceMethod yX6_init, .code yX7_mast cX7_mast 8 (some .int), .fieldLink RX7 39 "Handoverhouse$Masts" "count" "I", .fieldLink RX7 50 "Handoverhouse$Masts" "all" "[LHandoverhouse$Mast;", .fieldLink RX7 54 "Handoverhouse$Mast" "place" "I", .fieldLink RX7 59 "Handoverhouse$Mast" "power" "I", .fieldLink RX7 62 "Handoverhouse$Mast" "frequency" "I", .fieldLink RX7 65 "Handoverhouse$Mast" "channels" "I", .fieldLink RX7 68 "Handoverhouse$Mast" "area" "I", .fieldLink RX7 71 "Handoverhouse$Mast" "operator" "I", .fieldLink RX7 74 "Handoverhouse$Mast" "awake" "Z", .methodLink RX7 35 yX7_demandWithin, .static yX7_demandWithin, .initialized RX7, .code yX7_demandWithin cX7_demandWithin 3 none, .methodLink RX7 78 yX4_measure, .instanceMethod yX4_measure, .selects RX4 yX4_measure yX4_measure, .code yX7_handset cX7_handset 6 (some .int), .fieldLink RX7 81 "Handoverhouse$Road" "handsetCount" "I", .fieldLink RX7 86 "Handoverhouse$Road" "handsets" "[LHandoverhouse$Handset;", .fieldLink RX7 90 "Handoverhouse$Handset" "operator" "I", .fieldLink RX7 93 "Handoverhouse$Handset" "place" "I", .fieldLink RX7 94 "Handoverhouse$Handset" "speed" "I", .fieldLink RX7 97 "Handoverhouse$Handset" "balance" "I", .fieldLink RX7 100 "Handoverhouse$Handset" "on" "Z", .code yX7_speed cX7_speed 4 (some .int), .methodLink RX7 103 yX7_demandNumber, .static yX7_demandNumber, .code yX7_demandNumber cX7_demandNumber 2 none, .code yX7_top cX7_top 3 (some .int), .code yX7_turn cX7_turn 4 (some .boolean), .methodLink RX7 107 yX5_switchOff, .instanceMethod yX5_switchOff, .selects RX5 yX5_switchOff yX5_switchOff, .code yX7_wake cX7_wake 3 (some .boolean), .fieldLink RX7 111 "Handoverhouse$Road" "load" "[I", .methodLink RX7 115 yX5_sendAway]
def hh_w9 : List Cond := [.instanceMethod yX5_sendAway, .selects RX5 yX5_sendAway yX5_sendAway, .code yX7_call cX7_call 3 (some .int), .methodLink RX7 119 yX7_demandOthers, .static yX7_demandOthers, .code yX7_demandOthers cX7_demandOthers 2 none, .methodLink RX7 122 yX7_demandRoomForCall, .instanceMethod yX7_demandRoomForCall, .selects RX7 yX7_demandRoomForCall yX7_demandRoomForCall, .code yX7_demandRoomForCall cX7_demandRoomForCall 1 none, .fieldLink RX7 133 "Handoverhouse$Road" "callCount" "I", .methodLink RX7 125 yX5_tryCall, .instanceMethod yX5_tryCall, .selects RX5 yX5_tryCall yX5_tryCall, .code yX7_emergency cX7_emergency 2 (some .int), .methodLink RX7 129 yX5_tryEmergency, .instanceMethod yX5_tryEmergency, .selects RX5 yX5_tryEmergency yX5_tryEmergency, .code yX7_hang cX7_hang 3 (some .int), .fieldLink RX7 136 "Handoverhouse$Road" "calls" "[LHandoverhouse$Call;", .fieldLink RX7 140 "Handoverhouse$Call" "ended" "I", .fieldLink RX7 151 "Handoverhouse$Call" "seconds" "I", .methodLink RX7 147 yX5_end, .code yX7_text cX7_text 3 (some .int), .fieldLink RX7 154 "Handoverhouse$Road" "textCount" "I", .fieldLink RX7 159 "Handoverhouse$Handset" "textsWaiting" "I", .code yX7_forget cX7_forget 1 (some .int), .methodLink RX7 162 yX5_forgetAreas, .instanceMethod yX5_forgetAreas, .selects RX5 yX5_forgetAreas yX5_forgetAreas, .code yX7_pass cX7_pass 4 (some .int), .methodLink RX7 166 yX5_callsThat, .instanceMethod yX5_callsThat, .selects RX5 yX5_callsThat yX5_callsThat, .methodLink RX7 169 yX5_second, .instanceMethod yX5_second, .selects RX5 yX5_second yX5_second, .code yX7_quality cX7_quality 3 (some .int), .methodLink RX7 172 yX5_qualityAt, .code yX7_best cX7_best 2 (some .int)]
def hh_w10 : List Cond := [.methodLink RX7 175 yX5_bestHeardAt, .code yX7_ofMast cX7_ofMast 3 (some .int), .fieldLink RX7 181 "Handoverhouse$Road" "carried" "[I", .methodLink RX7 178 yX5_campersOn, .instanceMethod yX5_campersOn, .selects RX5 yX5_campersOn yX5_campersOn, .methodLink RX7 184 yX3_fact, .instanceMethod yX3_fact, .selects RX3 yX3_fact yX3_fact, .code yX7_ofHandset cX7_ofHandset 3 (some .int), .methodLink RX7 187 yX1_fact, .code yX7_ofCall cX7_ofCall 3 (some .int), .methodLink RX7 188 yX0_fact, .code yX7_many cX7_many 2 (some .int), .fieldLink RX7 189 "Handoverhouse$Road" "now" "I", .fieldLink RX7 195 "Handoverhouse$Road" "pages" "I", .methodLink RX7 192 yX5_sumOfCalls, .instanceMethod yX5_sumOfCalls, .selects RX5 yX5_sumOfCalls yX5_sumOfCalls, .methodLink RX7 198 yX5_sumOfHandsets, .instanceMethod yX5_sumOfHandsets, .selects RX5 yX5_sumOfHandsets yX5_sumOfHandsets, .methodLink RX7 201 yX5_handsetsToBeFound, .instanceMethod yX5_handsetsToBeFound, .selects RX5 yX5_handsetsToBeFound yX5_handsetsToBeFound, .methodLink RX7 204 yX5_placesHeardWell, .instanceMethod yX5_placesHeardWell, .selects RX5 yX5_placesHeardWell yX5_placesHeardWell, .code yX7_meanSeconds cX7_meanSeconds 2 (some .double), .methodLink RX7 207 yX5_secondsOfEndedCalls, .instanceMethod yX5_secondsOfEndedCalls, .selects RX5 yX5_secondsOfEndedCalls yX5_secondsOfEndedCalls, .code yX7_endsIn cX7_endsIn 4 (some .int), .methodLink RX7 210 yX5_copyFrom, .instanceMethod yX5_copyFrom, .selects RX5 yX5_copyFrom yX5_copyFrom, .code yX7_wouldBeOn cX7_wouldBeOn 4 (some .int), .fieldLink RX7 214 "Handoverhouse$Handset" "mast" "I", .code yX7_bestPlace cX7_bestPlace 3 (some .int), .methodLink RX7 217 yX6_take]
def hh_w11 : List Cond := [.instanceMethod yX6_take, .selects RX6 yX6_take yX6_take, .methodLink RX7 221 yX6_placeFor, .instanceMethod yX6_placeFor, .selects RX6 yX6_placeFor yX6_placeFor, .code yX7_digest cX7_digest 4 (some .long), .constantLong RX7 224 (58188), .constantLong RX7 226 (31), .methodLink RX7 228 yX7_many, .instanceMethod yX7_many, .selects RX7 yX7_many yX7_many, .methodLink RX7 231 yX7_addMasts, .instanceMethod yX7_addMasts, .selects RX7 yX7_addMasts yX7_addMasts, .code yX7_addMasts cX7_addMasts 7 (some .long), .methodLink RX7 247 yX7_ofMast, .instanceMethod yX7_ofMast, .selects RX7 yX7_ofMast yX7_ofMast, .methodLink RX7 250 yX7_quality, .instanceMethod yX7_quality, .selects RX7 yX7_quality yX7_quality, .methodLink RX7 235 yX7_addHandsets, .instanceMethod yX7_addHandsets, .selects RX7 yX7_addHandsets yX7_addHandsets, .code yX7_addHandsets cX7_addHandsets 7 (some .long), .methodLink RX7 253 yX7_ofHandset, .instanceMethod yX7_ofHandset, .selects RX7 yX7_ofHandset yX7_ofHandset, .methodLink RX7 256 yX7_wouldBeOn, .instanceMethod yX7_wouldBeOn, .selects RX7 yX7_wouldBeOn yX7_wouldBeOn, .methodLink RX7 238 yX7_addCalls, .instanceMethod yX7_addCalls, .selects RX7 yX7_addCalls yX7_addCalls, .code yX7_addCalls cX7_addCalls 7 (some .long), .methodLink RX7 259 yX7_ofCall, .instanceMethod yX7_ofCall, .selects RX7 yX7_ofCall yX7_ofCall, .methodLink RX7 262 yX7_endsIn, .instanceMethod yX7_endsIn]
def hh_w12 : List Cond := [.selects RX7 yX7_endsIn yX7_endsIn, .methodLink RX7 241 yX7_best, .instanceMethod yX7_best, .selects RX7 yX7_best yX7_best, .methodLink RX7 244 yX7_bestPlace, .instanceMethod yX7_bestPlace, .selects RX7 yX7_bestPlace yX7_bestPlace]
def hh_wf : List Cond := wsX00 ++ (wsX10 ++ (wsX20 ++ (wsX30 ++ (wsX40 ++ (wsX50 ++ (wsX60 ++ (wsX70)))))))
def hh_wa : List Cond := hh_w0 ++ (hh_w1 ++ (hh_w2 ++ (hh_w3 ++ (hh_w4 ++ (hh_w5 ++ (hh_w6 ++ (hh_w7 ++ (hh_w8 ++ (hh_w9 ++ (hh_w10 ++ (hh_w11 ++ (hh_w12 ++ hh_wf))))))))))))
theorem hh_in0 : ∀ w ∈ hh_w0, w ∈ hh_wa := fun w h => List.mem_append_left _ h
theorem hh_in1 : ∀ w ∈ hh_w1, w ∈ hh_wa := fun w h => List.mem_append_right _ (List.mem_append_left _ h)
theorem hh_in2 : ∀ w ∈ hh_w2, w ∈ hh_wa := fun w h => List.mem_append_right _ (List.mem_append_right _ (List.mem_append_left _ h))
theorem hh_in3 : ∀ w ∈ hh_w3, w ∈ hh_wa := fun w h => List.mem_append_right _ (List.mem_append_right _ (List.mem_append_right _ (List.mem_append_left _ h)))
theorem hh_in4 : ∀ w ∈ hh_w4, w ∈ hh_wa := fun w h => List.mem_append_right _ (List.mem_append_right _ (List.mem_append_right _ (List.mem_append_right _ (List.mem_append_left _ h))))
theorem hh_in5 : ∀ w ∈ hh_w5, w ∈ hh_wa := fun w h => List.mem_append_right _ (List.mem_append_right _ (List.mem_append_right _ (List.mem_append_right _ (List.mem_append_right _ (List.mem_append_left _ h)))))
theorem hh_in6 : ∀ w ∈ hh_w6, w ∈ hh_wa := fun w h => List.mem_append_right _ (List.mem_append_right _ (List.mem_append_right _ (List.mem_append_right _ (List.mem_append_right _ (List.mem_append_right _ (List.mem_append_left _ h))))))
theorem hh_in7 : ∀ w ∈ hh_w7, w ∈ hh_wa := fun w h => List.mem_append_right _ (List.mem_append_right _ (List.mem_append_right _ (List.mem_append_right _ (List.mem_append_right _ (List.mem_append_right _ (List.mem_append_right _ (List.mem_append_left _ h)))))))
theorem hh_in8 : ∀ w ∈ hh_w8, w ∈ hh_wa := fun w h => List.mem_append_right _ (List.mem_append_right _ (List.mem_append_right _ (List.mem_append_right _ (List.mem_append_right _ (List.mem_append_right _ (List.mem_append_right _ (List.mem_append_right _ (List.mem_append_left _ h))))))))
theorem hh_in9 : ∀ w ∈ hh_w9, w ∈ hh_wa := fun w h => List.mem_append_right _ (List.mem_append_right _ (List.mem_append_right _ (List.mem_append_right _ (List.mem_append_right _ (List.mem_append_right _ (List.mem_append_right _ (List.mem_append_right _ (List.mem_append_right _ (List.mem_append_left _ h)))))))))
theorem hh_in10 : ∀ w ∈ hh_w10, w ∈ hh_wa := fun w h => List.mem_append_right _ (List.mem_append_right _ (List.mem_append_right _ (List.mem_append_right _ (List.mem_append_right _ (List.mem_append_right _ (List.mem_append_right _ (List.mem_append_right _ (List.mem_append_right _ (List.mem_append_right _ (List.mem_append_left _ h))))))))))
theorem hh_in11 : ∀ w ∈ hh_w11, w ∈ hh_wa := fun w h => List.mem_append_right _ (List.mem_append_right _ (List.mem_append_right _ (List.mem_append_right _ (List.mem_append_right _ (List.mem_append_right _ (List.mem_append_right _ (List.mem_append_right _ (List.mem_append_right _ (List.mem_append_right _ (List.mem_append_right _ (List.mem_append_left _ h)))))))))))
theorem hh_in12 : ∀ w ∈ hh_w12, w ∈ hh_wa := fun w h => List.mem_append_right _ (List.mem_append_right _ (List.mem_append_right _ (List.mem_append_right _ (List.mem_append_right _ (List.mem_append_right _ (List.mem_append_right _ (List.mem_append_right _ (List.mem_append_right _ (List.mem_append_right _ (List.mem_append_right _ (List.mem_append_right _ (List.mem_append_left _ h))))))))))))
theorem hh_inf : ∀ w ∈ hh_wf, w ∈ hh_wa := fun w h => List.mem_append_right _ (List.mem_append_right _ (List.mem_append_right _ (List.mem_append_right _ (List.mem_append_right _ (List.mem_append_right _ (List.mem_append_right _ (List.mem_append_right _ (List.mem_append_right _ (List.mem_append_right _ (List.mem_append_right _ (List.mem_append_right _ (List.mem_append_right _ h))))))))))))
theorem hh_uX0 : ∀ w ∈ wsX00, w ∈ hh_wa := fun w h => hh_inf w (List.mem_append_left _ h)
theorem hh_uX1 : ∀ w ∈ wsX10, w ∈ hh_wa := fun w h => hh_inf w (List.mem_append_right _ (List.mem_append_left _ h))
theorem hh_uX2 : ∀ w ∈ wsX20, w ∈ hh_wa := fun w h => hh_inf w (List.mem_append_right _ (List.mem_append_right _ (List.mem_append_left _ h)))
theorem hh_uX3 : ∀ w ∈ wsX30, w ∈ hh_wa := fun w h => hh_inf w (List.mem_append_right _ (List.mem_append_right _ (List.mem_append_right _ (List.mem_append_left _ h))))
theorem hh_uX4 : ∀ w ∈ wsX40, w ∈ hh_wa := fun w h => hh_inf w (List.mem_append_right _ (List.mem_append_right _ (List.mem_append_right _ (List.mem_append_right _ (List.mem_append_left _ h)))))
theorem hh_uX5 : ∀ w ∈ wsX50, w ∈ hh_wa := fun w h => hh_inf w (List.mem_append_right _ (List.mem_append_right _ (List.mem_append_right _ (List.mem_append_right _ (List.mem_append_right _ (List.mem_append_left _ h))))))
theorem hh_uX6 : ∀ w ∈ wsX60, w ∈ hh_wa := fun w h => hh_inf w (List.mem_append_right _ (List.mem_append_right _ (List.mem_append_right _ (List.mem_append_right _ (List.mem_append_right _ (List.mem_append_right _ (List.mem_append_left _ h)))))))
theorem hh_uX7 : ∀ w ∈ wsX70, w ∈ hh_wa := fun w h => hh_inf w (List.mem_append_right _ (List.mem_append_right _ (List.mem_append_right _ (List.mem_append_right _ (List.mem_append_right _ (List.mem_append_right _ (List.mem_append_right _ (h))))))))
theorem hh_good : GoodIn hh_wa hh_wa := fun w hw => ⟨hw, good_of_word (List.all_eq_true.mp (by decide +kernel : hh_wa.all goodWord = true) w hw)⟩
theorem hm_0 : (Cond.code yX0_init cX0_init 1 none) ∈ hh_wa := hh_in0 _ (List.mem_of_getElem? (i := 0) rfl)
theorem hm_1 : (Cond.methodLink RX0 3 objectInit) ∈ hh_wa := hh_in0 _ (List.mem_of_getElem? (i := 1) rfl)
theorem hm_2 : (Cond.instanceMethod objectInit) ∈ hh_wa := hh_in0 _ (List.mem_of_getElem? (i := 2) rfl)
theorem hm_3 : (Cond.code objectInit ⟨#[0xb1]⟩ 1 none) ∈ hh_wa := hh_in0 _ (List.mem_of_getElem? (i := 3) rfl)
theorem hm_4 : (Cond.classLink RX0 9 RX2) ∈ hh_wa := hh_in0 _ (List.mem_of_getElem? (i := 4) rfl)
theorem hm_5 : (Cond.instantiable RX2 6) ∈ hh_wa := hh_in0 _ (List.mem_of_getElem? (i := 5) rfl)
theorem hm_6 : (Cond.initialized RX2) ∈ hh_wa := hh_in0 _ (List.mem_of_getElem? (i := 6) rfl)
theorem hm_7 : (Cond.fieldLink RX0 12 "Handoverhouse$Call" "caller" "LHandoverhouse$Leg;") ∈ hh_wa := hh_in0 _ (List.mem_of_getElem? (i := 7) rfl)
theorem hm_8 : (Cond.fieldLink RX0 18 "Handoverhouse$Call" "other" "LHandoverhouse$Leg;") ∈ hh_wa := hh_in0 _ (List.mem_of_getElem? (i := 8) rfl)
theorem hm_9 : (Cond.fieldLink RX0 21 "Handoverhouse$Call" "ended" "I") ∈ hh_wa := hh_in0 _ (List.mem_of_getElem? (i := 9) rfl)
theorem hm_10 : (Cond.instanceMethod yX2_init) ∈ hh_wa := hh_in0 _ (List.mem_of_getElem? (i := 10) rfl)
theorem hm_11 : (Cond.code yX2_init cX2_init 1 none) ∈ hh_wa := hh_in0 _ (List.mem_of_getElem? (i := 11) rfl)
theorem hm_12 : (Cond.methodLink RX2 3 objectInit) ∈ hh_wa := hh_in0 _ (List.mem_of_getElem? (i := 12) rfl)
theorem hm_13 : (Cond.fieldLink RX2 9 "Handoverhouse$Leg" "handset" "I") ∈ hh_wa := hh_in0 _ (List.mem_of_getElem? (i := 13) rfl)
theorem hm_14 : (Cond.fieldLink RX2 15 "Handoverhouse$Leg" "mast" "I") ∈ hh_wa := hh_in0 _ (List.mem_of_getElem? (i := 14) rfl)
theorem hm_15 : (Cond.fieldLink RX2 18 "Handoverhouse$Leg" "leftMast" "I") ∈ hh_wa := hh_in0 _ (List.mem_of_getElem? (i := 15) rfl)
theorem hm_16 : (Cond.code yX0_hasLegOn cX0_hasLegOn 2 (some .boolean)) ∈ hh_wa := hh_in0 _ (List.mem_of_getElem? (i := 16) rfl)
theorem hm_17 : (Cond.fieldLink RX0 25 "Handoverhouse$Leg" "mast" "I") ∈ hh_wa := hh_in0 _ (List.mem_of_getElem? (i := 17) rfl)
theorem hm_18 : (Cond.code yX0_copyFrom cX0_copyFrom 2 none) ∈ hh_wa := hh_in0 _ (List.mem_of_getElem? (i := 18) rfl)
theorem hm_19 : (Cond.fieldLink RX0 32 "Handoverhouse$Call" "seconds" "I") ∈ hh_wa := hh_in0 _ (List.mem_of_getElem? (i := 19) rfl)
theorem hm_20 : (Cond.fieldLink RX0 35 "Handoverhouse$Call" "paid" "I") ∈ hh_wa := hh_in0 _ (List.mem_of_getElem? (i := 20) rfl)
theorem hm_21 : (Cond.fieldLink RX0 38 "Handoverhouse$Call" "handovers" "I") ∈ hh_wa := hh_in0 _ (List.mem_of_getElem? (i := 21) rfl)
theorem hm_22 : (Cond.fieldLink RX0 41 "Handoverhouse$Call" "pingPongs" "I") ∈ hh_wa := hh_in0 _ (List.mem_of_getElem? (i := 22) rfl)
theorem hm_23 : (Cond.methodLink RX0 28 yX2_copyFrom) ∈ hh_wa := hh_in0 _ (List.mem_of_getElem? (i := 23) rfl)
theorem hm_24 : (Cond.instanceMethod yX2_copyFrom) ∈ hh_wa := hh_in0 _ (List.mem_of_getElem? (i := 24) rfl)
theorem hm_25 : (Cond.selects RX2 yX2_copyFrom yX2_copyFrom) ∈ hh_wa := hh_in0 _ (List.mem_of_getElem? (i := 25) rfl)
theorem hm_26 : (Cond.code yX2_copyFrom cX2_copyFrom 2 none) ∈ hh_wa := hh_in0 _ (List.mem_of_getElem? (i := 26) rfl)
theorem hm_27 : (Cond.fieldLink RX2 21 "Handoverhouse$Leg" "waits" "I") ∈ hh_wa := hh_in0 _ (List.mem_of_getElem? (i := 27) rfl)
theorem hm_28 : (Cond.fieldLink RX2 24 "Handoverhouse$Leg" "bad" "I") ∈ hh_wa := hh_in0 _ (List.mem_of_getElem? (i := 28) rfl)
theorem hm_29 : (Cond.fieldLink RX2 27 "Handoverhouse$Leg" "leftAt" "I") ∈ hh_wa := hh_in0 _ (List.mem_of_getElem? (i := 29) rfl)
theorem hm_30 : (Cond.code yX0_fact cX0_fact 2 (some .int)) ∈ hh_wa := hh_in0 _ (List.mem_of_getElem? (i := 30) rfl)
theorem hm_31 : (Cond.fieldLink RX0 44 "Handoverhouse$Leg" "handset" "I") ∈ hh_wa := hh_in0 _ (List.mem_of_getElem? (i := 31) rfl)
theorem hm_32 : (Cond.code yX1_init cX1_init 1 none) ∈ hh_wa := hh_in0 _ (List.mem_of_getElem? (i := 32) rfl)
theorem hm_33 : (Cond.methodLink RX1 3 objectInit) ∈ hh_wa := hh_in0 _ (List.mem_of_getElem? (i := 33) rfl)
theorem hm_34 : (Cond.fieldLink RX1 9 "Handoverhouse$Handset" "mast" "I") ∈ hh_wa := hh_in0 _ (List.mem_of_getElem? (i := 34) rfl)
theorem hm_35 : (Cond.fieldLink RX1 15 "Handoverhouse$Handset" "call" "I") ∈ hh_wa := hh_in0 _ (List.mem_of_getElem? (i := 35) rfl)
theorem hm_36 : (Cond.fieldLink RX1 18 "Handoverhouse$Handset" "knownArea" "I") ∈ hh_wa := hh_in0 _ (List.mem_of_getElem? (i := 36) rfl)
theorem hm_37 : (Cond.fieldLink RX1 21 "Handoverhouse$Handset" "toldArea" "I") ∈ hh_wa := hh_in0 _ (List.mem_of_getElem? (i := 37) rfl)
theorem hm_38 : (Cond.code yX1_isIdle cX1_isIdle 1 (some .boolean)) ∈ hh_wa := hh_in0 _ (List.mem_of_getElem? (i := 38) rfl)
theorem hm_39 : (Cond.fieldLink RX1 24 "Handoverhouse$Handset" "on" "Z") ∈ hh_wa := hh_in0 _ (List.mem_of_getElem? (i := 39) rfl)
theorem hm_40 : (Cond.code yX1_move cX1_move 1 none) ∈ hh_wa := hh_in1 _ (List.mem_of_getElem? (i := 0) rfl)
theorem hm_41 : (Cond.fieldLink RX1 28 "Handoverhouse$Handset" "place" "I") ∈ hh_wa := hh_in1 _ (List.mem_of_getElem? (i := 1) rfl)
theorem hm_42 : (Cond.fieldLink RX1 31 "Handoverhouse$Handset" "speed" "I") ∈ hh_wa := hh_in1 _ (List.mem_of_getElem? (i := 2) rfl)
theorem hm_43 : (Cond.code yX1_tell cX1_tell 3 none) ∈ hh_wa := hh_in1 _ (List.mem_of_getElem? (i := 3) rfl)
theorem hm_44 : (Cond.fieldLink RX1 34 "Handoverhouse$Handset" "toldAt" "I") ∈ hh_wa := hh_in1 _ (List.mem_of_getElem? (i := 4) rfl)
theorem hm_45 : (Cond.fieldLink RX1 37 "Handoverhouse$Handset" "updates" "I") ∈ hh_wa := hh_in1 _ (List.mem_of_getElem? (i := 5) rfl)
theorem hm_46 : (Cond.code yX1_copyFrom cX1_copyFrom 2 none) ∈ hh_wa := hh_in1 _ (List.mem_of_getElem? (i := 6) rfl)
theorem hm_47 : (Cond.fieldLink RX1 40 "Handoverhouse$Handset" "operator" "I") ∈ hh_wa := hh_in1 _ (List.mem_of_getElem? (i := 7) rfl)
theorem hm_48 : (Cond.fieldLink RX1 43 "Handoverhouse$Handset" "balance" "I") ∈ hh_wa := hh_in1 _ (List.mem_of_getElem? (i := 8) rfl)
theorem hm_49 : (Cond.fieldLink RX1 46 "Handoverhouse$Handset" "textsGot" "I") ∈ hh_wa := hh_in1 _ (List.mem_of_getElem? (i := 9) rfl)
theorem hm_50 : (Cond.fieldLink RX1 49 "Handoverhouse$Handset" "textsWaiting" "I") ∈ hh_wa := hh_in1 _ (List.mem_of_getElem? (i := 10) rfl)
theorem hm_51 : (Cond.code yX1_fact cX1_fact 2 (some .int)) ∈ hh_wa := hh_in1 _ (List.mem_of_getElem? (i := 11) rfl)
theorem hm_52 : (Cond.code yX2_isUsed cX2_isUsed 1 (some .boolean)) ∈ hh_wa := hh_in1 _ (List.mem_of_getElem? (i := 12) rfl)
theorem hm_53 : (Cond.code yX3_init cX3_init 1 none) ∈ hh_wa := hh_in1 _ (List.mem_of_getElem? (i := 13) rfl)
theorem hm_54 : (Cond.methodLink RX3 1 objectInit) ∈ hh_wa := hh_in1 _ (List.mem_of_getElem? (i := 14) rfl)
theorem hm_55 : (Cond.code yX3_distanceTo cX3_distanceTo 2 (some .int)) ∈ hh_wa := hh_in1 _ (List.mem_of_getElem? (i := 15) rfl)
theorem hm_56 : (Cond.fieldLink RX3 7 "Handoverhouse$Mast" "place" "I") ∈ hh_wa := hh_in1 _ (List.mem_of_getElem? (i := 16) rfl)
theorem hm_57 : (Cond.code yX3_noiseAt cX3_noiseAt 3 (some .int)) ∈ hh_wa := hh_in1 _ (List.mem_of_getElem? (i := 17) rfl)
theorem hm_58 : (Cond.fieldLink RX3 13 "Handoverhouse$Mast" "power" "I") ∈ hh_wa := hh_in1 _ (List.mem_of_getElem? (i := 18) rfl)
theorem hm_59 : (Cond.fieldLink RX3 20 "Handoverhouse$Mast" "awake" "Z") ∈ hh_wa := hh_in1 _ (List.mem_of_getElem? (i := 19) rfl)
theorem hm_60 : (Cond.methodLink RX3 16 yX3_distanceTo) ∈ hh_wa := hh_in1 _ (List.mem_of_getElem? (i := 20) rfl)
theorem hm_61 : (Cond.instanceMethod yX3_distanceTo) ∈ hh_wa := hh_in1 _ (List.mem_of_getElem? (i := 21) rfl)
theorem hm_62 : (Cond.selects RX3 yX3_distanceTo yX3_distanceTo) ∈ hh_wa := hh_in1 _ (List.mem_of_getElem? (i := 22) rfl)
theorem hm_63 : (Cond.initialized RX3) ∈ hh_wa := hh_in1 _ (List.mem_of_getElem? (i := 23) rfl)
theorem hm_64 : (Cond.code yX3_fact cX3_fact 2 (some .int)) ∈ hh_wa := hh_in1 _ (List.mem_of_getElem? (i := 24) rfl)
theorem hm_65 : (Cond.fieldLink RX3 24 "Handoverhouse$Mast" "frequency" "I") ∈ hh_wa := hh_in1 _ (List.mem_of_getElem? (i := 25) rfl)
theorem hm_66 : (Cond.fieldLink RX3 27 "Handoverhouse$Mast" "channels" "I") ∈ hh_wa := hh_in1 _ (List.mem_of_getElem? (i := 26) rfl)
theorem hm_67 : (Cond.fieldLink RX3 30 "Handoverhouse$Mast" "area" "I") ∈ hh_wa := hh_in1 _ (List.mem_of_getElem? (i := 27) rfl)
theorem hm_68 : (Cond.fieldLink RX3 33 "Handoverhouse$Mast" "operator" "I") ∈ hh_wa := hh_in1 _ (List.mem_of_getElem? (i := 28) rfl)
theorem hm_69 : (Cond.code yX4_init cX4_init 2 none) ∈ hh_wa := hh_in1 _ (List.mem_of_getElem? (i := 29) rfl)
theorem hm_70 : (Cond.methodLink RX4 3 objectInit) ∈ hh_wa := hh_in1 _ (List.mem_of_getElem? (i := 30) rfl)
theorem hm_71 : (Cond.classLink RX4 9 RX3) ∈ hh_wa := hh_in1 _ (List.mem_of_getElem? (i := 31) rfl)
theorem hm_72 : (Cond.fieldLink RX4 11 "Handoverhouse$Masts" "all" "[LHandoverhouse$Mast;") ∈ hh_wa := hh_in1 _ (List.mem_of_getElem? (i := 32) rfl)
theorem hm_73 : (Cond.instantiable RX3 7) ∈ hh_wa := hh_in1 _ (List.mem_of_getElem? (i := 33) rfl)
theorem hm_74 : (Cond.classLink RX4 18 "[[I") ∈ hh_wa := hh_in1 _ (List.mem_of_getElem? (i := 34) rfl)
theorem hm_75 : (Cond.arrayClass .int) ∈ hh_wa := hh_in1 _ (List.mem_of_getElem? (i := 35) rfl)
theorem hm_76 : (Cond.fieldLink RX4 20 "Handoverhouse$Masts" "bareQuality" "[[I") ∈ hh_wa := hh_in1 _ (List.mem_of_getElem? (i := 36) rfl)
theorem hm_77 : (Cond.instanceMethod yX3_init) ∈ hh_wa := hh_in1 _ (List.mem_of_getElem? (i := 37) rfl)
theorem hm_78 : (Cond.code yX4_measure cX4_measure 3 none) ∈ hh_wa := hh_in1 _ (List.mem_of_getElem? (i := 38) rfl)
theorem hm_79 : (Cond.fieldLink RX4 23 "Handoverhouse$Masts" "count" "I") ∈ hh_wa := hh_in1 _ (List.mem_of_getElem? (i := 39) rfl)
theorem hm_80 : (Cond.methodLink RX4 27 yX4_measureOne) ∈ hh_wa := hh_in2 _ (List.mem_of_getElem? (i := 0) rfl)
theorem hm_81 : (Cond.instanceMethod yX4_measureOne) ∈ hh_wa := hh_in2 _ (List.mem_of_getElem? (i := 1) rfl)
theorem hm_82 : (Cond.selects RX4 yX4_measureOne yX4_measureOne) ∈ hh_wa := hh_in2 _ (List.mem_of_getElem? (i := 2) rfl)
theorem hm_83 : (Cond.initialized RX4) ∈ hh_wa := hh_in2 _ (List.mem_of_getElem? (i := 3) rfl)
theorem hm_84 : (Cond.code yX4_measureOne cX4_measureOne 6 (some .int)) ∈ hh_wa := hh_in2 _ (List.mem_of_getElem? (i := 4) rfl)
theorem hm_85 : (Cond.fieldLink RX4 31 "Handoverhouse$Mast" "awake" "Z") ∈ hh_wa := hh_in2 _ (List.mem_of_getElem? (i := 5) rfl)
theorem hm_86 : (Cond.fieldLink RX4 35 "Handoverhouse$Mast" "power" "I") ∈ hh_wa := hh_in2 _ (List.mem_of_getElem? (i := 6) rfl)
theorem hm_87 : (Cond.fieldLink RX4 42 "Handoverhouse$Mast" "frequency" "I") ∈ hh_wa := hh_in2 _ (List.mem_of_getElem? (i := 7) rfl)
theorem hm_88 : (Cond.methodLink RX4 38 yX3_distanceTo) ∈ hh_wa := hh_in2 _ (List.mem_of_getElem? (i := 8) rfl)
theorem hm_89 : (Cond.methodLink RX4 45 yX3_noiseAt) ∈ hh_wa := hh_in2 _ (List.mem_of_getElem? (i := 9) rfl)
theorem hm_90 : (Cond.instanceMethod yX3_noiseAt) ∈ hh_wa := hh_in2 _ (List.mem_of_getElem? (i := 10) rfl)
theorem hm_91 : (Cond.selects RX3 yX3_noiseAt yX3_noiseAt) ∈ hh_wa := hh_in2 _ (List.mem_of_getElem? (i := 11) rfl)
theorem hm_92 : (Cond.code yX4_awakeInArea cX4_awakeInArea 4 (some .int)) ∈ hh_wa := hh_in2 _ (List.mem_of_getElem? (i := 12) rfl)
theorem hm_93 : (Cond.fieldLink RX4 48 "Handoverhouse$Mast" "area" "I") ∈ hh_wa := hh_in2 _ (List.mem_of_getElem? (i := 13) rfl)
theorem hm_94 : (Cond.code yX4_awake cX4_awake 3 (some .int)) ∈ hh_wa := hh_in2 _ (List.mem_of_getElem? (i := 14) rfl)
theorem hm_95 : (Cond.code yX5_init cX5_init 3 none) ∈ hh_wa := hh_in2 _ (List.mem_of_getElem? (i := 15) rfl)
theorem hm_96 : (Cond.methodLink RX5 3 objectInit) ∈ hh_wa := hh_in2 _ (List.mem_of_getElem? (i := 16) rfl)
theorem hm_97 : (Cond.fieldLink RX5 9 "Handoverhouse$Road" "masts" "LHandoverhouse$Masts;") ∈ hh_wa := hh_in2 _ (List.mem_of_getElem? (i := 17) rfl)
theorem hm_98 : (Cond.fieldLink RX5 15 "Handoverhouse$Road" "load" "[I") ∈ hh_wa := hh_in2 _ (List.mem_of_getElem? (i := 18) rfl)
theorem hm_99 : (Cond.fieldLink RX5 19 "Handoverhouse$Road" "carried" "[I") ∈ hh_wa := hh_in2 _ (List.mem_of_getElem? (i := 19) rfl)
theorem hm_100 : (Cond.classLink RX5 22 RX1) ∈ hh_wa := hh_in2 _ (List.mem_of_getElem? (i := 20) rfl)
theorem hm_101 : (Cond.fieldLink RX5 24 "Handoverhouse$Road" "handsets" "[LHandoverhouse$Handset;") ∈ hh_wa := hh_in2 _ (List.mem_of_getElem? (i := 21) rfl)
theorem hm_102 : (Cond.instantiable RX1 13) ∈ hh_wa := hh_in2 _ (List.mem_of_getElem? (i := 22) rfl)
theorem hm_103 : (Cond.initialized RX1) ∈ hh_wa := hh_in2 _ (List.mem_of_getElem? (i := 23) rfl)
theorem hm_104 : (Cond.classLink RX5 29 RX0) ∈ hh_wa := hh_in2 _ (List.mem_of_getElem? (i := 24) rfl)
theorem hm_105 : (Cond.fieldLink RX5 31 "Handoverhouse$Road" "calls" "[LHandoverhouse$Call;") ∈ hh_wa := hh_in2 _ (List.mem_of_getElem? (i := 25) rfl)
theorem hm_106 : (Cond.instantiable RX0 7) ∈ hh_wa := hh_in2 _ (List.mem_of_getElem? (i := 26) rfl)
theorem hm_107 : (Cond.initialized RX0) ∈ hh_wa := hh_in2 _ (List.mem_of_getElem? (i := 27) rfl)
theorem hm_108 : (Cond.instanceMethod yX1_init) ∈ hh_wa := hh_in2 _ (List.mem_of_getElem? (i := 28) rfl)
theorem hm_109 : (Cond.instanceMethod yX0_init) ∈ hh_wa := hh_in2 _ (List.mem_of_getElem? (i := 29) rfl)
theorem hm_110 : (Cond.code yX5_copyFrom cX5_copyFrom 3 none) ∈ hh_wa := hh_in2 _ (List.mem_of_getElem? (i := 30) rfl)
theorem hm_111 : (Cond.fieldLink RX5 36 "Handoverhouse$Road" "handsetCount" "I") ∈ hh_wa := hh_in2 _ (List.mem_of_getElem? (i := 31) rfl)
theorem hm_112 : (Cond.fieldLink RX5 44 "Handoverhouse$Road" "callCount" "I") ∈ hh_wa := hh_in2 _ (List.mem_of_getElem? (i := 32) rfl)
theorem hm_113 : (Cond.fieldLink RX5 50 "Handoverhouse$Road" "textCount" "I") ∈ hh_wa := hh_in2 _ (List.mem_of_getElem? (i := 33) rfl)
theorem hm_114 : (Cond.fieldLink RX5 53 "Handoverhouse$Road" "now" "I") ∈ hh_wa := hh_in2 _ (List.mem_of_getElem? (i := 34) rfl)
theorem hm_115 : (Cond.fieldLink RX5 56 "Handoverhouse$Road" "pages" "I") ∈ hh_wa := hh_in2 _ (List.mem_of_getElem? (i := 35) rfl)
theorem hm_116 : (Cond.methodLink RX5 40 yX1_copyFrom) ∈ hh_wa := hh_in2 _ (List.mem_of_getElem? (i := 36) rfl)
theorem hm_117 : (Cond.instanceMethod yX1_copyFrom) ∈ hh_wa := hh_in2 _ (List.mem_of_getElem? (i := 37) rfl)
theorem hm_118 : (Cond.selects RX1 yX1_copyFrom yX1_copyFrom) ∈ hh_wa := hh_in2 _ (List.mem_of_getElem? (i := 38) rfl)
theorem hm_119 : (Cond.methodLink RX5 47 yX0_copyFrom) ∈ hh_wa := hh_in2 _ (List.mem_of_getElem? (i := 39) rfl)
theorem hm_120 : (Cond.instanceMethod yX0_copyFrom) ∈ hh_wa := hh_in3 _ (List.mem_of_getElem? (i := 0) rfl)
theorem hm_121 : (Cond.selects RX0 yX0_copyFrom yX0_copyFrom) ∈ hh_wa := hh_in3 _ (List.mem_of_getElem? (i := 1) rfl)
theorem hm_122 : (Cond.code yX5_qualityAt cX5_qualityAt 3 (some .int)) ∈ hh_wa := hh_in3 _ (List.mem_of_getElem? (i := 2) rfl)
theorem hm_123 : (Cond.fieldLink RX5 59 "Handoverhouse$Masts" "bareQuality" "[[I") ∈ hh_wa := hh_in3 _ (List.mem_of_getElem? (i := 3) rfl)
theorem hm_124 : (Cond.code yX5_isHeard cX5_isHeard 3 (some .boolean)) ∈ hh_wa := hh_in3 _ (List.mem_of_getElem? (i := 4) rfl)
theorem hm_125 : (Cond.methodLink RX5 65 yX5_qualityAt) ∈ hh_wa := hh_in3 _ (List.mem_of_getElem? (i := 5) rfl)
theorem hm_126 : (Cond.instanceMethod yX5_qualityAt) ∈ hh_wa := hh_in3 _ (List.mem_of_getElem? (i := 6) rfl)
theorem hm_127 : (Cond.selects RX5 yX5_qualityAt yX5_qualityAt) ∈ hh_wa := hh_in3 _ (List.mem_of_getElem? (i := 7) rfl)
theorem hm_128 : (Cond.initialized RX5) ∈ hh_wa := hh_in3 _ (List.mem_of_getElem? (i := 8) rfl)
theorem hm_129 : (Cond.code yX5_bestHeardAt cX5_bestHeardAt 6 (some .int)) ∈ hh_wa := hh_in3 _ (List.mem_of_getElem? (i := 9) rfl)
theorem hm_130 : (Cond.fieldLink RX5 69 "Handoverhouse$Masts" "count" "I") ∈ hh_wa := hh_in3 _ (List.mem_of_getElem? (i := 10) rfl)
theorem hm_131 : (Cond.code yX5_placesHeardWell cX5_placesHeardWell 4 (some .int)) ∈ hh_wa := hh_in3 _ (List.mem_of_getElem? (i := 11) rfl)
theorem hm_132 : (Cond.methodLink RX5 72 yX5_bestHeardAt) ∈ hh_wa := hh_in3 _ (List.mem_of_getElem? (i := 12) rfl)
theorem hm_133 : (Cond.instanceMethod yX5_bestHeardAt) ∈ hh_wa := hh_in3 _ (List.mem_of_getElem? (i := 13) rfl)
theorem hm_134 : (Cond.selects RX5 yX5_bestHeardAt yX5_bestHeardAt) ∈ hh_wa := hh_in3 _ (List.mem_of_getElem? (i := 14) rfl)
theorem hm_135 : (Cond.code yX5_hasFreeChannels cX5_hasFreeChannels 3 (some .boolean)) ∈ hh_wa := hh_in3 _ (List.mem_of_getElem? (i := 15) rfl)
theorem hm_136 : (Cond.fieldLink RX5 76 "Handoverhouse$Masts" "all" "[LHandoverhouse$Mast;") ∈ hh_wa := hh_in3 _ (List.mem_of_getElem? (i := 16) rfl)
theorem hm_137 : (Cond.fieldLink RX5 80 "Handoverhouse$Mast" "channels" "I") ∈ hh_wa := hh_in3 _ (List.mem_of_getElem? (i := 17) rfl)
theorem hm_138 : (Cond.code yX5_page cX5_page 3 (some .boolean)) ∈ hh_wa := hh_in3 _ (List.mem_of_getElem? (i := 18) rfl)
theorem hm_139 : (Cond.fieldLink RX5 85 "Handoverhouse$Handset" "knownArea" "I") ∈ hh_wa := hh_in3 _ (List.mem_of_getElem? (i := 19) rfl)
theorem hm_140 : (Cond.fieldLink RX5 92 "Handoverhouse$Handset" "mast" "I") ∈ hh_wa := hh_in3 _ (List.mem_of_getElem? (i := 20) rfl)
theorem hm_141 : (Cond.methodLink RX5 88 yX4_awake) ∈ hh_wa := hh_in3 _ (List.mem_of_getElem? (i := 21) rfl)
theorem hm_142 : (Cond.instanceMethod yX4_awake) ∈ hh_wa := hh_in3 _ (List.mem_of_getElem? (i := 22) rfl)
theorem hm_143 : (Cond.selects RX4 yX4_awake yX4_awake) ∈ hh_wa := hh_in3 _ (List.mem_of_getElem? (i := 23) rfl)
theorem hm_144 : (Cond.methodLink RX5 95 yX4_awakeInArea) ∈ hh_wa := hh_in3 _ (List.mem_of_getElem? (i := 24) rfl)
theorem hm_145 : (Cond.instanceMethod yX4_awakeInArea) ∈ hh_wa := hh_in3 _ (List.mem_of_getElem? (i := 25) rfl)
theorem hm_146 : (Cond.selects RX4 yX4_awakeInArea yX4_awakeInArea) ∈ hh_wa := hh_in3 _ (List.mem_of_getElem? (i := 26) rfl)
theorem hm_147 : (Cond.methodLink RX5 98 yX5_isInArea) ∈ hh_wa := hh_in3 _ (List.mem_of_getElem? (i := 27) rfl)
theorem hm_148 : (Cond.instanceMethod yX5_isInArea) ∈ hh_wa := hh_in3 _ (List.mem_of_getElem? (i := 28) rfl)
theorem hm_149 : (Cond.selects RX5 yX5_isInArea yX5_isInArea) ∈ hh_wa := hh_in3 _ (List.mem_of_getElem? (i := 29) rfl)
theorem hm_150 : (Cond.code yX5_isInArea cX5_isInArea 3 (some .boolean)) ∈ hh_wa := hh_in3 _ (List.mem_of_getElem? (i := 30) rfl)
theorem hm_151 : (Cond.fieldLink RX5 102 "Handoverhouse$Mast" "area" "I") ∈ hh_wa := hh_in3 _ (List.mem_of_getElem? (i := 31) rfl)
theorem hm_152 : (Cond.code yX5_wouldBeFound cX5_wouldBeFound 3 (some .boolean)) ∈ hh_wa := hh_in3 _ (List.mem_of_getElem? (i := 32) rfl)
theorem hm_153 : (Cond.code yX5_handsetsToBeFound cX5_handsetsToBeFound 3 (some .int)) ∈ hh_wa := hh_in3 _ (List.mem_of_getElem? (i := 33) rfl)
theorem hm_154 : (Cond.methodLink RX5 105 yX5_wouldBeFound) ∈ hh_wa := hh_in3 _ (List.mem_of_getElem? (i := 34) rfl)
theorem hm_155 : (Cond.instanceMethod yX5_wouldBeFound) ∈ hh_wa := hh_in3 _ (List.mem_of_getElem? (i := 35) rfl)
theorem hm_156 : (Cond.selects RX5 yX5_wouldBeFound yX5_wouldBeFound) ∈ hh_wa := hh_in3 _ (List.mem_of_getElem? (i := 36) rfl)
theorem hm_157 : (Cond.code yX5_forgetAreas cX5_forgetAreas 3 (some .int)) ∈ hh_wa := hh_in3 _ (List.mem_of_getElem? (i := 37) rfl)
theorem hm_158 : (Cond.code yX5_second cX5_second 2 none) ∈ hh_wa := hh_in3 _ (List.mem_of_getElem? (i := 38) rfl)
theorem hm_159 : (Cond.fieldLink RX5 122 "Handoverhouse$Call" "caller" "LHandoverhouse$Leg;") ∈ hh_wa := hh_in3 _ (List.mem_of_getElem? (i := 39) rfl)
theorem hm_160 : (Cond.fieldLink RX5 130 "Handoverhouse$Call" "other" "LHandoverhouse$Leg;") ∈ hh_wa := hh_in4 _ (List.mem_of_getElem? (i := 0) rfl)
theorem hm_161 : (Cond.methodLink RX5 109 yX1_move) ∈ hh_wa := hh_in4 _ (List.mem_of_getElem? (i := 1) rfl)
theorem hm_162 : (Cond.instanceMethod yX1_move) ∈ hh_wa := hh_in4 _ (List.mem_of_getElem? (i := 2) rfl)
theorem hm_163 : (Cond.selects RX1 yX1_move yX1_move) ∈ hh_wa := hh_in4 _ (List.mem_of_getElem? (i := 3) rfl)
theorem hm_164 : (Cond.methodLink RX5 112 yX1_isIdle) ∈ hh_wa := hh_in4 _ (List.mem_of_getElem? (i := 4) rfl)
theorem hm_165 : (Cond.instanceMethod yX1_isIdle) ∈ hh_wa := hh_in4 _ (List.mem_of_getElem? (i := 5) rfl)
theorem hm_166 : (Cond.selects RX1 yX1_isIdle yX1_isIdle) ∈ hh_wa := hh_in4 _ (List.mem_of_getElem? (i := 6) rfl)
theorem hm_167 : (Cond.methodLink RX5 116 yX5_chooseMast) ∈ hh_wa := hh_in4 _ (List.mem_of_getElem? (i := 7) rfl)
theorem hm_168 : (Cond.instanceMethod yX5_chooseMast) ∈ hh_wa := hh_in4 _ (List.mem_of_getElem? (i := 8) rfl)
theorem hm_169 : (Cond.selects RX5 yX5_chooseMast yX5_chooseMast) ∈ hh_wa := hh_in4 _ (List.mem_of_getElem? (i := 9) rfl)
theorem hm_170 : (Cond.code yX5_chooseMast cX5_chooseMast 5 none) ∈ hh_wa := hh_in4 _ (List.mem_of_getElem? (i := 10) rfl)
theorem hm_171 : (Cond.fieldLink RX5 139 "Handoverhouse$Handset" "place" "I") ∈ hh_wa := hh_in4 _ (List.mem_of_getElem? (i := 11) rfl)
theorem hm_172 : (Cond.methodLink RX5 119 yX5_tellArea) ∈ hh_wa := hh_in4 _ (List.mem_of_getElem? (i := 12) rfl)
theorem hm_173 : (Cond.instanceMethod yX5_tellArea) ∈ hh_wa := hh_in4 _ (List.mem_of_getElem? (i := 13) rfl)
theorem hm_174 : (Cond.selects RX5 yX5_tellArea yX5_tellArea) ∈ hh_wa := hh_in4 _ (List.mem_of_getElem? (i := 14) rfl)
theorem hm_175 : (Cond.code yX5_tellArea cX5_tellArea 3 none) ∈ hh_wa := hh_in4 _ (List.mem_of_getElem? (i := 15) rfl)
theorem hm_176 : (Cond.fieldLink RX5 142 "Handoverhouse$Handset" "toldArea" "I") ∈ hh_wa := hh_in4 _ (List.mem_of_getElem? (i := 16) rfl)
theorem hm_177 : (Cond.fieldLink RX5 145 "Handoverhouse$Handset" "toldAt" "I") ∈ hh_wa := hh_in4 _ (List.mem_of_getElem? (i := 17) rfl)
theorem hm_178 : (Cond.methodLink RX5 148 yX1_tell) ∈ hh_wa := hh_in4 _ (List.mem_of_getElem? (i := 18) rfl)
theorem hm_179 : (Cond.instanceMethod yX1_tell) ∈ hh_wa := hh_in4 _ (List.mem_of_getElem? (i := 19) rfl)
theorem hm_180 : (Cond.selects RX1 yX1_tell yX1_tell) ∈ hh_wa := hh_in4 _ (List.mem_of_getElem? (i := 20) rfl)
theorem hm_181 : (Cond.methodLink RX5 126 yX5_lookAtLeg) ∈ hh_wa := hh_in4 _ (List.mem_of_getElem? (i := 21) rfl)
theorem hm_182 : (Cond.instanceMethod yX5_lookAtLeg) ∈ hh_wa := hh_in4 _ (List.mem_of_getElem? (i := 22) rfl)
theorem hm_183 : (Cond.selects RX5 yX5_lookAtLeg yX5_lookAtLeg) ∈ hh_wa := hh_in4 _ (List.mem_of_getElem? (i := 23) rfl)
theorem hm_184 : (Cond.code yX5_lookAtLeg cX5_lookAtLeg 7 none) ∈ hh_wa := hh_in4 _ (List.mem_of_getElem? (i := 24) rfl)
theorem hm_185 : (Cond.fieldLink RX5 152 "Handoverhouse$Call" "ended" "I") ∈ hh_wa := hh_in4 _ (List.mem_of_getElem? (i := 25) rfl)
theorem hm_186 : (Cond.fieldLink RX5 160 "Handoverhouse$Leg" "handset" "I") ∈ hh_wa := hh_in4 _ (List.mem_of_getElem? (i := 26) rfl)
theorem hm_187 : (Cond.fieldLink RX5 163 "Handoverhouse$Leg" "mast" "I") ∈ hh_wa := hh_in4 _ (List.mem_of_getElem? (i := 27) rfl)
theorem hm_188 : (Cond.fieldLink RX5 175 "Handoverhouse$Leg" "waits" "I") ∈ hh_wa := hh_in4 _ (List.mem_of_getElem? (i := 28) rfl)
theorem hm_189 : (Cond.fieldLink RX5 182 "Handoverhouse$Leg" "bad" "I") ∈ hh_wa := hh_in4 _ (List.mem_of_getElem? (i := 29) rfl)
theorem hm_190 : (Cond.methodLink RX5 155 yX2_isUsed) ∈ hh_wa := hh_in4 _ (List.mem_of_getElem? (i := 30) rfl)
theorem hm_191 : (Cond.instanceMethod yX2_isUsed) ∈ hh_wa := hh_in4 _ (List.mem_of_getElem? (i := 31) rfl)
theorem hm_192 : (Cond.selects RX2 yX2_isUsed yX2_isUsed) ∈ hh_wa := hh_in4 _ (List.mem_of_getElem? (i := 32) rfl)
theorem hm_193 : (Cond.methodLink RX5 164 yX5_candidateFor) ∈ hh_wa := hh_in4 _ (List.mem_of_getElem? (i := 33) rfl)
theorem hm_194 : (Cond.instanceMethod yX5_candidateFor) ∈ hh_wa := hh_in4 _ (List.mem_of_getElem? (i := 34) rfl)
theorem hm_195 : (Cond.selects RX5 yX5_candidateFor yX5_candidateFor) ∈ hh_wa := hh_in4 _ (List.mem_of_getElem? (i := 35) rfl)
theorem hm_196 : (Cond.code yX5_candidateFor cX5_candidateFor 7 (some .int)) ∈ hh_wa := hh_in4 _ (List.mem_of_getElem? (i := 36) rfl)
theorem hm_197 : (Cond.fieldLink RX5 189 "Handoverhouse$Mast" "awake" "Z") ∈ hh_wa := hh_in4 _ (List.mem_of_getElem? (i := 37) rfl)
theorem hm_198 : (Cond.methodLink RX5 192 yX5_hasFreeChannels) ∈ hh_wa := hh_in4 _ (List.mem_of_getElem? (i := 38) rfl)
theorem hm_199 : (Cond.instanceMethod yX5_hasFreeChannels) ∈ hh_wa := hh_in4 _ (List.mem_of_getElem? (i := 39) rfl)
theorem hm_200 : (Cond.selects RX5 yX5_hasFreeChannels yX5_hasFreeChannels) ∈ hh_wa := hh_in5 _ (List.mem_of_getElem? (i := 0) rfl)
theorem hm_201 : (Cond.methodLink RX5 167 yX5_isHeard) ∈ hh_wa := hh_in5 _ (List.mem_of_getElem? (i := 1) rfl)
theorem hm_202 : (Cond.instanceMethod yX5_isHeard) ∈ hh_wa := hh_in5 _ (List.mem_of_getElem? (i := 2) rfl)
theorem hm_203 : (Cond.selects RX5 yX5_isHeard yX5_isHeard) ∈ hh_wa := hh_in5 _ (List.mem_of_getElem? (i := 3) rfl)
theorem hm_204 : (Cond.methodLink RX5 171 yX5_isMuchBetter) ∈ hh_wa := hh_in5 _ (List.mem_of_getElem? (i := 4) rfl)
theorem hm_205 : (Cond.instanceMethod yX5_isMuchBetter) ∈ hh_wa := hh_in5 _ (List.mem_of_getElem? (i := 5) rfl)
theorem hm_206 : (Cond.selects RX5 yX5_isMuchBetter yX5_isMuchBetter) ∈ hh_wa := hh_in5 _ (List.mem_of_getElem? (i := 6) rfl)
theorem hm_207 : (Cond.code yX5_isMuchBetter cX5_isMuchBetter 4 (some .boolean)) ∈ hh_wa := hh_in5 _ (List.mem_of_getElem? (i := 7) rfl)
theorem hm_208 : (Cond.methodLink RX5 178 yX5_handOver) ∈ hh_wa := hh_in5 _ (List.mem_of_getElem? (i := 8) rfl)
theorem hm_209 : (Cond.instanceMethod yX5_handOver) ∈ hh_wa := hh_in5 _ (List.mem_of_getElem? (i := 9) rfl)
theorem hm_210 : (Cond.selects RX5 yX5_handOver yX5_handOver) ∈ hh_wa := hh_in5 _ (List.mem_of_getElem? (i := 10) rfl)
theorem hm_211 : (Cond.code yX5_handOver cX5_handOver 4 none) ∈ hh_wa := hh_in5 _ (List.mem_of_getElem? (i := 11) rfl)
theorem hm_212 : (Cond.fieldLink RX5 195 "Handoverhouse$Call" "handovers" "I") ∈ hh_wa := hh_in5 _ (List.mem_of_getElem? (i := 12) rfl)
theorem hm_213 : (Cond.fieldLink RX5 198 "Handoverhouse$Leg" "leftMast" "I") ∈ hh_wa := hh_in5 _ (List.mem_of_getElem? (i := 13) rfl)
theorem hm_214 : (Cond.fieldLink RX5 201 "Handoverhouse$Leg" "leftAt" "I") ∈ hh_wa := hh_in5 _ (List.mem_of_getElem? (i := 14) rfl)
theorem hm_215 : (Cond.fieldLink RX5 204 "Handoverhouse$Call" "pingPongs" "I") ∈ hh_wa := hh_in5 _ (List.mem_of_getElem? (i := 15) rfl)
theorem hm_216 : (Cond.methodLink RX5 185 yX5_end) ∈ hh_wa := hh_in5 _ (List.mem_of_getElem? (i := 16) rfl)
theorem hm_217 : (Cond.instanceMethod yX5_end) ∈ hh_wa := hh_in5 _ (List.mem_of_getElem? (i := 17) rfl)
theorem hm_218 : (Cond.selects RX5 yX5_end yX5_end) ∈ hh_wa := hh_in5 _ (List.mem_of_getElem? (i := 18) rfl)
theorem hm_219 : (Cond.code yX5_end cX5_end 3 none) ∈ hh_wa := hh_in5 _ (List.mem_of_getElem? (i := 19) rfl)
theorem hm_220 : (Cond.methodLink RX5 251 yX5_release) ∈ hh_wa := hh_in5 _ (List.mem_of_getElem? (i := 20) rfl)
theorem hm_221 : (Cond.instanceMethod yX5_release) ∈ hh_wa := hh_in5 _ (List.mem_of_getElem? (i := 21) rfl)
theorem hm_222 : (Cond.selects RX5 yX5_release yX5_release) ∈ hh_wa := hh_in5 _ (List.mem_of_getElem? (i := 22) rfl)
theorem hm_223 : (Cond.code yX5_release cX5_release 2 none) ∈ hh_wa := hh_in5 _ (List.mem_of_getElem? (i := 23) rfl)
theorem hm_224 : (Cond.fieldLink RX5 244 "Handoverhouse$Handset" "call" "I") ∈ hh_wa := hh_in5 _ (List.mem_of_getElem? (i := 24) rfl)
theorem hm_225 : (Cond.methodLink RX5 133 yX5_charge) ∈ hh_wa := hh_in5 _ (List.mem_of_getElem? (i := 25) rfl)
theorem hm_226 : (Cond.instanceMethod yX5_charge) ∈ hh_wa := hh_in5 _ (List.mem_of_getElem? (i := 26) rfl)
theorem hm_227 : (Cond.selects RX5 yX5_charge yX5_charge) ∈ hh_wa := hh_in5 _ (List.mem_of_getElem? (i := 27) rfl)
theorem hm_228 : (Cond.code yX5_charge cX5_charge 4 none) ∈ hh_wa := hh_in5 _ (List.mem_of_getElem? (i := 28) rfl)
theorem hm_229 : (Cond.fieldLink RX5 211 "Handoverhouse$Handset" "balance" "I") ∈ hh_wa := hh_in5 _ (List.mem_of_getElem? (i := 29) rfl)
theorem hm_230 : (Cond.fieldLink RX5 214 "Handoverhouse$Call" "paid" "I") ∈ hh_wa := hh_in5 _ (List.mem_of_getElem? (i := 30) rfl)
theorem hm_231 : (Cond.fieldLink RX5 217 "Handoverhouse$Call" "seconds" "I") ∈ hh_wa := hh_in5 _ (List.mem_of_getElem? (i := 31) rfl)
theorem hm_232 : (Cond.methodLink RX5 207 yX5_price) ∈ hh_wa := hh_in5 _ (List.mem_of_getElem? (i := 32) rfl)
theorem hm_233 : (Cond.instanceMethod yX5_price) ∈ hh_wa := hh_in5 _ (List.mem_of_getElem? (i := 33) rfl)
theorem hm_234 : (Cond.selects RX5 yX5_price yX5_price) ∈ hh_wa := hh_in5 _ (List.mem_of_getElem? (i := 34) rfl)
theorem hm_235 : (Cond.code yX5_price cX5_price 3 (some .int)) ∈ hh_wa := hh_in5 _ (List.mem_of_getElem? (i := 35) rfl)
theorem hm_236 : (Cond.fieldLink RX5 224 "Handoverhouse$Mast" "operator" "I") ∈ hh_wa := hh_in5 _ (List.mem_of_getElem? (i := 36) rfl)
theorem hm_237 : (Cond.fieldLink RX5 227 "Handoverhouse$Handset" "operator" "I") ∈ hh_wa := hh_in5 _ (List.mem_of_getElem? (i := 37) rfl)
theorem hm_238 : (Cond.methodLink RX5 220 yX5_carry) ∈ hh_wa := hh_in5 _ (List.mem_of_getElem? (i := 38) rfl)
theorem hm_239 : (Cond.instanceMethod yX5_carry) ∈ hh_wa := hh_in5 _ (List.mem_of_getElem? (i := 39) rfl)
theorem hm_240 : (Cond.selects RX5 yX5_carry yX5_carry) ∈ hh_wa := hh_in6 _ (List.mem_of_getElem? (i := 0) rfl)
theorem hm_241 : (Cond.code yX5_carry cX5_carry 2 none) ∈ hh_wa := hh_in6 _ (List.mem_of_getElem? (i := 1) rfl)
theorem hm_242 : (Cond.methodLink RX5 136 yX5_deliverTexts) ∈ hh_wa := hh_in6 _ (List.mem_of_getElem? (i := 2) rfl)
theorem hm_243 : (Cond.instanceMethod yX5_deliverTexts) ∈ hh_wa := hh_in6 _ (List.mem_of_getElem? (i := 3) rfl)
theorem hm_244 : (Cond.selects RX5 yX5_deliverTexts yX5_deliverTexts) ∈ hh_wa := hh_in6 _ (List.mem_of_getElem? (i := 4) rfl)
theorem hm_245 : (Cond.code yX5_deliverTexts cX5_deliverTexts 2 none) ∈ hh_wa := hh_in6 _ (List.mem_of_getElem? (i := 5) rfl)
theorem hm_246 : (Cond.fieldLink RX5 228 "Handoverhouse$Handset" "textsGot" "I") ∈ hh_wa := hh_in6 _ (List.mem_of_getElem? (i := 6) rfl)
theorem hm_247 : (Cond.fieldLink RX5 231 "Handoverhouse$Handset" "textsWaiting" "I") ∈ hh_wa := hh_in6 _ (List.mem_of_getElem? (i := 7) rfl)
theorem hm_248 : (Cond.code yX5_tryCall cX5_tryCall 6 (some .int)) ∈ hh_wa := hh_in6 _ (List.mem_of_getElem? (i := 8) rfl)
theorem hm_249 : (Cond.methodLink RX5 234 yX5_page) ∈ hh_wa := hh_in6 _ (List.mem_of_getElem? (i := 9) rfl)
theorem hm_250 : (Cond.instanceMethod yX5_page) ∈ hh_wa := hh_in6 _ (List.mem_of_getElem? (i := 10) rfl)
theorem hm_251 : (Cond.selects RX5 yX5_page yX5_page) ∈ hh_wa := hh_in6 _ (List.mem_of_getElem? (i := 11) rfl)
theorem hm_252 : (Cond.methodLink RX5 237 yX5_join) ∈ hh_wa := hh_in6 _ (List.mem_of_getElem? (i := 12) rfl)
theorem hm_253 : (Cond.instanceMethod yX5_join) ∈ hh_wa := hh_in6 _ (List.mem_of_getElem? (i := 13) rfl)
theorem hm_254 : (Cond.selects RX5 yX5_join yX5_join) ∈ hh_wa := hh_in6 _ (List.mem_of_getElem? (i := 14) rfl)
theorem hm_255 : (Cond.code yX5_join cX5_join 3 none) ∈ hh_wa := hh_in6 _ (List.mem_of_getElem? (i := 15) rfl)
theorem hm_256 : (Cond.code yX5_tryEmergency cX5_tryEmergency 4 (some .int)) ∈ hh_wa := hh_in6 _ (List.mem_of_getElem? (i := 16) rfl)
theorem hm_257 : (Cond.methodLink RX5 241 yX5_callToPush) ∈ hh_wa := hh_in6 _ (List.mem_of_getElem? (i := 17) rfl)
theorem hm_258 : (Cond.instanceMethod yX5_callToPush) ∈ hh_wa := hh_in6 _ (List.mem_of_getElem? (i := 18) rfl)
theorem hm_259 : (Cond.selects RX5 yX5_callToPush yX5_callToPush) ∈ hh_wa := hh_in6 _ (List.mem_of_getElem? (i := 19) rfl)
theorem hm_260 : (Cond.code yX5_callToPush cX5_callToPush 4 (some .int)) ∈ hh_wa := hh_in6 _ (List.mem_of_getElem? (i := 20) rfl)
theorem hm_261 : (Cond.methodLink RX5 247 yX0_hasLegOn) ∈ hh_wa := hh_in6 _ (List.mem_of_getElem? (i := 21) rfl)
theorem hm_262 : (Cond.instanceMethod yX0_hasLegOn) ∈ hh_wa := hh_in6 _ (List.mem_of_getElem? (i := 22) rfl)
theorem hm_263 : (Cond.selects RX0 yX0_hasLegOn yX0_hasLegOn) ∈ hh_wa := hh_in6 _ (List.mem_of_getElem? (i := 23) rfl)
theorem hm_264 : (Cond.code yX5_switchOff cX5_switchOff 2 none) ∈ hh_wa := hh_in6 _ (List.mem_of_getElem? (i := 24) rfl)
theorem hm_265 : (Cond.code yX5_sendAway cX5_sendAway 3 none) ∈ hh_wa := hh_in6 _ (List.mem_of_getElem? (i := 25) rfl)
theorem hm_266 : (Cond.code yX5_campersOn cX5_campersOn 4 (some .int)) ∈ hh_wa := hh_in6 _ (List.mem_of_getElem? (i := 26) rfl)
theorem hm_267 : (Cond.code yX5_callsThat cX5_callsThat 4 (some .int)) ∈ hh_wa := hh_in6 _ (List.mem_of_getElem? (i := 27) rfl)
theorem hm_268 : (Cond.code yX5_sumOfCalls cX5_sumOfCalls 4 (some .int)) ∈ hh_wa := hh_in6 _ (List.mem_of_getElem? (i := 28) rfl)
theorem hm_269 : (Cond.methodLink RX5 254 yX0_fact) ∈ hh_wa := hh_in6 _ (List.mem_of_getElem? (i := 29) rfl)
theorem hm_270 : (Cond.instanceMethod yX0_fact) ∈ hh_wa := hh_in6 _ (List.mem_of_getElem? (i := 30) rfl)
theorem hm_271 : (Cond.selects RX0 yX0_fact yX0_fact) ∈ hh_wa := hh_in6 _ (List.mem_of_getElem? (i := 31) rfl)
theorem hm_272 : (Cond.code yX5_sumOfHandsets cX5_sumOfHandsets 4 (some .int)) ∈ hh_wa := hh_in6 _ (List.mem_of_getElem? (i := 32) rfl)
theorem hm_273 : (Cond.methodLink RX5 257 yX1_fact) ∈ hh_wa := hh_in6 _ (List.mem_of_getElem? (i := 33) rfl)
theorem hm_274 : (Cond.instanceMethod yX1_fact) ∈ hh_wa := hh_in6 _ (List.mem_of_getElem? (i := 34) rfl)
theorem hm_275 : (Cond.selects RX1 yX1_fact yX1_fact) ∈ hh_wa := hh_in6 _ (List.mem_of_getElem? (i := 35) rfl)
theorem hm_276 : (Cond.code yX5_secondsOfEndedCalls cX5_secondsOfEndedCalls 3 (some .int)) ∈ hh_wa := hh_in6 _ (List.mem_of_getElem? (i := 36) rfl)
theorem hm_277 : (Cond.code yX6_init cX6_init 1 none) ∈ hh_wa := hh_in6 _ (List.mem_of_getElem? (i := 37) rfl)
theorem hm_278 : (Cond.methodLink RX6 3 objectInit) ∈ hh_wa := hh_in6 _ (List.mem_of_getElem? (i := 38) rfl)
theorem hm_279 : (Cond.fieldLink RX6 9 "Handoverhouse$Survey" "undisturbed" "[I") ∈ hh_wa := hh_in6 _ (List.mem_of_getElem? (i := 39) rfl)
theorem hm_280 : (Cond.fieldLink RX6 15 "Handoverhouse$Survey" "disturbed" "[I") ∈ hh_wa := hh_in7 _ (List.mem_of_getElem? (i := 0) rfl)
theorem hm_281 : (Cond.fieldLink RX6 18 "Handoverhouse$Survey" "noise" "[I") ∈ hh_wa := hh_in7 _ (List.mem_of_getElem? (i := 1) rfl)
theorem hm_282 : (Cond.code yX6_take cX6_take 5 none) ∈ hh_wa := hh_in7 _ (List.mem_of_getElem? (i := 2) rfl)
theorem hm_283 : (Cond.fieldLink RX6 21 "Handoverhouse$Road" "masts" "LHandoverhouse$Masts;") ∈ hh_wa := hh_in7 _ (List.mem_of_getElem? (i := 3) rfl)
theorem hm_284 : (Cond.fieldLink RX6 27 "Handoverhouse$Masts" "count" "I") ∈ hh_wa := hh_in7 _ (List.mem_of_getElem? (i := 4) rfl)
theorem hm_285 : (Cond.methodLink RX6 33 yX6_takeMast) ∈ hh_wa := hh_in7 _ (List.mem_of_getElem? (i := 5) rfl)
theorem hm_286 : (Cond.instanceMethod yX6_takeMast) ∈ hh_wa := hh_in7 _ (List.mem_of_getElem? (i := 6) rfl)
theorem hm_287 : (Cond.selects RX6 yX6_takeMast yX6_takeMast) ∈ hh_wa := hh_in7 _ (List.mem_of_getElem? (i := 7) rfl)
theorem hm_288 : (Cond.initialized RX6) ∈ hh_wa := hh_in7 _ (List.mem_of_getElem? (i := 8) rfl)
theorem hm_289 : (Cond.code yX6_takeMast cX6_takeMast 7 none) ∈ hh_wa := hh_in7 _ (List.mem_of_getElem? (i := 9) rfl)
theorem hm_290 : (Cond.fieldLink RX6 37 "Handoverhouse$Masts" "all" "[LHandoverhouse$Mast;") ∈ hh_wa := hh_in7 _ (List.mem_of_getElem? (i := 10) rfl)
theorem hm_291 : (Cond.fieldLink RX6 45 "Handoverhouse$Mast" "frequency" "I") ∈ hh_wa := hh_in7 _ (List.mem_of_getElem? (i := 11) rfl)
theorem hm_292 : (Cond.methodLink RX6 50 Lib.Math.max.name) ∈ hh_wa := hh_in7 _ (List.mem_of_getElem? (i := 12) rfl)
theorem hm_293 : (Cond.static Lib.Math.max.name) ∈ hh_wa := hh_in7 _ (List.mem_of_getElem? (i := 13) rfl)
theorem hm_294 : (Cond.initialized "java/lang/Math") ∈ hh_wa := hh_in7 _ (List.mem_of_getElem? (i := 14) rfl)
theorem hm_295 : (Cond.code Lib.Math.max.name Lib.Math.max.code 2 (some .int)) ∈ hh_wa := hh_in7 _ (List.mem_of_getElem? (i := 15) rfl)
theorem hm_296 : (Cond.methodLink RX6 41 yX5_qualityAt) ∈ hh_wa := hh_in7 _ (List.mem_of_getElem? (i := 16) rfl)
theorem hm_297 : (Cond.methodLink RX6 55 yX3_noiseAt) ∈ hh_wa := hh_in7 _ (List.mem_of_getElem? (i := 17) rfl)
theorem hm_298 : (Cond.code yX6_placeFor cX6_placeFor 6 (some .int)) ∈ hh_wa := hh_in7 _ (List.mem_of_getElem? (i := 18) rfl)
theorem hm_299 : (Cond.methodLink RX6 59 yX6_servedFrom) ∈ hh_wa := hh_in7 _ (List.mem_of_getElem? (i := 19) rfl)
theorem hm_300 : (Cond.instanceMethod yX6_servedFrom) ∈ hh_wa := hh_in7 _ (List.mem_of_getElem? (i := 20) rfl)
theorem hm_301 : (Cond.selects RX6 yX6_servedFrom yX6_servedFrom) ∈ hh_wa := hh_in7 _ (List.mem_of_getElem? (i := 21) rfl)
theorem hm_302 : (Cond.code yX6_servedFrom cX6_servedFrom 7 (some .int)) ∈ hh_wa := hh_in7 _ (List.mem_of_getElem? (i := 22) rfl)
theorem hm_303 : (Cond.methodLink RX6 62 Lib.Math.abs.name) ∈ hh_wa := hh_in7 _ (List.mem_of_getElem? (i := 23) rfl)
theorem hm_304 : (Cond.static Lib.Math.abs.name) ∈ hh_wa := hh_in7 _ (List.mem_of_getElem? (i := 24) rfl)
theorem hm_305 : (Cond.code Lib.Math.abs.name Lib.Math.abs.code 1 (some .int)) ∈ hh_wa := hh_in7 _ (List.mem_of_getElem? (i := 25) rfl)
theorem hm_306 : (Cond.code yX7_init cX7_init 1 none) ∈ hh_wa := hh_in7 _ (List.mem_of_getElem? (i := 26) rfl)
theorem hm_307 : (Cond.methodLink RX7 1 objectInit) ∈ hh_wa := hh_in7 _ (List.mem_of_getElem? (i := 27) rfl)
theorem hm_308 : (Cond.classLink RX7 7 RX4) ∈ hh_wa := hh_in7 _ (List.mem_of_getElem? (i := 28) rfl)
theorem hm_309 : (Cond.instantiable RX4 3) ∈ hh_wa := hh_in7 _ (List.mem_of_getElem? (i := 29) rfl)
theorem hm_310 : (Cond.fieldLink RX7 10 "Handoverhouse" "masts" "LHandoverhouse$Masts;") ∈ hh_wa := hh_in7 _ (List.mem_of_getElem? (i := 30) rfl)
theorem hm_311 : (Cond.classLink RX7 16 RX5) ∈ hh_wa := hh_in7 _ (List.mem_of_getElem? (i := 31) rfl)
theorem hm_312 : (Cond.instantiable RX5 10) ∈ hh_wa := hh_in7 _ (List.mem_of_getElem? (i := 32) rfl)
theorem hm_313 : (Cond.fieldLink RX7 21 "Handoverhouse" "road" "LHandoverhouse$Road;") ∈ hh_wa := hh_in7 _ (List.mem_of_getElem? (i := 33) rfl)
theorem hm_314 : (Cond.fieldLink RX7 25 "Handoverhouse" "trial" "LHandoverhouse$Road;") ∈ hh_wa := hh_in7 _ (List.mem_of_getElem? (i := 34) rfl)
theorem hm_315 : (Cond.classLink RX7 28 RX6) ∈ hh_wa := hh_in7 _ (List.mem_of_getElem? (i := 35) rfl)
theorem hm_316 : (Cond.instantiable RX6 3) ∈ hh_wa := hh_in7 _ (List.mem_of_getElem? (i := 36) rfl)
theorem hm_317 : (Cond.fieldLink RX7 31 "Handoverhouse" "survey" "LHandoverhouse$Survey;") ∈ hh_wa := hh_in7 _ (List.mem_of_getElem? (i := 37) rfl)
theorem hm_318 : (Cond.methodLink RX7 9 yX4_init) ∈ hh_wa := hh_in7 _ (List.mem_of_getElem? (i := 38) rfl)
theorem hm_319 : (Cond.instanceMethod yX4_init) ∈ hh_wa := hh_in7 _ (List.mem_of_getElem? (i := 39) rfl)
theorem hm_320 : (Cond.methodLink RX7 18 yX5_init) ∈ hh_wa := hh_in8 _ (List.mem_of_getElem? (i := 0) rfl)
theorem hm_321 : (Cond.instanceMethod yX5_init) ∈ hh_wa := hh_in8 _ (List.mem_of_getElem? (i := 1) rfl)
theorem hm_322 : (Cond.instanceMethod yX6_init) ∈ hh_wa := hh_in8 _ (List.mem_of_getElem? (i := 2) rfl)
theorem hm_323 : (Cond.code yX7_mast cX7_mast 8 (some .int)) ∈ hh_wa := hh_in8 _ (List.mem_of_getElem? (i := 3) rfl)
theorem hm_324 : (Cond.fieldLink RX7 39 "Handoverhouse$Masts" "count" "I") ∈ hh_wa := hh_in8 _ (List.mem_of_getElem? (i := 4) rfl)
theorem hm_325 : (Cond.fieldLink RX7 50 "Handoverhouse$Masts" "all" "[LHandoverhouse$Mast;") ∈ hh_wa := hh_in8 _ (List.mem_of_getElem? (i := 5) rfl)
theorem hm_326 : (Cond.fieldLink RX7 54 "Handoverhouse$Mast" "place" "I") ∈ hh_wa := hh_in8 _ (List.mem_of_getElem? (i := 6) rfl)
theorem hm_327 : (Cond.fieldLink RX7 59 "Handoverhouse$Mast" "power" "I") ∈ hh_wa := hh_in8 _ (List.mem_of_getElem? (i := 7) rfl)
theorem hm_328 : (Cond.fieldLink RX7 62 "Handoverhouse$Mast" "frequency" "I") ∈ hh_wa := hh_in8 _ (List.mem_of_getElem? (i := 8) rfl)
theorem hm_329 : (Cond.fieldLink RX7 65 "Handoverhouse$Mast" "channels" "I") ∈ hh_wa := hh_in8 _ (List.mem_of_getElem? (i := 9) rfl)
theorem hm_330 : (Cond.fieldLink RX7 68 "Handoverhouse$Mast" "area" "I") ∈ hh_wa := hh_in8 _ (List.mem_of_getElem? (i := 10) rfl)
theorem hm_331 : (Cond.fieldLink RX7 71 "Handoverhouse$Mast" "operator" "I") ∈ hh_wa := hh_in8 _ (List.mem_of_getElem? (i := 11) rfl)
theorem hm_332 : (Cond.fieldLink RX7 74 "Handoverhouse$Mast" "awake" "Z") ∈ hh_wa := hh_in8 _ (List.mem_of_getElem? (i := 12) rfl)
theorem hm_333 : (Cond.methodLink RX7 35 yX7_demandWithin) ∈ hh_wa := hh_in8 _ (List.mem_of_getElem? (i := 13) rfl)
theorem hm_334 : (Cond.static yX7_demandWithin) ∈ hh_wa := hh_in8 _ (List.mem_of_getElem? (i := 14) rfl)
theorem hm_335 : (Cond.initialized RX7) ∈ hh_wa := hh_in8 _ (List.mem_of_getElem? (i := 15) rfl)
theorem hm_336 : (Cond.code yX7_demandWithin cX7_demandWithin 3 none) ∈ hh_wa := hh_in8 _ (List.mem_of_getElem? (i := 16) rfl)
theorem hm_337 : (Cond.methodLink RX7 78 yX4_measure) ∈ hh_wa := hh_in8 _ (List.mem_of_getElem? (i := 17) rfl)
theorem hm_338 : (Cond.instanceMethod yX4_measure) ∈ hh_wa := hh_in8 _ (List.mem_of_getElem? (i := 18) rfl)
theorem hm_339 : (Cond.selects RX4 yX4_measure yX4_measure) ∈ hh_wa := hh_in8 _ (List.mem_of_getElem? (i := 19) rfl)
theorem hm_340 : (Cond.code yX7_handset cX7_handset 6 (some .int)) ∈ hh_wa := hh_in8 _ (List.mem_of_getElem? (i := 20) rfl)
theorem hm_341 : (Cond.fieldLink RX7 81 "Handoverhouse$Road" "handsetCount" "I") ∈ hh_wa := hh_in8 _ (List.mem_of_getElem? (i := 21) rfl)
theorem hm_342 : (Cond.fieldLink RX7 86 "Handoverhouse$Road" "handsets" "[LHandoverhouse$Handset;") ∈ hh_wa := hh_in8 _ (List.mem_of_getElem? (i := 22) rfl)
theorem hm_343 : (Cond.fieldLink RX7 90 "Handoverhouse$Handset" "operator" "I") ∈ hh_wa := hh_in8 _ (List.mem_of_getElem? (i := 23) rfl)
theorem hm_344 : (Cond.fieldLink RX7 93 "Handoverhouse$Handset" "place" "I") ∈ hh_wa := hh_in8 _ (List.mem_of_getElem? (i := 24) rfl)
theorem hm_345 : (Cond.fieldLink RX7 94 "Handoverhouse$Handset" "speed" "I") ∈ hh_wa := hh_in8 _ (List.mem_of_getElem? (i := 25) rfl)
theorem hm_346 : (Cond.fieldLink RX7 97 "Handoverhouse$Handset" "balance" "I") ∈ hh_wa := hh_in8 _ (List.mem_of_getElem? (i := 26) rfl)
theorem hm_347 : (Cond.fieldLink RX7 100 "Handoverhouse$Handset" "on" "Z") ∈ hh_wa := hh_in8 _ (List.mem_of_getElem? (i := 27) rfl)
theorem hm_348 : (Cond.code yX7_speed cX7_speed 4 (some .int)) ∈ hh_wa := hh_in8 _ (List.mem_of_getElem? (i := 28) rfl)
theorem hm_349 : (Cond.methodLink RX7 103 yX7_demandNumber) ∈ hh_wa := hh_in8 _ (List.mem_of_getElem? (i := 29) rfl)
theorem hm_350 : (Cond.static yX7_demandNumber) ∈ hh_wa := hh_in8 _ (List.mem_of_getElem? (i := 30) rfl)
theorem hm_351 : (Cond.code yX7_demandNumber cX7_demandNumber 2 none) ∈ hh_wa := hh_in8 _ (List.mem_of_getElem? (i := 31) rfl)
theorem hm_352 : (Cond.code yX7_top cX7_top 3 (some .int)) ∈ hh_wa := hh_in8 _ (List.mem_of_getElem? (i := 32) rfl)
theorem hm_353 : (Cond.code yX7_turn cX7_turn 4 (some .boolean)) ∈ hh_wa := hh_in8 _ (List.mem_of_getElem? (i := 33) rfl)
theorem hm_354 : (Cond.methodLink RX7 107 yX5_switchOff) ∈ hh_wa := hh_in8 _ (List.mem_of_getElem? (i := 34) rfl)
theorem hm_355 : (Cond.instanceMethod yX5_switchOff) ∈ hh_wa := hh_in8 _ (List.mem_of_getElem? (i := 35) rfl)
theorem hm_356 : (Cond.selects RX5 yX5_switchOff yX5_switchOff) ∈ hh_wa := hh_in8 _ (List.mem_of_getElem? (i := 36) rfl)
theorem hm_357 : (Cond.code yX7_wake cX7_wake 3 (some .boolean)) ∈ hh_wa := hh_in8 _ (List.mem_of_getElem? (i := 37) rfl)
theorem hm_358 : (Cond.fieldLink RX7 111 "Handoverhouse$Road" "load" "[I") ∈ hh_wa := hh_in8 _ (List.mem_of_getElem? (i := 38) rfl)
theorem hm_359 : (Cond.methodLink RX7 115 yX5_sendAway) ∈ hh_wa := hh_in8 _ (List.mem_of_getElem? (i := 39) rfl)
theorem hm_360 : (Cond.instanceMethod yX5_sendAway) ∈ hh_wa := hh_in9 _ (List.mem_of_getElem? (i := 0) rfl)
theorem hm_361 : (Cond.selects RX5 yX5_sendAway yX5_sendAway) ∈ hh_wa := hh_in9 _ (List.mem_of_getElem? (i := 1) rfl)
theorem hm_362 : (Cond.code yX7_call cX7_call 3 (some .int)) ∈ hh_wa := hh_in9 _ (List.mem_of_getElem? (i := 2) rfl)
theorem hm_363 : (Cond.methodLink RX7 119 yX7_demandOthers) ∈ hh_wa := hh_in9 _ (List.mem_of_getElem? (i := 3) rfl)
theorem hm_364 : (Cond.static yX7_demandOthers) ∈ hh_wa := hh_in9 _ (List.mem_of_getElem? (i := 4) rfl)
theorem hm_365 : (Cond.code yX7_demandOthers cX7_demandOthers 2 none) ∈ hh_wa := hh_in9 _ (List.mem_of_getElem? (i := 5) rfl)
theorem hm_366 : (Cond.methodLink RX7 122 yX7_demandRoomForCall) ∈ hh_wa := hh_in9 _ (List.mem_of_getElem? (i := 6) rfl)
theorem hm_367 : (Cond.instanceMethod yX7_demandRoomForCall) ∈ hh_wa := hh_in9 _ (List.mem_of_getElem? (i := 7) rfl)
theorem hm_368 : (Cond.selects RX7 yX7_demandRoomForCall yX7_demandRoomForCall) ∈ hh_wa := hh_in9 _ (List.mem_of_getElem? (i := 8) rfl)
theorem hm_369 : (Cond.code yX7_demandRoomForCall cX7_demandRoomForCall 1 none) ∈ hh_wa := hh_in9 _ (List.mem_of_getElem? (i := 9) rfl)
theorem hm_370 : (Cond.fieldLink RX7 133 "Handoverhouse$Road" "callCount" "I") ∈ hh_wa := hh_in9 _ (List.mem_of_getElem? (i := 10) rfl)
theorem hm_371 : (Cond.methodLink RX7 125 yX5_tryCall) ∈ hh_wa := hh_in9 _ (List.mem_of_getElem? (i := 11) rfl)
theorem hm_372 : (Cond.instanceMethod yX5_tryCall) ∈ hh_wa := hh_in9 _ (List.mem_of_getElem? (i := 12) rfl)
theorem hm_373 : (Cond.selects RX5 yX5_tryCall yX5_tryCall) ∈ hh_wa := hh_in9 _ (List.mem_of_getElem? (i := 13) rfl)
theorem hm_374 : (Cond.code yX7_emergency cX7_emergency 2 (some .int)) ∈ hh_wa := hh_in9 _ (List.mem_of_getElem? (i := 14) rfl)
theorem hm_375 : (Cond.methodLink RX7 129 yX5_tryEmergency) ∈ hh_wa := hh_in9 _ (List.mem_of_getElem? (i := 15) rfl)
theorem hm_376 : (Cond.instanceMethod yX5_tryEmergency) ∈ hh_wa := hh_in9 _ (List.mem_of_getElem? (i := 16) rfl)
theorem hm_377 : (Cond.selects RX5 yX5_tryEmergency yX5_tryEmergency) ∈ hh_wa := hh_in9 _ (List.mem_of_getElem? (i := 17) rfl)
theorem hm_378 : (Cond.code yX7_hang cX7_hang 3 (some .int)) ∈ hh_wa := hh_in9 _ (List.mem_of_getElem? (i := 18) rfl)
theorem hm_379 : (Cond.fieldLink RX7 136 "Handoverhouse$Road" "calls" "[LHandoverhouse$Call;") ∈ hh_wa := hh_in9 _ (List.mem_of_getElem? (i := 19) rfl)
theorem hm_380 : (Cond.fieldLink RX7 140 "Handoverhouse$Call" "ended" "I") ∈ hh_wa := hh_in9 _ (List.mem_of_getElem? (i := 20) rfl)
theorem hm_381 : (Cond.fieldLink RX7 151 "Handoverhouse$Call" "seconds" "I") ∈ hh_wa := hh_in9 _ (List.mem_of_getElem? (i := 21) rfl)
theorem hm_382 : (Cond.methodLink RX7 147 yX5_end) ∈ hh_wa := hh_in9 _ (List.mem_of_getElem? (i := 22) rfl)
theorem hm_383 : (Cond.code yX7_text cX7_text 3 (some .int)) ∈ hh_wa := hh_in9 _ (List.mem_of_getElem? (i := 23) rfl)
theorem hm_384 : (Cond.fieldLink RX7 154 "Handoverhouse$Road" "textCount" "I") ∈ hh_wa := hh_in9 _ (List.mem_of_getElem? (i := 24) rfl)
theorem hm_385 : (Cond.fieldLink RX7 159 "Handoverhouse$Handset" "textsWaiting" "I") ∈ hh_wa := hh_in9 _ (List.mem_of_getElem? (i := 25) rfl)
theorem hm_386 : (Cond.code yX7_forget cX7_forget 1 (some .int)) ∈ hh_wa := hh_in9 _ (List.mem_of_getElem? (i := 26) rfl)
theorem hm_387 : (Cond.methodLink RX7 162 yX5_forgetAreas) ∈ hh_wa := hh_in9 _ (List.mem_of_getElem? (i := 27) rfl)
theorem hm_388 : (Cond.instanceMethod yX5_forgetAreas) ∈ hh_wa := hh_in9 _ (List.mem_of_getElem? (i := 28) rfl)
theorem hm_389 : (Cond.selects RX5 yX5_forgetAreas yX5_forgetAreas) ∈ hh_wa := hh_in9 _ (List.mem_of_getElem? (i := 29) rfl)
theorem hm_390 : (Cond.code yX7_pass cX7_pass 4 (some .int)) ∈ hh_wa := hh_in9 _ (List.mem_of_getElem? (i := 30) rfl)
theorem hm_391 : (Cond.methodLink RX7 166 yX5_callsThat) ∈ hh_wa := hh_in9 _ (List.mem_of_getElem? (i := 31) rfl)
theorem hm_392 : (Cond.instanceMethod yX5_callsThat) ∈ hh_wa := hh_in9 _ (List.mem_of_getElem? (i := 32) rfl)
theorem hm_393 : (Cond.selects RX5 yX5_callsThat yX5_callsThat) ∈ hh_wa := hh_in9 _ (List.mem_of_getElem? (i := 33) rfl)
theorem hm_394 : (Cond.methodLink RX7 169 yX5_second) ∈ hh_wa := hh_in9 _ (List.mem_of_getElem? (i := 34) rfl)
theorem hm_395 : (Cond.instanceMethod yX5_second) ∈ hh_wa := hh_in9 _ (List.mem_of_getElem? (i := 35) rfl)
theorem hm_396 : (Cond.selects RX5 yX5_second yX5_second) ∈ hh_wa := hh_in9 _ (List.mem_of_getElem? (i := 36) rfl)
theorem hm_397 : (Cond.code yX7_quality cX7_quality 3 (some .int)) ∈ hh_wa := hh_in9 _ (List.mem_of_getElem? (i := 37) rfl)
theorem hm_398 : (Cond.methodLink RX7 172 yX5_qualityAt) ∈ hh_wa := hh_in9 _ (List.mem_of_getElem? (i := 38) rfl)
theorem hm_399 : (Cond.code yX7_best cX7_best 2 (some .int)) ∈ hh_wa := hh_in9 _ (List.mem_of_getElem? (i := 39) rfl)
theorem hm_400 : (Cond.methodLink RX7 175 yX5_bestHeardAt) ∈ hh_wa := hh_in10 _ (List.mem_of_getElem? (i := 0) rfl)
theorem hm_401 : (Cond.code yX7_ofMast cX7_ofMast 3 (some .int)) ∈ hh_wa := hh_in10 _ (List.mem_of_getElem? (i := 1) rfl)
theorem hm_402 : (Cond.fieldLink RX7 181 "Handoverhouse$Road" "carried" "[I") ∈ hh_wa := hh_in10 _ (List.mem_of_getElem? (i := 2) rfl)
theorem hm_403 : (Cond.methodLink RX7 178 yX5_campersOn) ∈ hh_wa := hh_in10 _ (List.mem_of_getElem? (i := 3) rfl)
theorem hm_404 : (Cond.instanceMethod yX5_campersOn) ∈ hh_wa := hh_in10 _ (List.mem_of_getElem? (i := 4) rfl)
theorem hm_405 : (Cond.selects RX5 yX5_campersOn yX5_campersOn) ∈ hh_wa := hh_in10 _ (List.mem_of_getElem? (i := 5) rfl)
theorem hm_406 : (Cond.methodLink RX7 184 yX3_fact) ∈ hh_wa := hh_in10 _ (List.mem_of_getElem? (i := 6) rfl)
theorem hm_407 : (Cond.instanceMethod yX3_fact) ∈ hh_wa := hh_in10 _ (List.mem_of_getElem? (i := 7) rfl)
theorem hm_408 : (Cond.selects RX3 yX3_fact yX3_fact) ∈ hh_wa := hh_in10 _ (List.mem_of_getElem? (i := 8) rfl)
theorem hm_409 : (Cond.code yX7_ofHandset cX7_ofHandset 3 (some .int)) ∈ hh_wa := hh_in10 _ (List.mem_of_getElem? (i := 9) rfl)
theorem hm_410 : (Cond.methodLink RX7 187 yX1_fact) ∈ hh_wa := hh_in10 _ (List.mem_of_getElem? (i := 10) rfl)
theorem hm_411 : (Cond.code yX7_ofCall cX7_ofCall 3 (some .int)) ∈ hh_wa := hh_in10 _ (List.mem_of_getElem? (i := 11) rfl)
theorem hm_412 : (Cond.methodLink RX7 188 yX0_fact) ∈ hh_wa := hh_in10 _ (List.mem_of_getElem? (i := 12) rfl)
theorem hm_413 : (Cond.code yX7_many cX7_many 2 (some .int)) ∈ hh_wa := hh_in10 _ (List.mem_of_getElem? (i := 13) rfl)
theorem hm_414 : (Cond.fieldLink RX7 189 "Handoverhouse$Road" "now" "I") ∈ hh_wa := hh_in10 _ (List.mem_of_getElem? (i := 14) rfl)
theorem hm_415 : (Cond.fieldLink RX7 195 "Handoverhouse$Road" "pages" "I") ∈ hh_wa := hh_in10 _ (List.mem_of_getElem? (i := 15) rfl)
theorem hm_416 : (Cond.methodLink RX7 192 yX5_sumOfCalls) ∈ hh_wa := hh_in10 _ (List.mem_of_getElem? (i := 16) rfl)
theorem hm_417 : (Cond.instanceMethod yX5_sumOfCalls) ∈ hh_wa := hh_in10 _ (List.mem_of_getElem? (i := 17) rfl)
theorem hm_418 : (Cond.selects RX5 yX5_sumOfCalls yX5_sumOfCalls) ∈ hh_wa := hh_in10 _ (List.mem_of_getElem? (i := 18) rfl)
theorem hm_419 : (Cond.methodLink RX7 198 yX5_sumOfHandsets) ∈ hh_wa := hh_in10 _ (List.mem_of_getElem? (i := 19) rfl)
theorem hm_420 : (Cond.instanceMethod yX5_sumOfHandsets) ∈ hh_wa := hh_in10 _ (List.mem_of_getElem? (i := 20) rfl)
theorem hm_421 : (Cond.selects RX5 yX5_sumOfHandsets yX5_sumOfHandsets) ∈ hh_wa := hh_in10 _ (List.mem_of_getElem? (i := 21) rfl)
theorem hm_422 : (Cond.methodLink RX7 201 yX5_handsetsToBeFound) ∈ hh_wa := hh_in10 _ (List.mem_of_getElem? (i := 22) rfl)
theorem hm_423 : (Cond.instanceMethod yX5_handsetsToBeFound) ∈ hh_wa := hh_in10 _ (List.mem_of_getElem? (i := 23) rfl)
theorem hm_424 : (Cond.selects RX5 yX5_handsetsToBeFound yX5_handsetsToBeFound) ∈ hh_wa := hh_in10 _ (List.mem_of_getElem? (i := 24) rfl)
theorem hm_425 : (Cond.methodLink RX7 204 yX5_placesHeardWell) ∈ hh_wa := hh_in10 _ (List.mem_of_getElem? (i := 25) rfl)
theorem hm_426 : (Cond.instanceMethod yX5_placesHeardWell) ∈ hh_wa := hh_in10 _ (List.mem_of_getElem? (i := 26) rfl)
theorem hm_427 : (Cond.selects RX5 yX5_placesHeardWell yX5_placesHeardWell) ∈ hh_wa := hh_in10 _ (List.mem_of_getElem? (i := 27) rfl)
theorem hm_428 : (Cond.code yX7_meanSeconds cX7_meanSeconds 2 (some .double)) ∈ hh_wa := hh_in10 _ (List.mem_of_getElem? (i := 28) rfl)
theorem hm_429 : (Cond.methodLink RX7 207 yX5_secondsOfEndedCalls) ∈ hh_wa := hh_in10 _ (List.mem_of_getElem? (i := 29) rfl)
theorem hm_430 : (Cond.instanceMethod yX5_secondsOfEndedCalls) ∈ hh_wa := hh_in10 _ (List.mem_of_getElem? (i := 30) rfl)
theorem hm_431 : (Cond.selects RX5 yX5_secondsOfEndedCalls yX5_secondsOfEndedCalls) ∈ hh_wa := hh_in10 _ (List.mem_of_getElem? (i := 31) rfl)
theorem hm_432 : (Cond.code yX7_endsIn cX7_endsIn 4 (some .int)) ∈ hh_wa := hh_in10 _ (List.mem_of_getElem? (i := 32) rfl)
theorem hm_433 : (Cond.methodLink RX7 210 yX5_copyFrom) ∈ hh_wa := hh_in10 _ (List.mem_of_getElem? (i := 33) rfl)
theorem hm_434 : (Cond.instanceMethod yX5_copyFrom) ∈ hh_wa := hh_in10 _ (List.mem_of_getElem? (i := 34) rfl)
theorem hm_435 : (Cond.selects RX5 yX5_copyFrom yX5_copyFrom) ∈ hh_wa := hh_in10 _ (List.mem_of_getElem? (i := 35) rfl)
theorem hm_436 : (Cond.code yX7_wouldBeOn cX7_wouldBeOn 4 (some .int)) ∈ hh_wa := hh_in10 _ (List.mem_of_getElem? (i := 36) rfl)
theorem hm_437 : (Cond.fieldLink RX7 214 "Handoverhouse$Handset" "mast" "I") ∈ hh_wa := hh_in10 _ (List.mem_of_getElem? (i := 37) rfl)
theorem hm_438 : (Cond.code yX7_bestPlace cX7_bestPlace 3 (some .int)) ∈ hh_wa := hh_in10 _ (List.mem_of_getElem? (i := 38) rfl)
theorem hm_439 : (Cond.methodLink RX7 217 yX6_take) ∈ hh_wa := hh_in10 _ (List.mem_of_getElem? (i := 39) rfl)
theorem hm_440 : (Cond.instanceMethod yX6_take) ∈ hh_wa := hh_in11 _ (List.mem_of_getElem? (i := 0) rfl)
theorem hm_441 : (Cond.selects RX6 yX6_take yX6_take) ∈ hh_wa := hh_in11 _ (List.mem_of_getElem? (i := 1) rfl)
theorem hm_442 : (Cond.methodLink RX7 221 yX6_placeFor) ∈ hh_wa := hh_in11 _ (List.mem_of_getElem? (i := 2) rfl)
theorem hm_443 : (Cond.instanceMethod yX6_placeFor) ∈ hh_wa := hh_in11 _ (List.mem_of_getElem? (i := 3) rfl)
theorem hm_444 : (Cond.selects RX6 yX6_placeFor yX6_placeFor) ∈ hh_wa := hh_in11 _ (List.mem_of_getElem? (i := 4) rfl)
theorem hm_445 : (Cond.code yX7_digest cX7_digest 4 (some .long)) ∈ hh_wa := hh_in11 _ (List.mem_of_getElem? (i := 5) rfl)
theorem hm_446 : (Cond.constantLong RX7 224 (58188)) ∈ hh_wa := hh_in11 _ (List.mem_of_getElem? (i := 6) rfl)
theorem hm_447 : (Cond.constantLong RX7 226 (31)) ∈ hh_wa := hh_in11 _ (List.mem_of_getElem? (i := 7) rfl)
theorem hm_448 : (Cond.methodLink RX7 228 yX7_many) ∈ hh_wa := hh_in11 _ (List.mem_of_getElem? (i := 8) rfl)
theorem hm_449 : (Cond.instanceMethod yX7_many) ∈ hh_wa := hh_in11 _ (List.mem_of_getElem? (i := 9) rfl)
theorem hm_450 : (Cond.selects RX7 yX7_many yX7_many) ∈ hh_wa := hh_in11 _ (List.mem_of_getElem? (i := 10) rfl)
theorem hm_451 : (Cond.methodLink RX7 231 yX7_addMasts) ∈ hh_wa := hh_in11 _ (List.mem_of_getElem? (i := 11) rfl)
theorem hm_452 : (Cond.instanceMethod yX7_addMasts) ∈ hh_wa := hh_in11 _ (List.mem_of_getElem? (i := 12) rfl)
theorem hm_453 : (Cond.selects RX7 yX7_addMasts yX7_addMasts) ∈ hh_wa := hh_in11 _ (List.mem_of_getElem? (i := 13) rfl)
theorem hm_454 : (Cond.code yX7_addMasts cX7_addMasts 7 (some .long)) ∈ hh_wa := hh_in11 _ (List.mem_of_getElem? (i := 14) rfl)
theorem hm_455 : (Cond.methodLink RX7 247 yX7_ofMast) ∈ hh_wa := hh_in11 _ (List.mem_of_getElem? (i := 15) rfl)
theorem hm_456 : (Cond.instanceMethod yX7_ofMast) ∈ hh_wa := hh_in11 _ (List.mem_of_getElem? (i := 16) rfl)
theorem hm_457 : (Cond.selects RX7 yX7_ofMast yX7_ofMast) ∈ hh_wa := hh_in11 _ (List.mem_of_getElem? (i := 17) rfl)
theorem hm_458 : (Cond.methodLink RX7 250 yX7_quality) ∈ hh_wa := hh_in11 _ (List.mem_of_getElem? (i := 18) rfl)
theorem hm_459 : (Cond.instanceMethod yX7_quality) ∈ hh_wa := hh_in11 _ (List.mem_of_getElem? (i := 19) rfl)
theorem hm_460 : (Cond.selects RX7 yX7_quality yX7_quality) ∈ hh_wa := hh_in11 _ (List.mem_of_getElem? (i := 20) rfl)
theorem hm_461 : (Cond.methodLink RX7 235 yX7_addHandsets) ∈ hh_wa := hh_in11 _ (List.mem_of_getElem? (i := 21) rfl)
theorem hm_462 : (Cond.instanceMethod yX7_addHandsets) ∈ hh_wa := hh_in11 _ (List.mem_of_getElem? (i := 22) rfl)
theorem hm_463 : (Cond.selects RX7 yX7_addHandsets yX7_addHandsets) ∈ hh_wa := hh_in11 _ (List.mem_of_getElem? (i := 23) rfl)
theorem hm_464 : (Cond.code yX7_addHandsets cX7_addHandsets 7 (some .long)) ∈ hh_wa := hh_in11 _ (List.mem_of_getElem? (i := 24) rfl)
theorem hm_465 : (Cond.methodLink RX7 253 yX7_ofHandset) ∈ hh_wa := hh_in11 _ (List.mem_of_getElem? (i := 25) rfl)
theorem hm_466 : (Cond.instanceMethod yX7_ofHandset) ∈ hh_wa := hh_in11 _ (List.mem_of_getElem? (i := 26) rfl)
theorem hm_467 : (Cond.selects RX7 yX7_ofHandset yX7_ofHandset) ∈ hh_wa := hh_in11 _ (List.mem_of_getElem? (i := 27) rfl)
theorem hm_468 : (Cond.methodLink RX7 256 yX7_wouldBeOn) ∈ hh_wa := hh_in11 _ (List.mem_of_getElem? (i := 28) rfl)
theorem hm_469 : (Cond.instanceMethod yX7_wouldBeOn) ∈ hh_wa := hh_in11 _ (List.mem_of_getElem? (i := 29) rfl)
theorem hm_470 : (Cond.selects RX7 yX7_wouldBeOn yX7_wouldBeOn) ∈ hh_wa := hh_in11 _ (List.mem_of_getElem? (i := 30) rfl)
theorem hm_471 : (Cond.methodLink RX7 238 yX7_addCalls) ∈ hh_wa := hh_in11 _ (List.mem_of_getElem? (i := 31) rfl)
theorem hm_472 : (Cond.instanceMethod yX7_addCalls) ∈ hh_wa := hh_in11 _ (List.mem_of_getElem? (i := 32) rfl)
theorem hm_473 : (Cond.selects RX7 yX7_addCalls yX7_addCalls) ∈ hh_wa := hh_in11 _ (List.mem_of_getElem? (i := 33) rfl)
theorem hm_474 : (Cond.code yX7_addCalls cX7_addCalls 7 (some .long)) ∈ hh_wa := hh_in11 _ (List.mem_of_getElem? (i := 34) rfl)
theorem hm_475 : (Cond.methodLink RX7 259 yX7_ofCall) ∈ hh_wa := hh_in11 _ (List.mem_of_getElem? (i := 35) rfl)
theorem hm_476 : (Cond.instanceMethod yX7_ofCall) ∈ hh_wa := hh_in11 _ (List.mem_of_getElem? (i := 36) rfl)
theorem hm_477 : (Cond.selects RX7 yX7_ofCall yX7_ofCall) ∈ hh_wa := hh_in11 _ (List.mem_of_getElem? (i := 37) rfl)
theorem hm_478 : (Cond.methodLink RX7 262 yX7_endsIn) ∈ hh_wa := hh_in11 _ (List.mem_of_getElem? (i := 38) rfl)
theorem hm_479 : (Cond.instanceMethod yX7_endsIn) ∈ hh_wa := hh_in11 _ (List.mem_of_getElem? (i := 39) rfl)
theorem hm_480 : (Cond.selects RX7 yX7_endsIn yX7_endsIn) ∈ hh_wa := hh_in12 _ (List.mem_of_getElem? (i := 0) rfl)
theorem hm_481 : (Cond.methodLink RX7 241 yX7_best) ∈ hh_wa := hh_in12 _ (List.mem_of_getElem? (i := 1) rfl)
theorem hm_482 : (Cond.instanceMethod yX7_best) ∈ hh_wa := hh_in12 _ (List.mem_of_getElem? (i := 2) rfl)
theorem hm_483 : (Cond.selects RX7 yX7_best yX7_best) ∈ hh_wa := hh_in12 _ (List.mem_of_getElem? (i := 3) rfl)
theorem hm_484 : (Cond.methodLink RX7 244 yX7_bestPlace) ∈ hh_wa := hh_in12 _ (List.mem_of_getElem? (i := 4) rfl)
theorem hm_485 : (Cond.instanceMethod yX7_bestPlace) ∈ hh_wa := hh_in12 _ (List.mem_of_getElem? (i := 5) rfl)
theorem hm_486 : (Cond.selects RX7 yX7_bestPlace yX7_bestPlace) ∈ hh_wa := hh_in12 _ (List.mem_of_getElem? (i := 6) rfl)
theorem dX0_init_0 : decode cX0_init 0 = .ok (.aload_n 0, 1) := by decide +kernel
theorem dX0_init_1 : decode cX0_init 1 = .ok (.invokespecial 3, 3) := by decide +kernel
theorem dX0_init_4 : decode cX0_init 4 = .ok (.aload_n 0, 1) := by decide +kernel
theorem dX0_init_5 : decode cX0_init 5 = .ok (.new 9, 3) := by decide +kernel
theorem dX0_init_8 : decode cX0_init 8 = .ok (.dup, 1) := by decide +kernel
theorem dX0_init_9 : decode cX0_init 9 = .ok (.invokespecial 11, 3) := by decide +kernel
theorem dX0_init_12 : decode cX0_init 12 = .ok (.putfield 12, 3) := by decide +kernel
theorem dX0_init_15 : decode cX0_init 15 = .ok (.aload_n 0, 1) := by decide +kernel
theorem dX0_init_16 : decode cX0_init 16 = .ok (.new 9, 3) := by decide +kernel
theorem dX0_init_19 : decode cX0_init 19 = .ok (.dup, 1) := by decide +kernel
theorem dX0_init_20 : decode cX0_init 20 = .ok (.invokespecial 11, 3) := by decide +kernel
theorem dX0_init_23 : decode cX0_init 23 = .ok (.putfield 18, 3) := by decide +kernel
theorem dX0_init_26 : decode cX0_init 26 = .ok (.aload_n 0, 1) := by decide +kernel
theorem dX0_init_27 : decode cX0_init 27 = .ok (.iconst 0, 1) := by decide +kernel
theorem dX0_init_28 : decode cX0_init 28 = .ok (.putfield 21, 3) := by decide +kernel
theorem dX0_init_31 : decode cX0_init 31 = .ok (.return_, 1) := by decide +kernel
theorem dX0_hasLegOn_0 : decode cX0_hasLegOn 0 = .ok (.aload_n 0, 1) := by decide +kernel
theorem dX0_hasLegOn_1 : decode cX0_hasLegOn 1 = .ok (.getfield 12, 3) := by decide +kernel
theorem dX0_hasLegOn_4 : decode cX0_hasLegOn 4 = .ok (.getfield 25, 3) := by decide +kernel
theorem dX0_hasLegOn_7 : decode cX0_hasLegOn 7 = .ok (.iload_n 1, 1) := by decide +kernel
theorem dX0_hasLegOn_8 : decode cX0_hasLegOn 8 = .ok (.if_icmp .eq 14, 3) := by decide +kernel
theorem dX0_hasLegOn_11 : decode cX0_hasLegOn 11 = .ok (.aload_n 0, 1) := by decide +kernel
theorem dX0_hasLegOn_12 : decode cX0_hasLegOn 12 = .ok (.getfield 18, 3) := by decide +kernel
theorem dX0_hasLegOn_15 : decode cX0_hasLegOn 15 = .ok (.getfield 25, 3) := by decide +kernel
theorem dX0_hasLegOn_18 : decode cX0_hasLegOn 18 = .ok (.iload_n 1, 1) := by decide +kernel
theorem dX0_hasLegOn_19 : decode cX0_hasLegOn 19 = .ok (.if_icmp .ne 7, 3) := by decide +kernel
theorem dX0_hasLegOn_22 : decode cX0_hasLegOn 22 = .ok (.iconst 1, 1) := by decide +kernel
theorem dX0_hasLegOn_23 : decode cX0_hasLegOn 23 = .ok (.goto 4, 3) := by decide +kernel
theorem dX0_hasLegOn_26 : decode cX0_hasLegOn 26 = .ok (.iconst 0, 1) := by decide +kernel
theorem dX0_hasLegOn_27 : decode cX0_hasLegOn 27 = .ok (.ireturn, 1) := by decide +kernel
theorem dX0_copyFrom_0 : decode cX0_copyFrom 0 = .ok (.aload_n 0, 1) := by decide +kernel
theorem dX0_copyFrom_1 : decode cX0_copyFrom 1 = .ok (.getfield 12, 3) := by decide +kernel
theorem dX0_copyFrom_4 : decode cX0_copyFrom 4 = .ok (.aload_n 1, 1) := by decide +kernel
theorem dX0_copyFrom_5 : decode cX0_copyFrom 5 = .ok (.getfield 12, 3) := by decide +kernel
theorem dX0_copyFrom_8 : decode cX0_copyFrom 8 = .ok (.invokevirtual 28, 3) := by decide +kernel
theorem dX0_copyFrom_11 : decode cX0_copyFrom 11 = .ok (.aload_n 0, 1) := by decide +kernel
theorem dX0_copyFrom_12 : decode cX0_copyFrom 12 = .ok (.getfield 18, 3) := by decide +kernel
theorem dX0_copyFrom_15 : decode cX0_copyFrom 15 = .ok (.aload_n 1, 1) := by decide +kernel
theorem dX0_copyFrom_16 : decode cX0_copyFrom 16 = .ok (.getfield 18, 3) := by decide +kernel
theorem dX0_copyFrom_19 : decode cX0_copyFrom 19 = .ok (.invokevirtual 28, 3) := by decide +kernel
theorem dX0_copyFrom_22 : decode cX0_copyFrom 22 = .ok (.aload_n 0, 1) := by decide +kernel
theorem dX0_copyFrom_23 : decode cX0_copyFrom 23 = .ok (.aload_n 1, 1) := by decide +kernel
theorem dX0_copyFrom_24 : decode cX0_copyFrom 24 = .ok (.getfield 32, 3) := by decide +kernel
theorem dX0_copyFrom_27 : decode cX0_copyFrom 27 = .ok (.putfield 32, 3) := by decide +kernel
theorem dX0_copyFrom_30 : decode cX0_copyFrom 30 = .ok (.aload_n 0, 1) := by decide +kernel
theorem dX0_copyFrom_31 : decode cX0_copyFrom 31 = .ok (.aload_n 1, 1) := by decide +kernel
theorem dX0_copyFrom_32 : decode cX0_copyFrom 32 = .ok (.getfield 35, 3) := by decide +kernel
theorem dX0_copyFrom_35 : decode cX0_copyFrom 35 = .ok (.putfield 35, 3) := by decide +kernel
theorem dX0_copyFrom_38 : decode cX0_copyFrom 38 = .ok (.aload_n 0, 1) := by decide +kernel
theorem dX0_copyFrom_39 : decode cX0_copyFrom 39 = .ok (.aload_n 1, 1) := by decide +kernel
theorem dX0_copyFrom_40 : decode cX0_copyFrom 40 = .ok (.getfield 38, 3) := by decide +kernel
theorem dX0_copyFrom_43 : decode cX0_copyFrom 43 = .ok (.putfield 38, 3) := by decide +kernel
theorem dX0_copyFrom_46 : decode cX0_copyFrom 46 = .ok (.aload_n 0, 1) := by decide +kernel
theorem dX0_copyFrom_47 : decode cX0_copyFrom 47 = .ok (.aload_n 1, 1) := by decide +kernel
theorem dX0_copyFrom_48 : decode cX0_copyFrom 48 = .ok (.getfield 41, 3) := by decide +kernel
theorem dX0_copyFrom_51 : decode cX0_copyFrom 51 = .ok (.putfield 41, 3) := by decide +kernel
theorem dX0_copyFrom_54 : decode cX0_copyFrom 54 = .ok (.aload_n 0, 1) := by decide +kernel
theorem dX0_copyFrom_55 : decode cX0_copyFrom 55 = .ok (.aload_n 1, 1) := by decide +kernel
theorem dX0_copyFrom_56 : decode cX0_copyFrom 56 = .ok (.getfield 21, 3) := by decide +kernel
theorem dX0_copyFrom_59 : decode cX0_copyFrom 59 = .ok (.putfield 21, 3) := by decide +kernel
theorem dX0_copyFrom_62 : decode cX0_copyFrom 62 = .ok (.return_, 1) := by decide +kernel
theorem dX0_fact_0 : decode cX0_fact 0 = .ok (.iload_n 1, 1) := by decide +kernel
theorem dX0_fact_1 : decode cX0_fact 1 = .ok (.tableswitch 96 0 7 #[47, 55, 63, 68, 73, 78, 83, 88], 47) := by decide +kernel
theorem dX0_fact_48 : decode cX0_fact 48 = .ok (.aload_n 0, 1) := by decide +kernel
theorem dX0_fact_49 : decode cX0_fact 49 = .ok (.getfield 12, 3) := by decide +kernel
theorem dX0_fact_52 : decode cX0_fact 52 = .ok (.getfield 44, 3) := by decide +kernel
theorem dX0_fact_55 : decode cX0_fact 55 = .ok (.ireturn, 1) := by decide +kernel
theorem dX0_fact_56 : decode cX0_fact 56 = .ok (.aload_n 0, 1) := by decide +kernel
theorem dX0_fact_57 : decode cX0_fact 57 = .ok (.getfield 18, 3) := by decide +kernel
theorem dX0_fact_60 : decode cX0_fact 60 = .ok (.getfield 44, 3) := by decide +kernel
theorem dX0_fact_63 : decode cX0_fact 63 = .ok (.ireturn, 1) := by decide +kernel
theorem dX0_fact_64 : decode cX0_fact 64 = .ok (.aload_n 0, 1) := by decide +kernel
theorem dX0_fact_65 : decode cX0_fact 65 = .ok (.getfield 32, 3) := by decide +kernel
theorem dX0_fact_68 : decode cX0_fact 68 = .ok (.ireturn, 1) := by decide +kernel
theorem dX0_fact_69 : decode cX0_fact 69 = .ok (.aload_n 0, 1) := by decide +kernel
theorem dX0_fact_70 : decode cX0_fact 70 = .ok (.getfield 35, 3) := by decide +kernel
theorem dX0_fact_73 : decode cX0_fact 73 = .ok (.ireturn, 1) := by decide +kernel
theorem dX0_fact_74 : decode cX0_fact 74 = .ok (.aload_n 0, 1) := by decide +kernel
theorem dX0_fact_75 : decode cX0_fact 75 = .ok (.getfield 38, 3) := by decide +kernel
theorem dX0_fact_78 : decode cX0_fact 78 = .ok (.ireturn, 1) := by decide +kernel
theorem dX0_fact_79 : decode cX0_fact 79 = .ok (.aload_n 0, 1) := by decide +kernel
theorem dX0_fact_80 : decode cX0_fact 80 = .ok (.getfield 41, 3) := by decide +kernel
theorem dX0_fact_83 : decode cX0_fact 83 = .ok (.ireturn, 1) := by decide +kernel
theorem dX0_fact_84 : decode cX0_fact 84 = .ok (.aload_n 0, 1) := by decide +kernel
theorem dX0_fact_85 : decode cX0_fact 85 = .ok (.getfield 21, 3) := by decide +kernel
theorem dX0_fact_88 : decode cX0_fact 88 = .ok (.ireturn, 1) := by decide +kernel
theorem dX0_fact_89 : decode cX0_fact 89 = .ok (.aload_n 0, 1) := by decide +kernel
theorem dX0_fact_90 : decode cX0_fact 90 = .ok (.getfield 12, 3) := by decide +kernel
theorem dX0_fact_93 : decode cX0_fact 93 = .ok (.getfield 25, 3) := by decide +kernel
theorem dX0_fact_96 : decode cX0_fact 96 = .ok (.ireturn, 1) := by decide +kernel
theorem dX0_fact_97 : decode cX0_fact 97 = .ok (.aload_n 0, 1) := by decide +kernel
theorem dX0_fact_98 : decode cX0_fact 98 = .ok (.getfield 18, 3) := by decide +kernel
theorem dX0_fact_101 : decode cX0_fact 101 = .ok (.getfield 25, 3) := by decide +kernel
theorem dX0_fact_104 : decode cX0_fact 104 = .ok (.ireturn, 1) := by decide +kernel
theorem dX1_init_0 : decode cX1_init 0 = .ok (.aload_n 0, 1) := by decide +kernel
theorem dX1_init_1 : decode cX1_init 1 = .ok (.invokespecial 3, 3) := by decide +kernel
theorem dX1_init_4 : decode cX1_init 4 = .ok (.aload_n 0, 1) := by decide +kernel
theorem dX1_init_5 : decode cX1_init 5 = .ok (.iconst (-1), 1) := by decide +kernel
theorem dX1_init_6 : decode cX1_init 6 = .ok (.putfield 9, 3) := by decide +kernel
theorem dX1_init_9 : decode cX1_init 9 = .ok (.aload_n 0, 1) := by decide +kernel
theorem dX1_init_10 : decode cX1_init 10 = .ok (.iconst (-1), 1) := by decide +kernel
theorem dX1_init_11 : decode cX1_init 11 = .ok (.putfield 15, 3) := by decide +kernel
theorem dX1_init_14 : decode cX1_init 14 = .ok (.aload_n 0, 1) := by decide +kernel
theorem dX1_init_15 : decode cX1_init 15 = .ok (.iconst (-1), 1) := by decide +kernel
theorem dX1_init_16 : decode cX1_init 16 = .ok (.putfield 18, 3) := by decide +kernel
theorem dX1_init_19 : decode cX1_init 19 = .ok (.aload_n 0, 1) := by decide +kernel
theorem dX1_init_20 : decode cX1_init 20 = .ok (.iconst (-1), 1) := by decide +kernel
theorem dX1_init_21 : decode cX1_init 21 = .ok (.putfield 21, 3) := by decide +kernel
theorem dX1_init_24 : decode cX1_init 24 = .ok (.return_, 1) := by decide +kernel
theorem dX1_isIdle_0 : decode cX1_isIdle 0 = .ok (.aload_n 0, 1) := by decide +kernel
theorem dX1_isIdle_1 : decode cX1_isIdle 1 = .ok (.getfield 24, 3) := by decide +kernel
theorem dX1_isIdle_4 : decode cX1_isIdle 4 = .ok (.ifCond .eq 15, 3) := by decide +kernel
theorem dX1_isIdle_7 : decode cX1_isIdle 7 = .ok (.aload_n 0, 1) := by decide +kernel
theorem dX1_isIdle_8 : decode cX1_isIdle 8 = .ok (.getfield 15, 3) := by decide +kernel
theorem dX1_isIdle_11 : decode cX1_isIdle 11 = .ok (.iconst (-1), 1) := by decide +kernel
theorem dX1_isIdle_12 : decode cX1_isIdle 12 = .ok (.if_icmp .ne 7, 3) := by decide +kernel
theorem dX1_isIdle_15 : decode cX1_isIdle 15 = .ok (.iconst 1, 1) := by decide +kernel
theorem dX1_isIdle_16 : decode cX1_isIdle 16 = .ok (.goto 4, 3) := by decide +kernel
theorem dX1_isIdle_19 : decode cX1_isIdle 19 = .ok (.iconst 0, 1) := by decide +kernel
theorem dX1_isIdle_20 : decode cX1_isIdle 20 = .ok (.ireturn, 1) := by decide +kernel
theorem dX1_move_0 : decode cX1_move 0 = .ok (.aload_n 0, 1) := by decide +kernel
theorem dX1_move_1 : decode cX1_move 1 = .ok (.dup, 1) := by decide +kernel
theorem dX1_move_2 : decode cX1_move 2 = .ok (.getfield 28, 3) := by decide +kernel
theorem dX1_move_5 : decode cX1_move 5 = .ok (.aload_n 0, 1) := by decide +kernel
theorem dX1_move_6 : decode cX1_move 6 = .ok (.getfield 31, 3) := by decide +kernel
theorem dX1_move_9 : decode cX1_move 9 = .ok (.iadd, 1) := by decide +kernel
theorem dX1_move_10 : decode cX1_move 10 = .ok (.putfield 28, 3) := by decide +kernel
theorem dX1_move_13 : decode cX1_move 13 = .ok (.aload_n 0, 1) := by decide +kernel
theorem dX1_move_14 : decode cX1_move 14 = .ok (.getfield 28, 3) := by decide +kernel
theorem dX1_move_17 : decode cX1_move 17 = .ok (.ifCond .ge 24, 3) := by decide +kernel
theorem dX1_move_20 : decode cX1_move 20 = .ok (.aload_n 0, 1) := by decide +kernel
theorem dX1_move_21 : decode cX1_move 21 = .ok (.aload_n 0, 1) := by decide +kernel
theorem dX1_move_22 : decode cX1_move 22 = .ok (.getfield 28, 3) := by decide +kernel
theorem dX1_move_25 : decode cX1_move 25 = .ok (.ineg, 1) := by decide +kernel
theorem dX1_move_26 : decode cX1_move 26 = .ok (.putfield 28, 3) := by decide +kernel
theorem dX1_move_29 : decode cX1_move 29 = .ok (.aload_n 0, 1) := by decide +kernel
theorem dX1_move_30 : decode cX1_move 30 = .ok (.aload_n 0, 1) := by decide +kernel
theorem dX1_move_31 : decode cX1_move 31 = .ok (.getfield 31, 3) := by decide +kernel
theorem dX1_move_34 : decode cX1_move 34 = .ok (.ineg, 1) := by decide +kernel
theorem dX1_move_35 : decode cX1_move 35 = .ok (.putfield 31, 3) := by decide +kernel
theorem dX1_move_38 : decode cX1_move 38 = .ok (.goto 33, 3) := by decide +kernel
theorem dX1_move_41 : decode cX1_move 41 = .ok (.aload_n 0, 1) := by decide +kernel
theorem dX1_move_42 : decode cX1_move 42 = .ok (.getfield 28, 3) := by decide +kernel
theorem dX1_move_45 : decode cX1_move 45 = .ok (.bipush 99, 2) := by decide +kernel
theorem dX1_move_47 : decode cX1_move 47 = .ok (.if_icmp .le 24, 3) := by decide +kernel
theorem dX1_move_50 : decode cX1_move 50 = .ok (.aload_n 0, 1) := by decide +kernel
theorem dX1_move_51 : decode cX1_move 51 = .ok (.sipush 198, 3) := by decide +kernel
theorem dX1_move_54 : decode cX1_move 54 = .ok (.aload_n 0, 1) := by decide +kernel
theorem dX1_move_55 : decode cX1_move 55 = .ok (.getfield 28, 3) := by decide +kernel
theorem dX1_move_58 : decode cX1_move 58 = .ok (.isub, 1) := by decide +kernel
theorem dX1_move_59 : decode cX1_move 59 = .ok (.putfield 28, 3) := by decide +kernel
theorem dX1_move_62 : decode cX1_move 62 = .ok (.aload_n 0, 1) := by decide +kernel
theorem dX1_move_63 : decode cX1_move 63 = .ok (.aload_n 0, 1) := by decide +kernel
theorem dX1_move_64 : decode cX1_move 64 = .ok (.getfield 31, 3) := by decide +kernel
theorem dX1_move_67 : decode cX1_move 67 = .ok (.ineg, 1) := by decide +kernel
theorem dX1_move_68 : decode cX1_move 68 = .ok (.putfield 31, 3) := by decide +kernel
theorem dX1_move_71 : decode cX1_move 71 = .ok (.return_, 1) := by decide +kernel
theorem dX1_tell_0 : decode cX1_tell 0 = .ok (.aload_n 0, 1) := by decide +kernel
theorem dX1_tell_1 : decode cX1_tell 1 = .ok (.iload_n 1, 1) := by decide +kernel
theorem dX1_tell_2 : decode cX1_tell 2 = .ok (.putfield 18, 3) := by decide +kernel
theorem dX1_tell_5 : decode cX1_tell 5 = .ok (.aload_n 0, 1) := by decide +kernel
theorem dX1_tell_6 : decode cX1_tell 6 = .ok (.iload_n 1, 1) := by decide +kernel
theorem dX1_tell_7 : decode cX1_tell 7 = .ok (.putfield 21, 3) := by decide +kernel
theorem dX1_tell_10 : decode cX1_tell 10 = .ok (.aload_n 0, 1) := by decide +kernel
theorem dX1_tell_11 : decode cX1_tell 11 = .ok (.iload_n 2, 1) := by decide +kernel
theorem dX1_tell_12 : decode cX1_tell 12 = .ok (.putfield 34, 3) := by decide +kernel
theorem dX1_tell_15 : decode cX1_tell 15 = .ok (.aload_n 0, 1) := by decide +kernel
theorem dX1_tell_16 : decode cX1_tell 16 = .ok (.dup, 1) := by decide +kernel
theorem dX1_tell_17 : decode cX1_tell 17 = .ok (.getfield 37, 3) := by decide +kernel
theorem dX1_tell_20 : decode cX1_tell 20 = .ok (.iconst 1, 1) := by decide +kernel
theorem dX1_tell_21 : decode cX1_tell 21 = .ok (.iadd, 1) := by decide +kernel
theorem dX1_tell_22 : decode cX1_tell 22 = .ok (.putfield 37, 3) := by decide +kernel
theorem dX1_tell_25 : decode cX1_tell 25 = .ok (.return_, 1) := by decide +kernel
theorem dX1_copyFrom_0 : decode cX1_copyFrom 0 = .ok (.aload_n 0, 1) := by decide +kernel
theorem dX1_copyFrom_1 : decode cX1_copyFrom 1 = .ok (.aload_n 1, 1) := by decide +kernel
theorem dX1_copyFrom_2 : decode cX1_copyFrom 2 = .ok (.getfield 40, 3) := by decide +kernel
theorem dX1_copyFrom_5 : decode cX1_copyFrom 5 = .ok (.putfield 40, 3) := by decide +kernel
theorem dX1_copyFrom_8 : decode cX1_copyFrom 8 = .ok (.aload_n 0, 1) := by decide +kernel
theorem dX1_copyFrom_9 : decode cX1_copyFrom 9 = .ok (.aload_n 1, 1) := by decide +kernel
theorem dX1_copyFrom_10 : decode cX1_copyFrom 10 = .ok (.getfield 28, 3) := by decide +kernel
theorem dX1_copyFrom_13 : decode cX1_copyFrom 13 = .ok (.putfield 28, 3) := by decide +kernel
theorem dX1_copyFrom_16 : decode cX1_copyFrom 16 = .ok (.aload_n 0, 1) := by decide +kernel
theorem dX1_copyFrom_17 : decode cX1_copyFrom 17 = .ok (.aload_n 1, 1) := by decide +kernel
theorem dX1_copyFrom_18 : decode cX1_copyFrom 18 = .ok (.getfield 31, 3) := by decide +kernel
theorem dX1_copyFrom_21 : decode cX1_copyFrom 21 = .ok (.putfield 31, 3) := by decide +kernel
theorem dX1_copyFrom_24 : decode cX1_copyFrom 24 = .ok (.aload_n 0, 1) := by decide +kernel
theorem dX1_copyFrom_25 : decode cX1_copyFrom 25 = .ok (.aload_n 1, 1) := by decide +kernel
theorem dX1_copyFrom_26 : decode cX1_copyFrom 26 = .ok (.getfield 43, 3) := by decide +kernel
theorem dX1_copyFrom_29 : decode cX1_copyFrom 29 = .ok (.putfield 43, 3) := by decide +kernel
theorem dX1_copyFrom_32 : decode cX1_copyFrom 32 = .ok (.aload_n 0, 1) := by decide +kernel
theorem dX1_copyFrom_33 : decode cX1_copyFrom 33 = .ok (.aload_n 1, 1) := by decide +kernel
theorem dX1_copyFrom_34 : decode cX1_copyFrom 34 = .ok (.getfield 24, 3) := by decide +kernel
theorem dX1_copyFrom_37 : decode cX1_copyFrom 37 = .ok (.putfield 24, 3) := by decide +kernel
theorem dX1_copyFrom_40 : decode cX1_copyFrom 40 = .ok (.aload_n 0, 1) := by decide +kernel
theorem dX1_copyFrom_41 : decode cX1_copyFrom 41 = .ok (.aload_n 1, 1) := by decide +kernel
theorem dX1_copyFrom_42 : decode cX1_copyFrom 42 = .ok (.getfield 9, 3) := by decide +kernel
theorem dX1_copyFrom_45 : decode cX1_copyFrom 45 = .ok (.putfield 9, 3) := by decide +kernel
theorem dX1_copyFrom_48 : decode cX1_copyFrom 48 = .ok (.aload_n 0, 1) := by decide +kernel
theorem dX1_copyFrom_49 : decode cX1_copyFrom 49 = .ok (.aload_n 1, 1) := by decide +kernel
theorem dX1_copyFrom_50 : decode cX1_copyFrom 50 = .ok (.getfield 15, 3) := by decide +kernel
theorem dX1_copyFrom_53 : decode cX1_copyFrom 53 = .ok (.putfield 15, 3) := by decide +kernel
theorem dX1_copyFrom_56 : decode cX1_copyFrom 56 = .ok (.aload_n 0, 1) := by decide +kernel
theorem dX1_copyFrom_57 : decode cX1_copyFrom 57 = .ok (.aload_n 1, 1) := by decide +kernel
theorem dX1_copyFrom_58 : decode cX1_copyFrom 58 = .ok (.getfield 18, 3) := by decide +kernel
theorem dX1_copyFrom_61 : decode cX1_copyFrom 61 = .ok (.putfield 18, 3) := by decide +kernel
theorem dX1_copyFrom_64 : decode cX1_copyFrom 64 = .ok (.aload_n 0, 1) := by decide +kernel
theorem dX1_copyFrom_65 : decode cX1_copyFrom 65 = .ok (.aload_n 1, 1) := by decide +kernel
theorem dX1_copyFrom_66 : decode cX1_copyFrom 66 = .ok (.getfield 21, 3) := by decide +kernel
theorem dX1_copyFrom_69 : decode cX1_copyFrom 69 = .ok (.putfield 21, 3) := by decide +kernel
theorem dX1_copyFrom_72 : decode cX1_copyFrom 72 = .ok (.aload_n 0, 1) := by decide +kernel
theorem dX1_copyFrom_73 : decode cX1_copyFrom 73 = .ok (.aload_n 1, 1) := by decide +kernel
theorem dX1_copyFrom_74 : decode cX1_copyFrom 74 = .ok (.getfield 34, 3) := by decide +kernel
theorem dX1_copyFrom_77 : decode cX1_copyFrom 77 = .ok (.putfield 34, 3) := by decide +kernel
theorem dX1_copyFrom_80 : decode cX1_copyFrom 80 = .ok (.aload_n 0, 1) := by decide +kernel
theorem dX1_copyFrom_81 : decode cX1_copyFrom 81 = .ok (.aload_n 1, 1) := by decide +kernel
theorem dX1_copyFrom_82 : decode cX1_copyFrom 82 = .ok (.getfield 37, 3) := by decide +kernel
theorem dX1_copyFrom_85 : decode cX1_copyFrom 85 = .ok (.putfield 37, 3) := by decide +kernel
theorem dX1_copyFrom_88 : decode cX1_copyFrom 88 = .ok (.aload_n 0, 1) := by decide +kernel
theorem dX1_copyFrom_89 : decode cX1_copyFrom 89 = .ok (.aload_n 1, 1) := by decide +kernel
theorem dX1_copyFrom_90 : decode cX1_copyFrom 90 = .ok (.getfield 46, 3) := by decide +kernel
theorem dX1_copyFrom_93 : decode cX1_copyFrom 93 = .ok (.putfield 46, 3) := by decide +kernel
theorem dX1_copyFrom_96 : decode cX1_copyFrom 96 = .ok (.aload_n 0, 1) := by decide +kernel
theorem dX1_copyFrom_97 : decode cX1_copyFrom 97 = .ok (.aload_n 1, 1) := by decide +kernel
theorem dX1_copyFrom_98 : decode cX1_copyFrom 98 = .ok (.getfield 49, 3) := by decide +kernel
theorem dX1_copyFrom_101 : decode cX1_copyFrom 101 = .ok (.putfield 49, 3) := by decide +kernel
theorem dX1_copyFrom_104 : decode cX1_copyFrom 104 = .ok (.return_, 1) := by decide +kernel
theorem dX1_fact_0 : decode cX1_fact 0 = .ok (.iload_n 1, 1) := by decide +kernel
theorem dX1_fact_1 : decode cX1_fact 1 = .ok (.tableswitch 113 0 9 #[55, 60, 65, 78, 83, 88, 93, 98, 103, 108], 55) := by decide +kernel
theorem dX1_fact_56 : decode cX1_fact 56 = .ok (.aload_n 0, 1) := by decide +kernel
theorem dX1_fact_57 : decode cX1_fact 57 = .ok (.getfield 28, 3) := by decide +kernel
theorem dX1_fact_60 : decode cX1_fact 60 = .ok (.ireturn, 1) := by decide +kernel
theorem dX1_fact_61 : decode cX1_fact 61 = .ok (.aload_n 0, 1) := by decide +kernel
theorem dX1_fact_62 : decode cX1_fact 62 = .ok (.getfield 31, 3) := by decide +kernel
theorem dX1_fact_65 : decode cX1_fact 65 = .ok (.ireturn, 1) := by decide +kernel
theorem dX1_fact_66 : decode cX1_fact 66 = .ok (.aload_n 0, 1) := by decide +kernel
theorem dX1_fact_67 : decode cX1_fact 67 = .ok (.getfield 24, 3) := by decide +kernel
theorem dX1_fact_70 : decode cX1_fact 70 = .ok (.ifCond .eq 7, 3) := by decide +kernel
theorem dX1_fact_73 : decode cX1_fact 73 = .ok (.iconst 1, 1) := by decide +kernel
theorem dX1_fact_74 : decode cX1_fact 74 = .ok (.goto 4, 3) := by decide +kernel
theorem dX1_fact_77 : decode cX1_fact 77 = .ok (.iconst 0, 1) := by decide +kernel
theorem dX1_fact_78 : decode cX1_fact 78 = .ok (.ireturn, 1) := by decide +kernel
theorem dX1_fact_79 : decode cX1_fact 79 = .ok (.aload_n 0, 1) := by decide +kernel
theorem dX1_fact_80 : decode cX1_fact 80 = .ok (.getfield 9, 3) := by decide +kernel
theorem dX1_fact_83 : decode cX1_fact 83 = .ok (.ireturn, 1) := by decide +kernel
theorem dX1_fact_84 : decode cX1_fact 84 = .ok (.aload_n 0, 1) := by decide +kernel
theorem dX1_fact_85 : decode cX1_fact 85 = .ok (.getfield 43, 3) := by decide +kernel
theorem dX1_fact_88 : decode cX1_fact 88 = .ok (.ireturn, 1) := by decide +kernel
theorem dX1_fact_89 : decode cX1_fact 89 = .ok (.aload_n 0, 1) := by decide +kernel
theorem dX1_fact_90 : decode cX1_fact 90 = .ok (.getfield 18, 3) := by decide +kernel
theorem dX1_fact_93 : decode cX1_fact 93 = .ok (.ireturn, 1) := by decide +kernel
theorem dX1_fact_94 : decode cX1_fact 94 = .ok (.aload_n 0, 1) := by decide +kernel
theorem dX1_fact_95 : decode cX1_fact 95 = .ok (.getfield 21, 3) := by decide +kernel
theorem dX1_fact_98 : decode cX1_fact 98 = .ok (.ireturn, 1) := by decide +kernel
theorem dX1_fact_99 : decode cX1_fact 99 = .ok (.aload_n 0, 1) := by decide +kernel
theorem dX1_fact_100 : decode cX1_fact 100 = .ok (.getfield 15, 3) := by decide +kernel
theorem dX1_fact_103 : decode cX1_fact 103 = .ok (.ireturn, 1) := by decide +kernel
theorem dX1_fact_104 : decode cX1_fact 104 = .ok (.aload_n 0, 1) := by decide +kernel
theorem dX1_fact_105 : decode cX1_fact 105 = .ok (.getfield 37, 3) := by decide +kernel
theorem dX1_fact_108 : decode cX1_fact 108 = .ok (.ireturn, 1) := by decide +kernel
theorem dX1_fact_109 : decode cX1_fact 109 = .ok (.aload_n 0, 1) := by decide +kernel
theorem dX1_fact_110 : decode cX1_fact 110 = .ok (.getfield 46, 3) := by decide +kernel
theorem dX1_fact_113 : decode cX1_fact 113 = .ok (.ireturn, 1) := by decide +kernel
theorem dX1_fact_114 : decode cX1_fact 114 = .ok (.aload_n 0, 1) := by decide +kernel
theorem dX1_fact_115 : decode cX1_fact 115 = .ok (.getfield 49, 3) := by decide +kernel
theorem dX1_fact_118 : decode cX1_fact 118 = .ok (.ireturn, 1) := by decide +kernel
theorem dX2_init_0 : decode cX2_init 0 = .ok (.aload_n 0, 1) := by decide +kernel
theorem dX2_init_1 : decode cX2_init 1 = .ok (.invokespecial 3, 3) := by decide +kernel
theorem dX2_init_4 : decode cX2_init 4 = .ok (.aload_n 0, 1) := by decide +kernel
theorem dX2_init_5 : decode cX2_init 5 = .ok (.iconst (-1), 1) := by decide +kernel
theorem dX2_init_6 : decode cX2_init 6 = .ok (.putfield 9, 3) := by decide +kernel
theorem dX2_init_9 : decode cX2_init 9 = .ok (.aload_n 0, 1) := by decide +kernel
theorem dX2_init_10 : decode cX2_init 10 = .ok (.iconst (-1), 1) := by decide +kernel
theorem dX2_init_11 : decode cX2_init 11 = .ok (.putfield 15, 3) := by decide +kernel
theorem dX2_init_14 : decode cX2_init 14 = .ok (.aload_n 0, 1) := by decide +kernel
theorem dX2_init_15 : decode cX2_init 15 = .ok (.iconst (-1), 1) := by decide +kernel
theorem dX2_init_16 : decode cX2_init 16 = .ok (.putfield 18, 3) := by decide +kernel
theorem dX2_init_19 : decode cX2_init 19 = .ok (.return_, 1) := by decide +kernel
theorem dX2_isUsed_0 : decode cX2_isUsed 0 = .ok (.aload_n 0, 1) := by decide +kernel
theorem dX2_isUsed_1 : decode cX2_isUsed 1 = .ok (.getfield 9, 3) := by decide +kernel
theorem dX2_isUsed_4 : decode cX2_isUsed 4 = .ok (.iconst (-1), 1) := by decide +kernel
theorem dX2_isUsed_5 : decode cX2_isUsed 5 = .ok (.if_icmp .eq 15, 3) := by decide +kernel
theorem dX2_isUsed_8 : decode cX2_isUsed 8 = .ok (.aload_n 0, 1) := by decide +kernel
theorem dX2_isUsed_9 : decode cX2_isUsed 9 = .ok (.getfield 15, 3) := by decide +kernel
theorem dX2_isUsed_12 : decode cX2_isUsed 12 = .ok (.iconst (-1), 1) := by decide +kernel
theorem dX2_isUsed_13 : decode cX2_isUsed 13 = .ok (.if_icmp .eq 7, 3) := by decide +kernel
theorem dX2_isUsed_16 : decode cX2_isUsed 16 = .ok (.iconst 1, 1) := by decide +kernel
theorem dX2_isUsed_17 : decode cX2_isUsed 17 = .ok (.goto 4, 3) := by decide +kernel
theorem dX2_isUsed_20 : decode cX2_isUsed 20 = .ok (.iconst 0, 1) := by decide +kernel
theorem dX2_isUsed_21 : decode cX2_isUsed 21 = .ok (.ireturn, 1) := by decide +kernel
theorem dX2_copyFrom_0 : decode cX2_copyFrom 0 = .ok (.aload_n 0, 1) := by decide +kernel
theorem dX2_copyFrom_1 : decode cX2_copyFrom 1 = .ok (.aload_n 1, 1) := by decide +kernel
theorem dX2_copyFrom_2 : decode cX2_copyFrom 2 = .ok (.getfield 9, 3) := by decide +kernel
theorem dX2_copyFrom_5 : decode cX2_copyFrom 5 = .ok (.putfield 9, 3) := by decide +kernel
theorem dX2_copyFrom_8 : decode cX2_copyFrom 8 = .ok (.aload_n 0, 1) := by decide +kernel
theorem dX2_copyFrom_9 : decode cX2_copyFrom 9 = .ok (.aload_n 1, 1) := by decide +kernel
theorem dX2_copyFrom_10 : decode cX2_copyFrom 10 = .ok (.getfield 15, 3) := by decide +kernel
theorem dX2_copyFrom_13 : decode cX2_copyFrom 13 = .ok (.putfield 15, 3) := by decide +kernel
theorem dX2_copyFrom_16 : decode cX2_copyFrom 16 = .ok (.aload_n 0, 1) := by decide +kernel
theorem dX2_copyFrom_17 : decode cX2_copyFrom 17 = .ok (.aload_n 1, 1) := by decide +kernel
theorem dX2_copyFrom_18 : decode cX2_copyFrom 18 = .ok (.getfield 21, 3) := by decide +kernel
theorem dX2_copyFrom_21 : decode cX2_copyFrom 21 = .ok (.putfield 21, 3) := by decide +kernel
theorem dX2_copyFrom_24 : decode cX2_copyFrom 24 = .ok (.aload_n 0, 1) := by decide +kernel
theorem dX2_copyFrom_25 : decode cX2_copyFrom 25 = .ok (.aload_n 1, 1) := by decide +kernel
theorem dX2_copyFrom_26 : decode cX2_copyFrom 26 = .ok (.getfield 24, 3) := by decide +kernel
theorem dX2_copyFrom_29 : decode cX2_copyFrom 29 = .ok (.putfield 24, 3) := by decide +kernel
theorem dX2_copyFrom_32 : decode cX2_copyFrom 32 = .ok (.aload_n 0, 1) := by decide +kernel
theorem dX2_copyFrom_33 : decode cX2_copyFrom 33 = .ok (.aload_n 1, 1) := by decide +kernel
theorem dX2_copyFrom_34 : decode cX2_copyFrom 34 = .ok (.getfield 18, 3) := by decide +kernel
theorem dX2_copyFrom_37 : decode cX2_copyFrom 37 = .ok (.putfield 18, 3) := by decide +kernel
theorem dX2_copyFrom_40 : decode cX2_copyFrom 40 = .ok (.aload_n 0, 1) := by decide +kernel
theorem dX2_copyFrom_41 : decode cX2_copyFrom 41 = .ok (.aload_n 1, 1) := by decide +kernel
theorem dX2_copyFrom_42 : decode cX2_copyFrom 42 = .ok (.getfield 27, 3) := by decide +kernel
theorem dX2_copyFrom_45 : decode cX2_copyFrom 45 = .ok (.putfield 27, 3) := by decide +kernel
theorem dX2_copyFrom_48 : decode cX2_copyFrom 48 = .ok (.return_, 1) := by decide +kernel
theorem dX3_init_0 : decode cX3_init 0 = .ok (.aload_n 0, 1) := by decide +kernel
theorem dX3_init_1 : decode cX3_init 1 = .ok (.invokespecial 1, 3) := by decide +kernel
theorem dX3_init_4 : decode cX3_init 4 = .ok (.return_, 1) := by decide +kernel
theorem dX3_distanceTo_0 : decode cX3_distanceTo 0 = .ok (.aload_n 0, 1) := by decide +kernel
theorem dX3_distanceTo_1 : decode cX3_distanceTo 1 = .ok (.getfield 7, 3) := by decide +kernel
theorem dX3_distanceTo_4 : decode cX3_distanceTo 4 = .ok (.iload_n 1, 1) := by decide +kernel
theorem dX3_distanceTo_5 : decode cX3_distanceTo 5 = .ok (.if_icmp .ge 12, 3) := by decide +kernel
theorem dX3_distanceTo_8 : decode cX3_distanceTo 8 = .ok (.iload_n 1, 1) := by decide +kernel
theorem dX3_distanceTo_9 : decode cX3_distanceTo 9 = .ok (.aload_n 0, 1) := by decide +kernel
theorem dX3_distanceTo_10 : decode cX3_distanceTo 10 = .ok (.getfield 7, 3) := by decide +kernel
theorem dX3_distanceTo_13 : decode cX3_distanceTo 13 = .ok (.isub, 1) := by decide +kernel
theorem dX3_distanceTo_14 : decode cX3_distanceTo 14 = .ok (.goto 9, 3) := by decide +kernel
theorem dX3_distanceTo_17 : decode cX3_distanceTo 17 = .ok (.aload_n 0, 1) := by decide +kernel
theorem dX3_distanceTo_18 : decode cX3_distanceTo 18 = .ok (.getfield 7, 3) := by decide +kernel
theorem dX3_distanceTo_21 : decode cX3_distanceTo 21 = .ok (.iload_n 1, 1) := by decide +kernel
theorem dX3_distanceTo_22 : decode cX3_distanceTo 22 = .ok (.isub, 1) := by decide +kernel
theorem dX3_distanceTo_23 : decode cX3_distanceTo 23 = .ok (.ireturn, 1) := by decide +kernel
theorem dX3_noiseAt_0 : decode cX3_noiseAt 0 = .ok (.aload_n 0, 1) := by decide +kernel
theorem dX3_noiseAt_1 : decode cX3_noiseAt 1 = .ok (.getfield 13, 3) := by decide +kernel
theorem dX3_noiseAt_4 : decode cX3_noiseAt 4 = .ok (.aload_n 0, 1) := by decide +kernel
theorem dX3_noiseAt_5 : decode cX3_noiseAt 5 = .ok (.iload_n 1, 1) := by decide +kernel
theorem dX3_noiseAt_6 : decode cX3_noiseAt 6 = .ok (.invokevirtual 16, 3) := by decide +kernel
theorem dX3_noiseAt_9 : decode cX3_noiseAt 9 = .ok (.isub, 1) := by decide +kernel
theorem dX3_noiseAt_10 : decode cX3_noiseAt 10 = .ok (.istore_n 2, 1) := by decide +kernel
theorem dX3_noiseAt_11 : decode cX3_noiseAt 11 = .ok (.aload_n 0, 1) := by decide +kernel
theorem dX3_noiseAt_12 : decode cX3_noiseAt 12 = .ok (.getfield 20, 3) := by decide +kernel
theorem dX3_noiseAt_15 : decode cX3_noiseAt 15 = .ok (.ifCond .eq 13, 3) := by decide +kernel
theorem dX3_noiseAt_18 : decode cX3_noiseAt 18 = .ok (.iload_n 2, 1) := by decide +kernel
theorem dX3_noiseAt_19 : decode cX3_noiseAt 19 = .ok (.ifCond .le 9, 3) := by decide +kernel
theorem dX3_noiseAt_22 : decode cX3_noiseAt 22 = .ok (.iload_n 2, 1) := by decide +kernel
theorem dX3_noiseAt_23 : decode cX3_noiseAt 23 = .ok (.iconst 3, 1) := by decide +kernel
theorem dX3_noiseAt_24 : decode cX3_noiseAt 24 = .ok (.idiv, 1) := by decide +kernel
theorem dX3_noiseAt_25 : decode cX3_noiseAt 25 = .ok (.goto 4, 3) := by decide +kernel
theorem dX3_noiseAt_28 : decode cX3_noiseAt 28 = .ok (.iconst 0, 1) := by decide +kernel
theorem dX3_noiseAt_29 : decode cX3_noiseAt 29 = .ok (.ireturn, 1) := by decide +kernel
theorem dX3_fact_0 : decode cX3_fact 0 = .ok (.iload_n 1, 1) := by decide +kernel
theorem dX3_fact_1 : decode cX3_fact 1 = .ok (.tableswitch 69 0 5 #[39, 44, 49, 54, 59, 64], 39) := by decide +kernel
theorem dX3_fact_40 : decode cX3_fact 40 = .ok (.aload_n 0, 1) := by decide +kernel
theorem dX3_fact_41 : decode cX3_fact 41 = .ok (.getfield 7, 3) := by decide +kernel
theorem dX3_fact_44 : decode cX3_fact 44 = .ok (.ireturn, 1) := by decide +kernel
theorem dX3_fact_45 : decode cX3_fact 45 = .ok (.aload_n 0, 1) := by decide +kernel
theorem dX3_fact_46 : decode cX3_fact 46 = .ok (.getfield 13, 3) := by decide +kernel
theorem dX3_fact_49 : decode cX3_fact 49 = .ok (.ireturn, 1) := by decide +kernel
theorem dX3_fact_50 : decode cX3_fact 50 = .ok (.aload_n 0, 1) := by decide +kernel
theorem dX3_fact_51 : decode cX3_fact 51 = .ok (.getfield 24, 3) := by decide +kernel
theorem dX3_fact_54 : decode cX3_fact 54 = .ok (.ireturn, 1) := by decide +kernel
theorem dX3_fact_55 : decode cX3_fact 55 = .ok (.aload_n 0, 1) := by decide +kernel
theorem dX3_fact_56 : decode cX3_fact 56 = .ok (.getfield 27, 3) := by decide +kernel
theorem dX3_fact_59 : decode cX3_fact 59 = .ok (.ireturn, 1) := by decide +kernel
theorem dX3_fact_60 : decode cX3_fact 60 = .ok (.aload_n 0, 1) := by decide +kernel
theorem dX3_fact_61 : decode cX3_fact 61 = .ok (.getfield 30, 3) := by decide +kernel
theorem dX3_fact_64 : decode cX3_fact 64 = .ok (.ireturn, 1) := by decide +kernel
theorem dX3_fact_65 : decode cX3_fact 65 = .ok (.aload_n 0, 1) := by decide +kernel
theorem dX3_fact_66 : decode cX3_fact 66 = .ok (.getfield 33, 3) := by decide +kernel
theorem dX3_fact_69 : decode cX3_fact 69 = .ok (.ireturn, 1) := by decide +kernel
theorem dX3_fact_70 : decode cX3_fact 70 = .ok (.aload_n 0, 1) := by decide +kernel
theorem dX3_fact_71 : decode cX3_fact 71 = .ok (.getfield 20, 3) := by decide +kernel
theorem dX3_fact_74 : decode cX3_fact 74 = .ok (.ifCond .eq 7, 3) := by decide +kernel
theorem dX3_fact_77 : decode cX3_fact 77 = .ok (.iconst 1, 1) := by decide +kernel
theorem dX3_fact_78 : decode cX3_fact 78 = .ok (.goto 4, 3) := by decide +kernel
theorem dX3_fact_81 : decode cX3_fact 81 = .ok (.iconst 0, 1) := by decide +kernel
theorem dX3_fact_82 : decode cX3_fact 82 = .ok (.ireturn, 1) := by decide +kernel
theorem dX4_init_0 : decode cX4_init 0 = .ok (.aload_n 0, 1) := by decide +kernel
theorem dX4_init_1 : decode cX4_init 1 = .ok (.invokespecial 3, 3) := by decide +kernel
theorem dX4_init_4 : decode cX4_init 4 = .ok (.aload_n 0, 1) := by decide +kernel
theorem dX4_init_5 : decode cX4_init 5 = .ok (.bipush 6, 2) := by decide +kernel
theorem dX4_init_7 : decode cX4_init 7 = .ok (.anewarray 9, 3) := by decide +kernel
theorem dX4_init_10 : decode cX4_init 10 = .ok (.putfield 11, 3) := by decide +kernel
theorem dX4_init_13 : decode cX4_init 13 = .ok (.iconst 0, 1) := by decide +kernel
theorem dX4_init_14 : decode cX4_init 14 = .ok (.istore_n 1, 1) := by decide +kernel
theorem dX4_init_15 : decode cX4_init 15 = .ok (.iload_n 1, 1) := by decide +kernel
theorem dX4_init_16 : decode cX4_init 16 = .ok (.bipush 6, 2) := by decide +kernel
theorem dX4_init_18 : decode cX4_init 18 = .ok (.if_icmp .ge 22, 3) := by decide +kernel
theorem dX4_init_21 : decode cX4_init 21 = .ok (.aload_n 0, 1) := by decide +kernel
theorem dX4_init_22 : decode cX4_init 22 = .ok (.getfield 11, 3) := by decide +kernel
theorem dX4_init_25 : decode cX4_init 25 = .ok (.iload_n 1, 1) := by decide +kernel
theorem dX4_init_26 : decode cX4_init 26 = .ok (.new 9, 3) := by decide +kernel
theorem dX4_init_29 : decode cX4_init 29 = .ok (.dup, 1) := by decide +kernel
theorem dX4_init_30 : decode cX4_init 30 = .ok (.invokespecial 17, 3) := by decide +kernel
theorem dX4_init_33 : decode cX4_init 33 = .ok (.aastore, 1) := by decide +kernel
theorem dX4_init_34 : decode cX4_init 34 = .ok (.iinc 1 1, 3) := by decide +kernel
theorem dX4_init_37 : decode cX4_init 37 = .ok (.goto (-22), 3) := by decide +kernel
theorem dX4_init_40 : decode cX4_init 40 = .ok (.aload_n 0, 1) := by decide +kernel
theorem dX4_init_41 : decode cX4_init 41 = .ok (.bipush 6, 2) := by decide +kernel
theorem dX4_init_43 : decode cX4_init 43 = .ok (.bipush 100, 2) := by decide +kernel
theorem dX4_init_45 : decode cX4_init 45 = .ok (.multianewarray 18 2, 4) := by decide +kernel
theorem dX4_init_49 : decode cX4_init 49 = .ok (.putfield 20, 3) := by decide +kernel
theorem dX4_init_52 : decode cX4_init 52 = .ok (.return_, 1) := by decide +kernel
theorem dX4_measure_0 : decode cX4_measure 0 = .ok (.iconst 0, 1) := by decide +kernel
theorem dX4_measure_1 : decode cX4_measure 1 = .ok (.istore_n 1, 1) := by decide +kernel
theorem dX4_measure_2 : decode cX4_measure 2 = .ok (.iload_n 1, 1) := by decide +kernel
theorem dX4_measure_3 : decode cX4_measure 3 = .ok (.aload_n 0, 1) := by decide +kernel
theorem dX4_measure_4 : decode cX4_measure 4 = .ok (.getfield 23, 3) := by decide +kernel
theorem dX4_measure_7 : decode cX4_measure 7 = .ok (.if_icmp .ge 37, 3) := by decide +kernel
theorem dX4_measure_10 : decode cX4_measure 10 = .ok (.iconst 0, 1) := by decide +kernel
theorem dX4_measure_11 : decode cX4_measure 11 = .ok (.istore_n 2, 1) := by decide +kernel
theorem dX4_measure_12 : decode cX4_measure 12 = .ok (.iload_n 2, 1) := by decide +kernel
theorem dX4_measure_13 : decode cX4_measure 13 = .ok (.bipush 100, 2) := by decide +kernel
theorem dX4_measure_15 : decode cX4_measure 15 = .ok (.if_icmp .ge 23, 3) := by decide +kernel
theorem dX4_measure_18 : decode cX4_measure 18 = .ok (.aload_n 0, 1) := by decide +kernel
theorem dX4_measure_19 : decode cX4_measure 19 = .ok (.getfield 20, 3) := by decide +kernel
theorem dX4_measure_22 : decode cX4_measure 22 = .ok (.iload_n 1, 1) := by decide +kernel
theorem dX4_measure_23 : decode cX4_measure 23 = .ok (.aaload, 1) := by decide +kernel
theorem dX4_measure_24 : decode cX4_measure 24 = .ok (.iload_n 2, 1) := by decide +kernel
theorem dX4_measure_25 : decode cX4_measure 25 = .ok (.aload_n 0, 1) := by decide +kernel
theorem dX4_measure_26 : decode cX4_measure 26 = .ok (.iload_n 1, 1) := by decide +kernel
theorem dX4_measure_27 : decode cX4_measure 27 = .ok (.iload_n 2, 1) := by decide +kernel
theorem dX4_measure_28 : decode cX4_measure 28 = .ok (.invokevirtual 27, 3) := by decide +kernel
theorem dX4_measure_31 : decode cX4_measure 31 = .ok (.iastore, 1) := by decide +kernel
theorem dX4_measure_32 : decode cX4_measure 32 = .ok (.iinc 2 1, 3) := by decide +kernel
theorem dX4_measure_35 : decode cX4_measure 35 = .ok (.goto (-23), 3) := by decide +kernel
theorem dX4_measure_38 : decode cX4_measure 38 = .ok (.iinc 1 1, 3) := by decide +kernel
theorem dX4_measure_41 : decode cX4_measure 41 = .ok (.goto (-39), 3) := by decide +kernel
theorem dX4_measure_44 : decode cX4_measure 44 = .ok (.return_, 1) := by decide +kernel
theorem dX4_measureOne_0 : decode cX4_measureOne 0 = .ok (.aload_n 0, 1) := by decide +kernel
theorem dX4_measureOne_1 : decode cX4_measureOne 1 = .ok (.getfield 11, 3) := by decide +kernel
theorem dX4_measureOne_4 : decode cX4_measureOne 4 = .ok (.iload_n 1, 1) := by decide +kernel
theorem dX4_measureOne_5 : decode cX4_measureOne 5 = .ok (.aaload, 1) := by decide +kernel
theorem dX4_measureOne_6 : decode cX4_measureOne 6 = .ok (.astore_n 3, 1) := by decide +kernel
theorem dX4_measureOne_7 : decode cX4_measureOne 7 = .ok (.aload_n 3, 1) := by decide +kernel
theorem dX4_measureOne_8 : decode cX4_measureOne 8 = .ok (.getfield 31, 3) := by decide +kernel
theorem dX4_measureOne_11 : decode cX4_measureOne 11 = .ok (.ifCond .ne 6, 3) := by decide +kernel
theorem dX4_measureOne_14 : decode cX4_measureOne 14 = .ok (.bipush (-99), 2) := by decide +kernel
theorem dX4_measureOne_16 : decode cX4_measureOne 16 = .ok (.ireturn, 1) := by decide +kernel
theorem dX4_measureOne_17 : decode cX4_measureOne 17 = .ok (.aload_n 3, 1) := by decide +kernel
theorem dX4_measureOne_18 : decode cX4_measureOne 18 = .ok (.getfield 35, 3) := by decide +kernel
theorem dX4_measureOne_21 : decode cX4_measureOne 21 = .ok (.aload_n 3, 1) := by decide +kernel
theorem dX4_measureOne_22 : decode cX4_measureOne 22 = .ok (.iload_n 2, 1) := by decide +kernel
theorem dX4_measureOne_23 : decode cX4_measureOne 23 = .ok (.invokevirtual 38, 3) := by decide +kernel
theorem dX4_measureOne_26 : decode cX4_measureOne 26 = .ok (.isub, 1) := by decide +kernel
theorem dX4_measureOne_27 : decode cX4_measureOne 27 = .ok (.istore 4, 2) := by decide +kernel
theorem dX4_measureOne_29 : decode cX4_measureOne 29 = .ok (.iconst 0, 1) := by decide +kernel
theorem dX4_measureOne_30 : decode cX4_measureOne 30 = .ok (.istore 5, 2) := by decide +kernel
theorem dX4_measureOne_32 : decode cX4_measureOne 32 = .ok (.iload 5, 2) := by decide +kernel
theorem dX4_measureOne_34 : decode cX4_measureOne 34 = .ok (.aload_n 0, 1) := by decide +kernel
theorem dX4_measureOne_35 : decode cX4_measureOne 35 = .ok (.getfield 23, 3) := by decide +kernel
theorem dX4_measureOne_38 : decode cX4_measureOne 38 = .ok (.if_icmp .ge 48, 3) := by decide +kernel
theorem dX4_measureOne_41 : decode cX4_measureOne 41 = .ok (.iload 5, 2) := by decide +kernel
theorem dX4_measureOne_43 : decode cX4_measureOne 43 = .ok (.iload_n 1, 1) := by decide +kernel
theorem dX4_measureOne_44 : decode cX4_measureOne 44 = .ok (.if_icmp .eq 36, 3) := by decide +kernel
theorem dX4_measureOne_47 : decode cX4_measureOne 47 = .ok (.aload_n 0, 1) := by decide +kernel
theorem dX4_measureOne_48 : decode cX4_measureOne 48 = .ok (.getfield 11, 3) := by decide +kernel
theorem dX4_measureOne_51 : decode cX4_measureOne 51 = .ok (.iload 5, 2) := by decide +kernel
theorem dX4_measureOne_53 : decode cX4_measureOne 53 = .ok (.aaload, 1) := by decide +kernel
theorem dX4_measureOne_54 : decode cX4_measureOne 54 = .ok (.getfield 42, 3) := by decide +kernel
theorem dX4_measureOne_57 : decode cX4_measureOne 57 = .ok (.aload_n 3, 1) := by decide +kernel
theorem dX4_measureOne_58 : decode cX4_measureOne 58 = .ok (.getfield 42, 3) := by decide +kernel
theorem dX4_measureOne_61 : decode cX4_measureOne 61 = .ok (.if_icmp .ne 19, 3) := by decide +kernel
theorem dX4_measureOne_64 : decode cX4_measureOne 64 = .ok (.iload 4, 2) := by decide +kernel
theorem dX4_measureOne_66 : decode cX4_measureOne 66 = .ok (.aload_n 0, 1) := by decide +kernel
theorem dX4_measureOne_67 : decode cX4_measureOne 67 = .ok (.getfield 11, 3) := by decide +kernel
theorem dX4_measureOne_70 : decode cX4_measureOne 70 = .ok (.iload 5, 2) := by decide +kernel
theorem dX4_measureOne_72 : decode cX4_measureOne 72 = .ok (.aaload, 1) := by decide +kernel
theorem dX4_measureOne_73 : decode cX4_measureOne 73 = .ok (.iload_n 2, 1) := by decide +kernel
theorem dX4_measureOne_74 : decode cX4_measureOne 74 = .ok (.invokevirtual 45, 3) := by decide +kernel
theorem dX4_measureOne_77 : decode cX4_measureOne 77 = .ok (.isub, 1) := by decide +kernel
theorem dX4_measureOne_78 : decode cX4_measureOne 78 = .ok (.istore 4, 2) := by decide +kernel
theorem dX4_measureOne_80 : decode cX4_measureOne 80 = .ok (.iinc 5 1, 3) := by decide +kernel
theorem dX4_measureOne_83 : decode cX4_measureOne 83 = .ok (.goto (-51), 3) := by decide +kernel
theorem dX4_measureOne_86 : decode cX4_measureOne 86 = .ok (.iload 4, 2) := by decide +kernel
theorem dX4_measureOne_88 : decode cX4_measureOne 88 = .ok (.ireturn, 1) := by decide +kernel
theorem dX4_awakeInArea_0 : decode cX4_awakeInArea 0 = .ok (.iconst 0, 1) := by decide +kernel
theorem dX4_awakeInArea_1 : decode cX4_awakeInArea 1 = .ok (.istore_n 2, 1) := by decide +kernel
theorem dX4_awakeInArea_2 : decode cX4_awakeInArea 2 = .ok (.iconst 0, 1) := by decide +kernel
theorem dX4_awakeInArea_3 : decode cX4_awakeInArea 3 = .ok (.istore_n 3, 1) := by decide +kernel
theorem dX4_awakeInArea_4 : decode cX4_awakeInArea 4 = .ok (.iload_n 3, 1) := by decide +kernel
theorem dX4_awakeInArea_5 : decode cX4_awakeInArea 5 = .ok (.aload_n 0, 1) := by decide +kernel
theorem dX4_awakeInArea_6 : decode cX4_awakeInArea 6 = .ok (.getfield 23, 3) := by decide +kernel
theorem dX4_awakeInArea_9 : decode cX4_awakeInArea 9 = .ok (.if_icmp .ge 37, 3) := by decide +kernel
theorem dX4_awakeInArea_12 : decode cX4_awakeInArea 12 = .ok (.aload_n 0, 1) := by decide +kernel
theorem dX4_awakeInArea_13 : decode cX4_awakeInArea 13 = .ok (.getfield 11, 3) := by decide +kernel
theorem dX4_awakeInArea_16 : decode cX4_awakeInArea 16 = .ok (.iload_n 3, 1) := by decide +kernel
theorem dX4_awakeInArea_17 : decode cX4_awakeInArea 17 = .ok (.aaload, 1) := by decide +kernel
theorem dX4_awakeInArea_18 : decode cX4_awakeInArea 18 = .ok (.getfield 31, 3) := by decide +kernel
theorem dX4_awakeInArea_21 : decode cX4_awakeInArea 21 = .ok (.ifCond .eq 19, 3) := by decide +kernel
theorem dX4_awakeInArea_24 : decode cX4_awakeInArea 24 = .ok (.aload_n 0, 1) := by decide +kernel
theorem dX4_awakeInArea_25 : decode cX4_awakeInArea 25 = .ok (.getfield 11, 3) := by decide +kernel
theorem dX4_awakeInArea_28 : decode cX4_awakeInArea 28 = .ok (.iload_n 3, 1) := by decide +kernel
theorem dX4_awakeInArea_29 : decode cX4_awakeInArea 29 = .ok (.aaload, 1) := by decide +kernel
theorem dX4_awakeInArea_30 : decode cX4_awakeInArea 30 = .ok (.getfield 48, 3) := by decide +kernel
theorem dX4_awakeInArea_33 : decode cX4_awakeInArea 33 = .ok (.iload_n 1, 1) := by decide +kernel
theorem dX4_awakeInArea_34 : decode cX4_awakeInArea 34 = .ok (.if_icmp .ne 6, 3) := by decide +kernel
theorem dX4_awakeInArea_37 : decode cX4_awakeInArea 37 = .ok (.iinc 2 1, 3) := by decide +kernel
theorem dX4_awakeInArea_40 : decode cX4_awakeInArea 40 = .ok (.iinc 3 1, 3) := by decide +kernel
theorem dX4_awakeInArea_43 : decode cX4_awakeInArea 43 = .ok (.goto (-39), 3) := by decide +kernel
theorem dX4_awakeInArea_46 : decode cX4_awakeInArea 46 = .ok (.iload_n 2, 1) := by decide +kernel
theorem dX4_awakeInArea_47 : decode cX4_awakeInArea 47 = .ok (.ireturn, 1) := by decide +kernel
theorem dX4_awake_0 : decode cX4_awake 0 = .ok (.iconst 0, 1) := by decide +kernel
theorem dX4_awake_1 : decode cX4_awake 1 = .ok (.istore_n 1, 1) := by decide +kernel
theorem dX4_awake_2 : decode cX4_awake 2 = .ok (.iconst 0, 1) := by decide +kernel
theorem dX4_awake_3 : decode cX4_awake 3 = .ok (.istore_n 2, 1) := by decide +kernel
theorem dX4_awake_4 : decode cX4_awake 4 = .ok (.iload_n 2, 1) := by decide +kernel
theorem dX4_awake_5 : decode cX4_awake 5 = .ok (.aload_n 0, 1) := by decide +kernel
theorem dX4_awake_6 : decode cX4_awake 6 = .ok (.getfield 23, 3) := by decide +kernel
theorem dX4_awake_9 : decode cX4_awake 9 = .ok (.if_icmp .ge 24, 3) := by decide +kernel
theorem dX4_awake_12 : decode cX4_awake 12 = .ok (.aload_n 0, 1) := by decide +kernel
theorem dX4_awake_13 : decode cX4_awake 13 = .ok (.getfield 11, 3) := by decide +kernel
theorem dX4_awake_16 : decode cX4_awake 16 = .ok (.iload_n 2, 1) := by decide +kernel
theorem dX4_awake_17 : decode cX4_awake 17 = .ok (.aaload, 1) := by decide +kernel
theorem dX4_awake_18 : decode cX4_awake 18 = .ok (.getfield 31, 3) := by decide +kernel
theorem dX4_awake_21 : decode cX4_awake 21 = .ok (.ifCond .eq 6, 3) := by decide +kernel
theorem dX4_awake_24 : decode cX4_awake 24 = .ok (.iinc 1 1, 3) := by decide +kernel
theorem dX4_awake_27 : decode cX4_awake 27 = .ok (.iinc 2 1, 3) := by decide +kernel
theorem dX4_awake_30 : decode cX4_awake 30 = .ok (.goto (-26), 3) := by decide +kernel
theorem dX4_awake_33 : decode cX4_awake 33 = .ok (.iload_n 1, 1) := by decide +kernel
theorem dX4_awake_34 : decode cX4_awake 34 = .ok (.ireturn, 1) := by decide +kernel
theorem dX5_init_0 : decode cX5_init 0 = .ok (.aload_n 0, 1) := by decide +kernel
theorem dX5_init_1 : decode cX5_init 1 = .ok (.invokespecial 3, 3) := by decide +kernel
theorem dX5_init_4 : decode cX5_init 4 = .ok (.aload_n 0, 1) := by decide +kernel
theorem dX5_init_5 : decode cX5_init 5 = .ok (.aload_n 1, 1) := by decide +kernel
theorem dX5_init_6 : decode cX5_init 6 = .ok (.putfield 9, 3) := by decide +kernel
theorem dX5_init_9 : decode cX5_init 9 = .ok (.aload_n 0, 1) := by decide +kernel
theorem dX5_init_10 : decode cX5_init 10 = .ok (.bipush 6, 2) := by decide +kernel
theorem dX5_init_12 : decode cX5_init 12 = .ok (.newarray .int, 2) := by decide +kernel
theorem dX5_init_14 : decode cX5_init 14 = .ok (.putfield 15, 3) := by decide +kernel
theorem dX5_init_17 : decode cX5_init 17 = .ok (.aload_n 0, 1) := by decide +kernel
theorem dX5_init_18 : decode cX5_init 18 = .ok (.bipush 6, 2) := by decide +kernel
theorem dX5_init_20 : decode cX5_init 20 = .ok (.newarray .int, 2) := by decide +kernel
theorem dX5_init_22 : decode cX5_init 22 = .ok (.putfield 19, 3) := by decide +kernel
theorem dX5_init_25 : decode cX5_init 25 = .ok (.aload_n 0, 1) := by decide +kernel
theorem dX5_init_26 : decode cX5_init 26 = .ok (.bipush 8, 2) := by decide +kernel
theorem dX5_init_28 : decode cX5_init 28 = .ok (.anewarray 22, 3) := by decide +kernel
theorem dX5_init_31 : decode cX5_init 31 = .ok (.putfield 24, 3) := by decide +kernel
theorem dX5_init_34 : decode cX5_init 34 = .ok (.iconst 0, 1) := by decide +kernel
theorem dX5_init_35 : decode cX5_init 35 = .ok (.istore_n 2, 1) := by decide +kernel
theorem dX5_init_36 : decode cX5_init 36 = .ok (.iload_n 2, 1) := by decide +kernel
theorem dX5_init_37 : decode cX5_init 37 = .ok (.bipush 8, 2) := by decide +kernel
theorem dX5_init_39 : decode cX5_init 39 = .ok (.if_icmp .ge 22, 3) := by decide +kernel
theorem dX5_init_42 : decode cX5_init 42 = .ok (.aload_n 0, 1) := by decide +kernel
theorem dX5_init_43 : decode cX5_init 43 = .ok (.getfield 24, 3) := by decide +kernel
theorem dX5_init_46 : decode cX5_init 46 = .ok (.iload_n 2, 1) := by decide +kernel
theorem dX5_init_47 : decode cX5_init 47 = .ok (.new 22, 3) := by decide +kernel
theorem dX5_init_50 : decode cX5_init 50 = .ok (.dup, 1) := by decide +kernel
theorem dX5_init_51 : decode cX5_init 51 = .ok (.invokespecial 28, 3) := by decide +kernel
theorem dX5_init_54 : decode cX5_init 54 = .ok (.aastore, 1) := by decide +kernel
theorem dX5_init_55 : decode cX5_init 55 = .ok (.iinc 2 1, 3) := by decide +kernel
theorem dX5_init_58 : decode cX5_init 58 = .ok (.goto (-22), 3) := by decide +kernel
theorem dX5_init_61 : decode cX5_init 61 = .ok (.aload_n 0, 1) := by decide +kernel
theorem dX5_init_62 : decode cX5_init 62 = .ok (.bipush 24, 2) := by decide +kernel
theorem dX5_init_64 : decode cX5_init 64 = .ok (.anewarray 29, 3) := by decide +kernel
theorem dX5_init_67 : decode cX5_init 67 = .ok (.putfield 31, 3) := by decide +kernel
theorem dX5_init_70 : decode cX5_init 70 = .ok (.iconst 0, 1) := by decide +kernel
theorem dX5_init_71 : decode cX5_init 71 = .ok (.istore_n 2, 1) := by decide +kernel
theorem dX5_init_72 : decode cX5_init 72 = .ok (.iload_n 2, 1) := by decide +kernel
theorem dX5_init_73 : decode cX5_init 73 = .ok (.bipush 24, 2) := by decide +kernel
theorem dX5_init_75 : decode cX5_init 75 = .ok (.if_icmp .ge 22, 3) := by decide +kernel
theorem dX5_init_78 : decode cX5_init 78 = .ok (.aload_n 0, 1) := by decide +kernel
theorem dX5_init_79 : decode cX5_init 79 = .ok (.getfield 31, 3) := by decide +kernel
theorem dX5_init_82 : decode cX5_init 82 = .ok (.iload_n 2, 1) := by decide +kernel
theorem dX5_init_83 : decode cX5_init 83 = .ok (.new 29, 3) := by decide +kernel
theorem dX5_init_86 : decode cX5_init 86 = .ok (.dup, 1) := by decide +kernel
theorem dX5_init_87 : decode cX5_init 87 = .ok (.invokespecial 35, 3) := by decide +kernel
theorem dX5_init_90 : decode cX5_init 90 = .ok (.aastore, 1) := by decide +kernel
theorem dX5_init_91 : decode cX5_init 91 = .ok (.iinc 2 1, 3) := by decide +kernel
theorem dX5_init_94 : decode cX5_init 94 = .ok (.goto (-22), 3) := by decide +kernel
theorem dX5_init_97 : decode cX5_init 97 = .ok (.return_, 1) := by decide +kernel
theorem dX5_copyFrom_0 : decode cX5_copyFrom 0 = .ok (.iconst 0, 1) := by decide +kernel
theorem dX5_copyFrom_1 : decode cX5_copyFrom 1 = .ok (.istore_n 2, 1) := by decide +kernel
theorem dX5_copyFrom_2 : decode cX5_copyFrom 2 = .ok (.iload_n 2, 1) := by decide +kernel
theorem dX5_copyFrom_3 : decode cX5_copyFrom 3 = .ok (.bipush 6, 2) := by decide +kernel
theorem dX5_copyFrom_5 : decode cX5_copyFrom 5 = .ok (.if_icmp .ge 33, 3) := by decide +kernel
theorem dX5_copyFrom_8 : decode cX5_copyFrom 8 = .ok (.aload_n 0, 1) := by decide +kernel
theorem dX5_copyFrom_9 : decode cX5_copyFrom 9 = .ok (.getfield 15, 3) := by decide +kernel
theorem dX5_copyFrom_12 : decode cX5_copyFrom 12 = .ok (.iload_n 2, 1) := by decide +kernel
theorem dX5_copyFrom_13 : decode cX5_copyFrom 13 = .ok (.aload_n 1, 1) := by decide +kernel
theorem dX5_copyFrom_14 : decode cX5_copyFrom 14 = .ok (.getfield 15, 3) := by decide +kernel
theorem dX5_copyFrom_17 : decode cX5_copyFrom 17 = .ok (.iload_n 2, 1) := by decide +kernel
theorem dX5_copyFrom_18 : decode cX5_copyFrom 18 = .ok (.iaload, 1) := by decide +kernel
theorem dX5_copyFrom_19 : decode cX5_copyFrom 19 = .ok (.iastore, 1) := by decide +kernel
theorem dX5_copyFrom_20 : decode cX5_copyFrom 20 = .ok (.aload_n 0, 1) := by decide +kernel
theorem dX5_copyFrom_21 : decode cX5_copyFrom 21 = .ok (.getfield 19, 3) := by decide +kernel
theorem dX5_copyFrom_24 : decode cX5_copyFrom 24 = .ok (.iload_n 2, 1) := by decide +kernel
theorem dX5_copyFrom_25 : decode cX5_copyFrom 25 = .ok (.aload_n 1, 1) := by decide +kernel
theorem dX5_copyFrom_26 : decode cX5_copyFrom 26 = .ok (.getfield 19, 3) := by decide +kernel
theorem dX5_copyFrom_29 : decode cX5_copyFrom 29 = .ok (.iload_n 2, 1) := by decide +kernel
theorem dX5_copyFrom_30 : decode cX5_copyFrom 30 = .ok (.iaload, 1) := by decide +kernel
theorem dX5_copyFrom_31 : decode cX5_copyFrom 31 = .ok (.iastore, 1) := by decide +kernel
theorem dX5_copyFrom_32 : decode cX5_copyFrom 32 = .ok (.iinc 2 1, 3) := by decide +kernel
theorem dX5_copyFrom_35 : decode cX5_copyFrom 35 = .ok (.goto (-33), 3) := by decide +kernel
theorem dX5_copyFrom_38 : decode cX5_copyFrom 38 = .ok (.aload_n 0, 1) := by decide +kernel
theorem dX5_copyFrom_39 : decode cX5_copyFrom 39 = .ok (.aload_n 1, 1) := by decide +kernel
theorem dX5_copyFrom_40 : decode cX5_copyFrom 40 = .ok (.getfield 36, 3) := by decide +kernel
theorem dX5_copyFrom_43 : decode cX5_copyFrom 43 = .ok (.putfield 36, 3) := by decide +kernel
theorem dX5_copyFrom_46 : decode cX5_copyFrom 46 = .ok (.iconst 0, 1) := by decide +kernel
theorem dX5_copyFrom_47 : decode cX5_copyFrom 47 = .ok (.istore_n 2, 1) := by decide +kernel
theorem dX5_copyFrom_48 : decode cX5_copyFrom 48 = .ok (.iload_n 2, 1) := by decide +kernel
theorem dX5_copyFrom_49 : decode cX5_copyFrom 49 = .ok (.aload_n 0, 1) := by decide +kernel
theorem dX5_copyFrom_50 : decode cX5_copyFrom 50 = .ok (.getfield 36, 3) := by decide +kernel
theorem dX5_copyFrom_53 : decode cX5_copyFrom 53 = .ok (.if_icmp .ge 24, 3) := by decide +kernel
theorem dX5_copyFrom_56 : decode cX5_copyFrom 56 = .ok (.aload_n 0, 1) := by decide +kernel
theorem dX5_copyFrom_57 : decode cX5_copyFrom 57 = .ok (.getfield 24, 3) := by decide +kernel
theorem dX5_copyFrom_60 : decode cX5_copyFrom 60 = .ok (.iload_n 2, 1) := by decide +kernel
theorem dX5_copyFrom_61 : decode cX5_copyFrom 61 = .ok (.aaload, 1) := by decide +kernel
theorem dX5_copyFrom_62 : decode cX5_copyFrom 62 = .ok (.aload_n 1, 1) := by decide +kernel
theorem dX5_copyFrom_63 : decode cX5_copyFrom 63 = .ok (.getfield 24, 3) := by decide +kernel
theorem dX5_copyFrom_66 : decode cX5_copyFrom 66 = .ok (.iload_n 2, 1) := by decide +kernel
theorem dX5_copyFrom_67 : decode cX5_copyFrom 67 = .ok (.aaload, 1) := by decide +kernel
theorem dX5_copyFrom_68 : decode cX5_copyFrom 68 = .ok (.invokevirtual 40, 3) := by decide +kernel
theorem dX5_copyFrom_71 : decode cX5_copyFrom 71 = .ok (.iinc 2 1, 3) := by decide +kernel
theorem dX5_copyFrom_74 : decode cX5_copyFrom 74 = .ok (.goto (-26), 3) := by decide +kernel
theorem dX5_copyFrom_77 : decode cX5_copyFrom 77 = .ok (.aload_n 0, 1) := by decide +kernel
theorem dX5_copyFrom_78 : decode cX5_copyFrom 78 = .ok (.aload_n 1, 1) := by decide +kernel
theorem dX5_copyFrom_79 : decode cX5_copyFrom 79 = .ok (.getfield 44, 3) := by decide +kernel
theorem dX5_copyFrom_82 : decode cX5_copyFrom 82 = .ok (.putfield 44, 3) := by decide +kernel
theorem dX5_copyFrom_85 : decode cX5_copyFrom 85 = .ok (.iconst 0, 1) := by decide +kernel
theorem dX5_copyFrom_86 : decode cX5_copyFrom 86 = .ok (.istore_n 2, 1) := by decide +kernel
theorem dX5_copyFrom_87 : decode cX5_copyFrom 87 = .ok (.iload_n 2, 1) := by decide +kernel
theorem dX5_copyFrom_88 : decode cX5_copyFrom 88 = .ok (.aload_n 0, 1) := by decide +kernel
theorem dX5_copyFrom_89 : decode cX5_copyFrom 89 = .ok (.getfield 44, 3) := by decide +kernel
theorem dX5_copyFrom_92 : decode cX5_copyFrom 92 = .ok (.if_icmp .ge 24, 3) := by decide +kernel
theorem dX5_copyFrom_95 : decode cX5_copyFrom 95 = .ok (.aload_n 0, 1) := by decide +kernel
theorem dX5_copyFrom_96 : decode cX5_copyFrom 96 = .ok (.getfield 31, 3) := by decide +kernel
theorem dX5_copyFrom_99 : decode cX5_copyFrom 99 = .ok (.iload_n 2, 1) := by decide +kernel
theorem dX5_copyFrom_100 : decode cX5_copyFrom 100 = .ok (.aaload, 1) := by decide +kernel
theorem dX5_copyFrom_101 : decode cX5_copyFrom 101 = .ok (.aload_n 1, 1) := by decide +kernel
theorem dX5_copyFrom_102 : decode cX5_copyFrom 102 = .ok (.getfield 31, 3) := by decide +kernel
theorem dX5_copyFrom_105 : decode cX5_copyFrom 105 = .ok (.iload_n 2, 1) := by decide +kernel
theorem dX5_copyFrom_106 : decode cX5_copyFrom 106 = .ok (.aaload, 1) := by decide +kernel
theorem dX5_copyFrom_107 : decode cX5_copyFrom 107 = .ok (.invokevirtual 47, 3) := by decide +kernel
theorem dX5_copyFrom_110 : decode cX5_copyFrom 110 = .ok (.iinc 2 1, 3) := by decide +kernel
theorem dX5_copyFrom_113 : decode cX5_copyFrom 113 = .ok (.goto (-26), 3) := by decide +kernel
theorem dX5_copyFrom_116 : decode cX5_copyFrom 116 = .ok (.aload_n 0, 1) := by decide +kernel
theorem dX5_copyFrom_117 : decode cX5_copyFrom 117 = .ok (.aload_n 1, 1) := by decide +kernel
theorem dX5_copyFrom_118 : decode cX5_copyFrom 118 = .ok (.getfield 50, 3) := by decide +kernel
theorem dX5_copyFrom_121 : decode cX5_copyFrom 121 = .ok (.putfield 50, 3) := by decide +kernel
theorem dX5_copyFrom_124 : decode cX5_copyFrom 124 = .ok (.aload_n 0, 1) := by decide +kernel
theorem dX5_copyFrom_125 : decode cX5_copyFrom 125 = .ok (.aload_n 1, 1) := by decide +kernel
theorem dX5_copyFrom_126 : decode cX5_copyFrom 126 = .ok (.getfield 53, 3) := by decide +kernel
theorem dX5_copyFrom_129 : decode cX5_copyFrom 129 = .ok (.putfield 53, 3) := by decide +kernel
theorem dX5_copyFrom_132 : decode cX5_copyFrom 132 = .ok (.aload_n 0, 1) := by decide +kernel
theorem dX5_copyFrom_133 : decode cX5_copyFrom 133 = .ok (.aload_n 1, 1) := by decide +kernel
theorem dX5_copyFrom_134 : decode cX5_copyFrom 134 = .ok (.getfield 56, 3) := by decide +kernel
theorem dX5_copyFrom_137 : decode cX5_copyFrom 137 = .ok (.putfield 56, 3) := by decide +kernel
theorem dX5_copyFrom_140 : decode cX5_copyFrom 140 = .ok (.return_, 1) := by decide +kernel
theorem dX5_qualityAt_0 : decode cX5_qualityAt 0 = .ok (.aload_n 0, 1) := by decide +kernel
theorem dX5_qualityAt_1 : decode cX5_qualityAt 1 = .ok (.getfield 9, 3) := by decide +kernel
theorem dX5_qualityAt_4 : decode cX5_qualityAt 4 = .ok (.getfield 59, 3) := by decide +kernel
theorem dX5_qualityAt_7 : decode cX5_qualityAt 7 = .ok (.iload_n 1, 1) := by decide +kernel
theorem dX5_qualityAt_8 : decode cX5_qualityAt 8 = .ok (.aaload, 1) := by decide +kernel
theorem dX5_qualityAt_9 : decode cX5_qualityAt 9 = .ok (.iload_n 2, 1) := by decide +kernel
theorem dX5_qualityAt_10 : decode cX5_qualityAt 10 = .ok (.iaload, 1) := by decide +kernel
theorem dX5_qualityAt_11 : decode cX5_qualityAt 11 = .ok (.iconst 2, 1) := by decide +kernel
theorem dX5_qualityAt_12 : decode cX5_qualityAt 12 = .ok (.aload_n 0, 1) := by decide +kernel
theorem dX5_qualityAt_13 : decode cX5_qualityAt 13 = .ok (.getfield 15, 3) := by decide +kernel
theorem dX5_qualityAt_16 : decode cX5_qualityAt 16 = .ok (.iload_n 1, 1) := by decide +kernel
theorem dX5_qualityAt_17 : decode cX5_qualityAt 17 = .ok (.iaload, 1) := by decide +kernel
theorem dX5_qualityAt_18 : decode cX5_qualityAt 18 = .ok (.imul, 1) := by decide +kernel
theorem dX5_qualityAt_19 : decode cX5_qualityAt 19 = .ok (.isub, 1) := by decide +kernel
theorem dX5_qualityAt_20 : decode cX5_qualityAt 20 = .ok (.ireturn, 1) := by decide +kernel
theorem dX5_isHeard_0 : decode cX5_isHeard 0 = .ok (.aload_n 0, 1) := by decide +kernel
theorem dX5_isHeard_1 : decode cX5_isHeard 1 = .ok (.iload_n 1, 1) := by decide +kernel
theorem dX5_isHeard_2 : decode cX5_isHeard 2 = .ok (.iload_n 2, 1) := by decide +kernel
theorem dX5_isHeard_3 : decode cX5_isHeard 3 = .ok (.invokevirtual 65, 3) := by decide +kernel
theorem dX5_isHeard_6 : decode cX5_isHeard 6 = .ok (.iconst 1, 1) := by decide +kernel
theorem dX5_isHeard_7 : decode cX5_isHeard 7 = .ok (.if_icmp .lt 7, 3) := by decide +kernel
theorem dX5_isHeard_10 : decode cX5_isHeard 10 = .ok (.iconst 1, 1) := by decide +kernel
theorem dX5_isHeard_11 : decode cX5_isHeard 11 = .ok (.goto 4, 3) := by decide +kernel
theorem dX5_isHeard_14 : decode cX5_isHeard 14 = .ok (.iconst 0, 1) := by decide +kernel
theorem dX5_isHeard_15 : decode cX5_isHeard 15 = .ok (.ireturn, 1) := by decide +kernel
theorem dX5_bestHeardAt_0 : decode cX5_bestHeardAt 0 = .ok (.iconst (-1), 1) := by decide +kernel
theorem dX5_bestHeardAt_1 : decode cX5_bestHeardAt 1 = .ok (.istore_n 2, 1) := by decide +kernel
theorem dX5_bestHeardAt_2 : decode cX5_bestHeardAt 2 = .ok (.iconst 0, 1) := by decide +kernel
theorem dX5_bestHeardAt_3 : decode cX5_bestHeardAt 3 = .ok (.istore_n 3, 1) := by decide +kernel
theorem dX5_bestHeardAt_4 : decode cX5_bestHeardAt 4 = .ok (.iconst 0, 1) := by decide +kernel
theorem dX5_bestHeardAt_5 : decode cX5_bestHeardAt 5 = .ok (.istore 4, 2) := by decide +kernel
theorem dX5_bestHeardAt_7 : decode cX5_bestHeardAt 7 = .ok (.iload 4, 2) := by decide +kernel
theorem dX5_bestHeardAt_9 : decode cX5_bestHeardAt 9 = .ok (.aload_n 0, 1) := by decide +kernel
theorem dX5_bestHeardAt_10 : decode cX5_bestHeardAt 10 = .ok (.getfield 9, 3) := by decide +kernel
theorem dX5_bestHeardAt_13 : decode cX5_bestHeardAt 13 = .ok (.getfield 69, 3) := by decide +kernel
theorem dX5_bestHeardAt_16 : decode cX5_bestHeardAt 16 = .ok (.if_icmp .ge 30, 3) := by decide +kernel
theorem dX5_bestHeardAt_19 : decode cX5_bestHeardAt 19 = .ok (.aload_n 0, 1) := by decide +kernel
theorem dX5_bestHeardAt_20 : decode cX5_bestHeardAt 20 = .ok (.iload 4, 2) := by decide +kernel
theorem dX5_bestHeardAt_22 : decode cX5_bestHeardAt 22 = .ok (.iload_n 1, 1) := by decide +kernel
theorem dX5_bestHeardAt_23 : decode cX5_bestHeardAt 23 = .ok (.invokevirtual 65, 3) := by decide +kernel
theorem dX5_bestHeardAt_26 : decode cX5_bestHeardAt 26 = .ok (.istore 5, 2) := by decide +kernel
theorem dX5_bestHeardAt_28 : decode cX5_bestHeardAt 28 = .ok (.iload 5, 2) := by decide +kernel
theorem dX5_bestHeardAt_30 : decode cX5_bestHeardAt 30 = .ok (.iload_n 3, 1) := by decide +kernel
theorem dX5_bestHeardAt_31 : decode cX5_bestHeardAt 31 = .ok (.if_icmp .le 9, 3) := by decide +kernel
theorem dX5_bestHeardAt_34 : decode cX5_bestHeardAt 34 = .ok (.iload 4, 2) := by decide +kernel
theorem dX5_bestHeardAt_36 : decode cX5_bestHeardAt 36 = .ok (.istore_n 2, 1) := by decide +kernel
theorem dX5_bestHeardAt_37 : decode cX5_bestHeardAt 37 = .ok (.iload 5, 2) := by decide +kernel
theorem dX5_bestHeardAt_39 : decode cX5_bestHeardAt 39 = .ok (.istore_n 3, 1) := by decide +kernel
theorem dX5_bestHeardAt_40 : decode cX5_bestHeardAt 40 = .ok (.iinc 4 1, 3) := by decide +kernel
theorem dX5_bestHeardAt_43 : decode cX5_bestHeardAt 43 = .ok (.goto (-36), 3) := by decide +kernel
theorem dX5_bestHeardAt_46 : decode cX5_bestHeardAt 46 = .ok (.iload_n 2, 1) := by decide +kernel
theorem dX5_bestHeardAt_47 : decode cX5_bestHeardAt 47 = .ok (.ireturn, 1) := by decide +kernel
theorem dX5_placesHeardWell_0 : decode cX5_placesHeardWell 0 = .ok (.iconst 0, 1) := by decide +kernel
theorem dX5_placesHeardWell_1 : decode cX5_placesHeardWell 1 = .ok (.istore_n 1, 1) := by decide +kernel
theorem dX5_placesHeardWell_2 : decode cX5_placesHeardWell 2 = .ok (.iconst 0, 1) := by decide +kernel
theorem dX5_placesHeardWell_3 : decode cX5_placesHeardWell 3 = .ok (.istore_n 2, 1) := by decide +kernel
theorem dX5_placesHeardWell_4 : decode cX5_placesHeardWell 4 = .ok (.iload_n 2, 1) := by decide +kernel
theorem dX5_placesHeardWell_5 : decode cX5_placesHeardWell 5 = .ok (.bipush 100, 2) := by decide +kernel
theorem dX5_placesHeardWell_7 : decode cX5_placesHeardWell 7 = .ok (.if_icmp .ge 33, 3) := by decide +kernel
theorem dX5_placesHeardWell_10 : decode cX5_placesHeardWell 10 = .ok (.aload_n 0, 1) := by decide +kernel
theorem dX5_placesHeardWell_11 : decode cX5_placesHeardWell 11 = .ok (.iload_n 2, 1) := by decide +kernel
theorem dX5_placesHeardWell_12 : decode cX5_placesHeardWell 12 = .ok (.invokevirtual 72, 3) := by decide +kernel
theorem dX5_placesHeardWell_15 : decode cX5_placesHeardWell 15 = .ok (.istore_n 3, 1) := by decide +kernel
theorem dX5_placesHeardWell_16 : decode cX5_placesHeardWell 16 = .ok (.iload_n 3, 1) := by decide +kernel
theorem dX5_placesHeardWell_17 : decode cX5_placesHeardWell 17 = .ok (.iconst (-1), 1) := by decide +kernel
theorem dX5_placesHeardWell_18 : decode cX5_placesHeardWell 18 = .ok (.if_icmp .eq 16, 3) := by decide +kernel
theorem dX5_placesHeardWell_21 : decode cX5_placesHeardWell 21 = .ok (.aload_n 0, 1) := by decide +kernel
theorem dX5_placesHeardWell_22 : decode cX5_placesHeardWell 22 = .ok (.iload_n 3, 1) := by decide +kernel
theorem dX5_placesHeardWell_23 : decode cX5_placesHeardWell 23 = .ok (.iload_n 2, 1) := by decide +kernel
theorem dX5_placesHeardWell_24 : decode cX5_placesHeardWell 24 = .ok (.invokevirtual 65, 3) := by decide +kernel
theorem dX5_placesHeardWell_27 : decode cX5_placesHeardWell 27 = .ok (.iconst 5, 1) := by decide +kernel
theorem dX5_placesHeardWell_28 : decode cX5_placesHeardWell 28 = .ok (.if_icmp .lt 6, 3) := by decide +kernel
theorem dX5_placesHeardWell_31 : decode cX5_placesHeardWell 31 = .ok (.iinc 1 1, 3) := by decide +kernel
theorem dX5_placesHeardWell_34 : decode cX5_placesHeardWell 34 = .ok (.iinc 2 1, 3) := by decide +kernel
theorem dX5_placesHeardWell_37 : decode cX5_placesHeardWell 37 = .ok (.goto (-33), 3) := by decide +kernel
theorem dX5_placesHeardWell_40 : decode cX5_placesHeardWell 40 = .ok (.iload_n 1, 1) := by decide +kernel
theorem dX5_placesHeardWell_41 : decode cX5_placesHeardWell 41 = .ok (.ireturn, 1) := by decide +kernel
theorem dX5_hasFreeChannels_0 : decode cX5_hasFreeChannels 0 = .ok (.aload_n 0, 1) := by decide +kernel
theorem dX5_hasFreeChannels_1 : decode cX5_hasFreeChannels 1 = .ok (.getfield 15, 3) := by decide +kernel
theorem dX5_hasFreeChannels_4 : decode cX5_hasFreeChannels 4 = .ok (.iload_n 1, 1) := by decide +kernel
theorem dX5_hasFreeChannels_5 : decode cX5_hasFreeChannels 5 = .ok (.iaload, 1) := by decide +kernel
theorem dX5_hasFreeChannels_6 : decode cX5_hasFreeChannels 6 = .ok (.iload_n 2, 1) := by decide +kernel
theorem dX5_hasFreeChannels_7 : decode cX5_hasFreeChannels 7 = .ok (.iadd, 1) := by decide +kernel
theorem dX5_hasFreeChannels_8 : decode cX5_hasFreeChannels 8 = .ok (.aload_n 0, 1) := by decide +kernel
theorem dX5_hasFreeChannels_9 : decode cX5_hasFreeChannels 9 = .ok (.getfield 9, 3) := by decide +kernel
theorem dX5_hasFreeChannels_12 : decode cX5_hasFreeChannels 12 = .ok (.getfield 76, 3) := by decide +kernel
theorem dX5_hasFreeChannels_15 : decode cX5_hasFreeChannels 15 = .ok (.iload_n 1, 1) := by decide +kernel
theorem dX5_hasFreeChannels_16 : decode cX5_hasFreeChannels 16 = .ok (.aaload, 1) := by decide +kernel
theorem dX5_hasFreeChannels_17 : decode cX5_hasFreeChannels 17 = .ok (.getfield 80, 3) := by decide +kernel
theorem dX5_hasFreeChannels_20 : decode cX5_hasFreeChannels 20 = .ok (.if_icmp .gt 7, 3) := by decide +kernel
theorem dX5_hasFreeChannels_23 : decode cX5_hasFreeChannels 23 = .ok (.iconst 1, 1) := by decide +kernel
theorem dX5_hasFreeChannels_24 : decode cX5_hasFreeChannels 24 = .ok (.goto 4, 3) := by decide +kernel
theorem dX5_hasFreeChannels_27 : decode cX5_hasFreeChannels 27 = .ok (.iconst 0, 1) := by decide +kernel
theorem dX5_hasFreeChannels_28 : decode cX5_hasFreeChannels 28 = .ok (.ireturn, 1) := by decide +kernel
theorem dX5_page_0 : decode cX5_page 0 = .ok (.aload_n 1, 1) := by decide +kernel
theorem dX5_page_1 : decode cX5_page 1 = .ok (.getfield 85, 3) := by decide +kernel
theorem dX5_page_4 : decode cX5_page 4 = .ok (.istore_n 2, 1) := by decide +kernel
theorem dX5_page_5 : decode cX5_page 5 = .ok (.iload_n 2, 1) := by decide +kernel
theorem dX5_page_6 : decode cX5_page 6 = .ok (.iconst (-1), 1) := by decide +kernel
theorem dX5_page_7 : decode cX5_page 7 = .ok (.if_icmp .ne 33, 3) := by decide +kernel
theorem dX5_page_10 : decode cX5_page 10 = .ok (.aload_n 0, 1) := by decide +kernel
theorem dX5_page_11 : decode cX5_page 11 = .ok (.dup, 1) := by decide +kernel
theorem dX5_page_12 : decode cX5_page 12 = .ok (.getfield 56, 3) := by decide +kernel
theorem dX5_page_15 : decode cX5_page 15 = .ok (.aload_n 0, 1) := by decide +kernel
theorem dX5_page_16 : decode cX5_page 16 = .ok (.getfield 9, 3) := by decide +kernel
theorem dX5_page_19 : decode cX5_page 19 = .ok (.invokevirtual 88, 3) := by decide +kernel
theorem dX5_page_22 : decode cX5_page 22 = .ok (.iadd, 1) := by decide +kernel
theorem dX5_page_23 : decode cX5_page 23 = .ok (.putfield 56, 3) := by decide +kernel
theorem dX5_page_26 : decode cX5_page 26 = .ok (.aload_n 1, 1) := by decide +kernel
theorem dX5_page_27 : decode cX5_page 27 = .ok (.getfield 92, 3) := by decide +kernel
theorem dX5_page_30 : decode cX5_page 30 = .ok (.iconst (-1), 1) := by decide +kernel
theorem dX5_page_31 : decode cX5_page 31 = .ok (.if_icmp .eq 7, 3) := by decide +kernel
theorem dX5_page_34 : decode cX5_page 34 = .ok (.iconst 1, 1) := by decide +kernel
theorem dX5_page_35 : decode cX5_page 35 = .ok (.goto 4, 3) := by decide +kernel
theorem dX5_page_38 : decode cX5_page 38 = .ok (.iconst 0, 1) := by decide +kernel
theorem dX5_page_39 : decode cX5_page 39 = .ok (.ireturn, 1) := by decide +kernel
theorem dX5_page_40 : decode cX5_page 40 = .ok (.aload_n 0, 1) := by decide +kernel
theorem dX5_page_41 : decode cX5_page 41 = .ok (.dup, 1) := by decide +kernel
theorem dX5_page_42 : decode cX5_page 42 = .ok (.getfield 56, 3) := by decide +kernel
theorem dX5_page_45 : decode cX5_page 45 = .ok (.aload_n 0, 1) := by decide +kernel
theorem dX5_page_46 : decode cX5_page 46 = .ok (.getfield 9, 3) := by decide +kernel
theorem dX5_page_49 : decode cX5_page 49 = .ok (.iload_n 2, 1) := by decide +kernel
theorem dX5_page_50 : decode cX5_page 50 = .ok (.invokevirtual 95, 3) := by decide +kernel
theorem dX5_page_53 : decode cX5_page 53 = .ok (.iadd, 1) := by decide +kernel
theorem dX5_page_54 : decode cX5_page 54 = .ok (.putfield 56, 3) := by decide +kernel
theorem dX5_page_57 : decode cX5_page 57 = .ok (.aload_n 0, 1) := by decide +kernel
theorem dX5_page_58 : decode cX5_page 58 = .ok (.aload_n 1, 1) := by decide +kernel
theorem dX5_page_59 : decode cX5_page 59 = .ok (.iload_n 2, 1) := by decide +kernel
theorem dX5_page_60 : decode cX5_page 60 = .ok (.invokevirtual 98, 3) := by decide +kernel
theorem dX5_page_63 : decode cX5_page 63 = .ok (.ifCond .eq 5, 3) := by decide +kernel
theorem dX5_page_66 : decode cX5_page 66 = .ok (.iconst 1, 1) := by decide +kernel
theorem dX5_page_67 : decode cX5_page 67 = .ok (.ireturn, 1) := by decide +kernel
theorem dX5_page_68 : decode cX5_page 68 = .ok (.aload_n 0, 1) := by decide +kernel
theorem dX5_page_69 : decode cX5_page 69 = .ok (.dup, 1) := by decide +kernel
theorem dX5_page_70 : decode cX5_page 70 = .ok (.getfield 56, 3) := by decide +kernel
theorem dX5_page_73 : decode cX5_page 73 = .ok (.aload_n 0, 1) := by decide +kernel
theorem dX5_page_74 : decode cX5_page 74 = .ok (.getfield 9, 3) := by decide +kernel
theorem dX5_page_77 : decode cX5_page 77 = .ok (.iload_n 2, 1) := by decide +kernel
theorem dX5_page_78 : decode cX5_page 78 = .ok (.iconst 1, 1) := by decide +kernel
theorem dX5_page_79 : decode cX5_page 79 = .ok (.isub, 1) := by decide +kernel
theorem dX5_page_80 : decode cX5_page 80 = .ok (.invokevirtual 95, 3) := by decide +kernel
theorem dX5_page_83 : decode cX5_page 83 = .ok (.aload_n 0, 1) := by decide +kernel
theorem dX5_page_84 : decode cX5_page 84 = .ok (.getfield 9, 3) := by decide +kernel
theorem dX5_page_87 : decode cX5_page 87 = .ok (.iload_n 2, 1) := by decide +kernel
theorem dX5_page_88 : decode cX5_page 88 = .ok (.iconst 1, 1) := by decide +kernel
theorem dX5_page_89 : decode cX5_page 89 = .ok (.iadd, 1) := by decide +kernel
theorem dX5_page_90 : decode cX5_page 90 = .ok (.invokevirtual 95, 3) := by decide +kernel
theorem dX5_page_93 : decode cX5_page 93 = .ok (.iadd, 1) := by decide +kernel
theorem dX5_page_94 : decode cX5_page 94 = .ok (.iadd, 1) := by decide +kernel
theorem dX5_page_95 : decode cX5_page 95 = .ok (.putfield 56, 3) := by decide +kernel
theorem dX5_page_98 : decode cX5_page 98 = .ok (.aload_n 0, 1) := by decide +kernel
theorem dX5_page_99 : decode cX5_page 99 = .ok (.aload_n 1, 1) := by decide +kernel
theorem dX5_page_100 : decode cX5_page 100 = .ok (.iload_n 2, 1) := by decide +kernel
theorem dX5_page_101 : decode cX5_page 101 = .ok (.iconst 1, 1) := by decide +kernel
theorem dX5_page_102 : decode cX5_page 102 = .ok (.isub, 1) := by decide +kernel
theorem dX5_page_103 : decode cX5_page 103 = .ok (.invokevirtual 98, 3) := by decide +kernel
theorem dX5_page_106 : decode cX5_page 106 = .ok (.ifCond .ne 14, 3) := by decide +kernel
theorem dX5_page_109 : decode cX5_page 109 = .ok (.aload_n 0, 1) := by decide +kernel
theorem dX5_page_110 : decode cX5_page 110 = .ok (.aload_n 1, 1) := by decide +kernel
theorem dX5_page_111 : decode cX5_page 111 = .ok (.iload_n 2, 1) := by decide +kernel
theorem dX5_page_112 : decode cX5_page 112 = .ok (.iconst 1, 1) := by decide +kernel
theorem dX5_page_113 : decode cX5_page 113 = .ok (.iadd, 1) := by decide +kernel
theorem dX5_page_114 : decode cX5_page 114 = .ok (.invokevirtual 98, 3) := by decide +kernel
theorem dX5_page_117 : decode cX5_page 117 = .ok (.ifCond .eq 7, 3) := by decide +kernel
theorem dX5_page_120 : decode cX5_page 120 = .ok (.iconst 1, 1) := by decide +kernel
theorem dX5_page_121 : decode cX5_page 121 = .ok (.goto 4, 3) := by decide +kernel
theorem dX5_page_124 : decode cX5_page 124 = .ok (.iconst 0, 1) := by decide +kernel
theorem dX5_page_125 : decode cX5_page 125 = .ok (.ireturn, 1) := by decide +kernel
theorem dX5_isInArea_0 : decode cX5_isInArea 0 = .ok (.aload_n 1, 1) := by decide +kernel
theorem dX5_isInArea_1 : decode cX5_isInArea 1 = .ok (.getfield 92, 3) := by decide +kernel
theorem dX5_isInArea_4 : decode cX5_isInArea 4 = .ok (.iconst (-1), 1) := by decide +kernel
theorem dX5_isInArea_5 : decode cX5_isInArea 5 = .ok (.if_icmp .eq 26, 3) := by decide +kernel
theorem dX5_isInArea_8 : decode cX5_isInArea 8 = .ok (.aload_n 0, 1) := by decide +kernel
theorem dX5_isInArea_9 : decode cX5_isInArea 9 = .ok (.getfield 9, 3) := by decide +kernel
theorem dX5_isInArea_12 : decode cX5_isInArea 12 = .ok (.getfield 76, 3) := by decide +kernel
theorem dX5_isInArea_15 : decode cX5_isInArea 15 = .ok (.aload_n 1, 1) := by decide +kernel
theorem dX5_isInArea_16 : decode cX5_isInArea 16 = .ok (.getfield 92, 3) := by decide +kernel
theorem dX5_isInArea_19 : decode cX5_isInArea 19 = .ok (.aaload, 1) := by decide +kernel
theorem dX5_isInArea_20 : decode cX5_isInArea 20 = .ok (.getfield 102, 3) := by decide +kernel
theorem dX5_isInArea_23 : decode cX5_isInArea 23 = .ok (.iload_n 2, 1) := by decide +kernel
theorem dX5_isInArea_24 : decode cX5_isInArea 24 = .ok (.if_icmp .ne 7, 3) := by decide +kernel
theorem dX5_isInArea_27 : decode cX5_isInArea 27 = .ok (.iconst 1, 1) := by decide +kernel
theorem dX5_isInArea_28 : decode cX5_isInArea 28 = .ok (.goto 4, 3) := by decide +kernel
theorem dX5_isInArea_31 : decode cX5_isInArea 31 = .ok (.iconst 0, 1) := by decide +kernel
theorem dX5_isInArea_32 : decode cX5_isInArea 32 = .ok (.ireturn, 1) := by decide +kernel
theorem dX5_wouldBeFound_0 : decode cX5_wouldBeFound 0 = .ok (.aload_n 1, 1) := by decide +kernel
theorem dX5_wouldBeFound_1 : decode cX5_wouldBeFound 1 = .ok (.getfield 85, 3) := by decide +kernel
theorem dX5_wouldBeFound_4 : decode cX5_wouldBeFound 4 = .ok (.istore_n 2, 1) := by decide +kernel
theorem dX5_wouldBeFound_5 : decode cX5_wouldBeFound 5 = .ok (.iload_n 2, 1) := by decide +kernel
theorem dX5_wouldBeFound_6 : decode cX5_wouldBeFound 6 = .ok (.iconst (-1), 1) := by decide +kernel
theorem dX5_wouldBeFound_7 : decode cX5_wouldBeFound 7 = .ok (.if_icmp .ne 17, 3) := by decide +kernel
theorem dX5_wouldBeFound_10 : decode cX5_wouldBeFound 10 = .ok (.aload_n 1, 1) := by decide +kernel
theorem dX5_wouldBeFound_11 : decode cX5_wouldBeFound 11 = .ok (.getfield 92, 3) := by decide +kernel
theorem dX5_wouldBeFound_14 : decode cX5_wouldBeFound 14 = .ok (.iconst (-1), 1) := by decide +kernel
theorem dX5_wouldBeFound_15 : decode cX5_wouldBeFound 15 = .ok (.if_icmp .eq 7, 3) := by decide +kernel
theorem dX5_wouldBeFound_18 : decode cX5_wouldBeFound 18 = .ok (.iconst 1, 1) := by decide +kernel
theorem dX5_wouldBeFound_19 : decode cX5_wouldBeFound 19 = .ok (.goto 4, 3) := by decide +kernel
theorem dX5_wouldBeFound_22 : decode cX5_wouldBeFound 22 = .ok (.iconst 0, 1) := by decide +kernel
theorem dX5_wouldBeFound_23 : decode cX5_wouldBeFound 23 = .ok (.ireturn, 1) := by decide +kernel
theorem dX5_wouldBeFound_24 : decode cX5_wouldBeFound 24 = .ok (.aload_n 0, 1) := by decide +kernel
theorem dX5_wouldBeFound_25 : decode cX5_wouldBeFound 25 = .ok (.aload_n 1, 1) := by decide +kernel
theorem dX5_wouldBeFound_26 : decode cX5_wouldBeFound 26 = .ok (.iload_n 2, 1) := by decide +kernel
theorem dX5_wouldBeFound_27 : decode cX5_wouldBeFound 27 = .ok (.iconst 1, 1) := by decide +kernel
theorem dX5_wouldBeFound_28 : decode cX5_wouldBeFound 28 = .ok (.isub, 1) := by decide +kernel
theorem dX5_wouldBeFound_29 : decode cX5_wouldBeFound 29 = .ok (.invokevirtual 98, 3) := by decide +kernel
theorem dX5_wouldBeFound_32 : decode cX5_wouldBeFound 32 = .ok (.ifCond .ne 23, 3) := by decide +kernel
theorem dX5_wouldBeFound_35 : decode cX5_wouldBeFound 35 = .ok (.aload_n 0, 1) := by decide +kernel
theorem dX5_wouldBeFound_36 : decode cX5_wouldBeFound 36 = .ok (.aload_n 1, 1) := by decide +kernel
theorem dX5_wouldBeFound_37 : decode cX5_wouldBeFound 37 = .ok (.iload_n 2, 1) := by decide +kernel
theorem dX5_wouldBeFound_38 : decode cX5_wouldBeFound 38 = .ok (.invokevirtual 98, 3) := by decide +kernel
theorem dX5_wouldBeFound_41 : decode cX5_wouldBeFound 41 = .ok (.ifCond .ne 14, 3) := by decide +kernel
theorem dX5_wouldBeFound_44 : decode cX5_wouldBeFound 44 = .ok (.aload_n 0, 1) := by decide +kernel
theorem dX5_wouldBeFound_45 : decode cX5_wouldBeFound 45 = .ok (.aload_n 1, 1) := by decide +kernel
theorem dX5_wouldBeFound_46 : decode cX5_wouldBeFound 46 = .ok (.iload_n 2, 1) := by decide +kernel
theorem dX5_wouldBeFound_47 : decode cX5_wouldBeFound 47 = .ok (.iconst 1, 1) := by decide +kernel
theorem dX5_wouldBeFound_48 : decode cX5_wouldBeFound 48 = .ok (.iadd, 1) := by decide +kernel
theorem dX5_wouldBeFound_49 : decode cX5_wouldBeFound 49 = .ok (.invokevirtual 98, 3) := by decide +kernel
theorem dX5_wouldBeFound_52 : decode cX5_wouldBeFound 52 = .ok (.ifCond .eq 7, 3) := by decide +kernel
theorem dX5_wouldBeFound_55 : decode cX5_wouldBeFound 55 = .ok (.iconst 1, 1) := by decide +kernel
theorem dX5_wouldBeFound_56 : decode cX5_wouldBeFound 56 = .ok (.goto 4, 3) := by decide +kernel
theorem dX5_wouldBeFound_59 : decode cX5_wouldBeFound 59 = .ok (.iconst 0, 1) := by decide +kernel
theorem dX5_wouldBeFound_60 : decode cX5_wouldBeFound 60 = .ok (.ireturn, 1) := by decide +kernel
theorem dX5_handsetsToBeFound_0 : decode cX5_handsetsToBeFound 0 = .ok (.iconst 0, 1) := by decide +kernel
theorem dX5_handsetsToBeFound_1 : decode cX5_handsetsToBeFound 1 = .ok (.istore_n 1, 1) := by decide +kernel
theorem dX5_handsetsToBeFound_2 : decode cX5_handsetsToBeFound 2 = .ok (.iconst 0, 1) := by decide +kernel
theorem dX5_handsetsToBeFound_3 : decode cX5_handsetsToBeFound 3 = .ok (.istore_n 2, 1) := by decide +kernel
theorem dX5_handsetsToBeFound_4 : decode cX5_handsetsToBeFound 4 = .ok (.iload_n 2, 1) := by decide +kernel
theorem dX5_handsetsToBeFound_5 : decode cX5_handsetsToBeFound 5 = .ok (.aload_n 0, 1) := by decide +kernel
theorem dX5_handsetsToBeFound_6 : decode cX5_handsetsToBeFound 6 = .ok (.getfield 36, 3) := by decide +kernel
theorem dX5_handsetsToBeFound_9 : decode cX5_handsetsToBeFound 9 = .ok (.if_icmp .ge 25, 3) := by decide +kernel
theorem dX5_handsetsToBeFound_12 : decode cX5_handsetsToBeFound 12 = .ok (.aload_n 0, 1) := by decide +kernel
theorem dX5_handsetsToBeFound_13 : decode cX5_handsetsToBeFound 13 = .ok (.aload_n 0, 1) := by decide +kernel
theorem dX5_handsetsToBeFound_14 : decode cX5_handsetsToBeFound 14 = .ok (.getfield 24, 3) := by decide +kernel
theorem dX5_handsetsToBeFound_17 : decode cX5_handsetsToBeFound 17 = .ok (.iload_n 2, 1) := by decide +kernel
theorem dX5_handsetsToBeFound_18 : decode cX5_handsetsToBeFound 18 = .ok (.aaload, 1) := by decide +kernel
theorem dX5_handsetsToBeFound_19 : decode cX5_handsetsToBeFound 19 = .ok (.invokevirtual 105, 3) := by decide +kernel
theorem dX5_handsetsToBeFound_22 : decode cX5_handsetsToBeFound 22 = .ok (.ifCond .eq 6, 3) := by decide +kernel
theorem dX5_handsetsToBeFound_25 : decode cX5_handsetsToBeFound 25 = .ok (.iinc 1 1, 3) := by decide +kernel
theorem dX5_handsetsToBeFound_28 : decode cX5_handsetsToBeFound 28 = .ok (.iinc 2 1, 3) := by decide +kernel
theorem dX5_handsetsToBeFound_31 : decode cX5_handsetsToBeFound 31 = .ok (.goto (-27), 3) := by decide +kernel
theorem dX5_handsetsToBeFound_34 : decode cX5_handsetsToBeFound 34 = .ok (.iload_n 1, 1) := by decide +kernel
theorem dX5_handsetsToBeFound_35 : decode cX5_handsetsToBeFound 35 = .ok (.ireturn, 1) := by decide +kernel
theorem dX5_forgetAreas_0 : decode cX5_forgetAreas 0 = .ok (.iconst 0, 1) := by decide +kernel
theorem dX5_forgetAreas_1 : decode cX5_forgetAreas 1 = .ok (.istore_n 1, 1) := by decide +kernel
theorem dX5_forgetAreas_2 : decode cX5_forgetAreas 2 = .ok (.iconst 0, 1) := by decide +kernel
theorem dX5_forgetAreas_3 : decode cX5_forgetAreas 3 = .ok (.istore_n 2, 1) := by decide +kernel
theorem dX5_forgetAreas_4 : decode cX5_forgetAreas 4 = .ok (.iload_n 2, 1) := by decide +kernel
theorem dX5_forgetAreas_5 : decode cX5_forgetAreas 5 = .ok (.aload_n 0, 1) := by decide +kernel
theorem dX5_forgetAreas_6 : decode cX5_forgetAreas 6 = .ok (.getfield 36, 3) := by decide +kernel
theorem dX5_forgetAreas_9 : decode cX5_forgetAreas 9 = .ok (.if_icmp .ge 35, 3) := by decide +kernel
theorem dX5_forgetAreas_12 : decode cX5_forgetAreas 12 = .ok (.aload_n 0, 1) := by decide +kernel
theorem dX5_forgetAreas_13 : decode cX5_forgetAreas 13 = .ok (.getfield 24, 3) := by decide +kernel
theorem dX5_forgetAreas_16 : decode cX5_forgetAreas 16 = .ok (.iload_n 2, 1) := by decide +kernel
theorem dX5_forgetAreas_17 : decode cX5_forgetAreas 17 = .ok (.aaload, 1) := by decide +kernel
theorem dX5_forgetAreas_18 : decode cX5_forgetAreas 18 = .ok (.getfield 85, 3) := by decide +kernel
theorem dX5_forgetAreas_21 : decode cX5_forgetAreas 21 = .ok (.iconst (-1), 1) := by decide +kernel
theorem dX5_forgetAreas_22 : decode cX5_forgetAreas 22 = .ok (.if_icmp .eq 16, 3) := by decide +kernel
theorem dX5_forgetAreas_25 : decode cX5_forgetAreas 25 = .ok (.iinc 1 1, 3) := by decide +kernel
theorem dX5_forgetAreas_28 : decode cX5_forgetAreas 28 = .ok (.aload_n 0, 1) := by decide +kernel
theorem dX5_forgetAreas_29 : decode cX5_forgetAreas 29 = .ok (.getfield 24, 3) := by decide +kernel
theorem dX5_forgetAreas_32 : decode cX5_forgetAreas 32 = .ok (.iload_n 2, 1) := by decide +kernel
theorem dX5_forgetAreas_33 : decode cX5_forgetAreas 33 = .ok (.aaload, 1) := by decide +kernel
theorem dX5_forgetAreas_34 : decode cX5_forgetAreas 34 = .ok (.iconst (-1), 1) := by decide +kernel
theorem dX5_forgetAreas_35 : decode cX5_forgetAreas 35 = .ok (.putfield 85, 3) := by decide +kernel
theorem dX5_forgetAreas_38 : decode cX5_forgetAreas 38 = .ok (.iinc 2 1, 3) := by decide +kernel
theorem dX5_forgetAreas_41 : decode cX5_forgetAreas 41 = .ok (.goto (-37), 3) := by decide +kernel
theorem dX5_forgetAreas_44 : decode cX5_forgetAreas 44 = .ok (.iload_n 1, 1) := by decide +kernel
theorem dX5_forgetAreas_45 : decode cX5_forgetAreas 45 = .ok (.ireturn, 1) := by decide +kernel
theorem dX5_second_0 : decode cX5_second 0 = .ok (.aload_n 0, 1) := by decide +kernel
theorem dX5_second_1 : decode cX5_second 1 = .ok (.dup, 1) := by decide +kernel
theorem dX5_second_2 : decode cX5_second 2 = .ok (.getfield 53, 3) := by decide +kernel
theorem dX5_second_5 : decode cX5_second 5 = .ok (.iconst 1, 1) := by decide +kernel
theorem dX5_second_6 : decode cX5_second 6 = .ok (.iadd, 1) := by decide +kernel
theorem dX5_second_7 : decode cX5_second 7 = .ok (.putfield 53, 3) := by decide +kernel
theorem dX5_second_10 : decode cX5_second 10 = .ok (.iconst 0, 1) := by decide +kernel
theorem dX5_second_11 : decode cX5_second 11 = .ok (.istore_n 1, 1) := by decide +kernel
theorem dX5_second_12 : decode cX5_second 12 = .ok (.iload_n 1, 1) := by decide +kernel
theorem dX5_second_13 : decode cX5_second 13 = .ok (.aload_n 0, 1) := by decide +kernel
theorem dX5_second_14 : decode cX5_second 14 = .ok (.getfield 36, 3) := by decide +kernel
theorem dX5_second_17 : decode cX5_second 17 = .ok (.if_icmp .ge 18, 3) := by decide +kernel
theorem dX5_second_20 : decode cX5_second 20 = .ok (.aload_n 0, 1) := by decide +kernel
theorem dX5_second_21 : decode cX5_second 21 = .ok (.getfield 24, 3) := by decide +kernel
theorem dX5_second_24 : decode cX5_second 24 = .ok (.iload_n 1, 1) := by decide +kernel
theorem dX5_second_25 : decode cX5_second 25 = .ok (.aaload, 1) := by decide +kernel
theorem dX5_second_26 : decode cX5_second 26 = .ok (.invokevirtual 109, 3) := by decide +kernel
theorem dX5_second_29 : decode cX5_second 29 = .ok (.iinc 1 1, 3) := by decide +kernel
theorem dX5_second_32 : decode cX5_second 32 = .ok (.goto (-20), 3) := by decide +kernel
theorem dX5_second_35 : decode cX5_second 35 = .ok (.iconst 0, 1) := by decide +kernel
theorem dX5_second_36 : decode cX5_second 36 = .ok (.istore_n 1, 1) := by decide +kernel
theorem dX5_second_37 : decode cX5_second 37 = .ok (.iload_n 1, 1) := by decide +kernel
theorem dX5_second_38 : decode cX5_second 38 = .ok (.aload_n 0, 1) := by decide +kernel
theorem dX5_second_39 : decode cX5_second 39 = .ok (.getfield 36, 3) := by decide +kernel
theorem dX5_second_42 : decode cX5_second 42 = .ok (.if_icmp .ge 41, 3) := by decide +kernel
theorem dX5_second_45 : decode cX5_second 45 = .ok (.aload_n 0, 1) := by decide +kernel
theorem dX5_second_46 : decode cX5_second 46 = .ok (.getfield 24, 3) := by decide +kernel
theorem dX5_second_49 : decode cX5_second 49 = .ok (.iload_n 1, 1) := by decide +kernel
theorem dX5_second_50 : decode cX5_second 50 = .ok (.aaload, 1) := by decide +kernel
theorem dX5_second_51 : decode cX5_second 51 = .ok (.invokevirtual 112, 3) := by decide +kernel
theorem dX5_second_54 : decode cX5_second 54 = .ok (.ifCond .eq 23, 3) := by decide +kernel
theorem dX5_second_57 : decode cX5_second 57 = .ok (.aload_n 0, 1) := by decide +kernel
theorem dX5_second_58 : decode cX5_second 58 = .ok (.aload_n 0, 1) := by decide +kernel
theorem dX5_second_59 : decode cX5_second 59 = .ok (.getfield 24, 3) := by decide +kernel
theorem dX5_second_62 : decode cX5_second 62 = .ok (.iload_n 1, 1) := by decide +kernel
theorem dX5_second_63 : decode cX5_second 63 = .ok (.aaload, 1) := by decide +kernel
theorem dX5_second_64 : decode cX5_second 64 = .ok (.invokevirtual 116, 3) := by decide +kernel
theorem dX5_second_67 : decode cX5_second 67 = .ok (.aload_n 0, 1) := by decide +kernel
theorem dX5_second_68 : decode cX5_second 68 = .ok (.aload_n 0, 1) := by decide +kernel
theorem dX5_second_69 : decode cX5_second 69 = .ok (.getfield 24, 3) := by decide +kernel
theorem dX5_second_72 : decode cX5_second 72 = .ok (.iload_n 1, 1) := by decide +kernel
theorem dX5_second_73 : decode cX5_second 73 = .ok (.aaload, 1) := by decide +kernel
theorem dX5_second_74 : decode cX5_second 74 = .ok (.invokevirtual 119, 3) := by decide +kernel
theorem dX5_second_77 : decode cX5_second 77 = .ok (.iinc 1 1, 3) := by decide +kernel
theorem dX5_second_80 : decode cX5_second 80 = .ok (.goto (-43), 3) := by decide +kernel
theorem dX5_second_83 : decode cX5_second 83 = .ok (.iconst 0, 1) := by decide +kernel
theorem dX5_second_84 : decode cX5_second 84 = .ok (.istore_n 1, 1) := by decide +kernel
theorem dX5_second_85 : decode cX5_second 85 = .ok (.iload_n 1, 1) := by decide +kernel
theorem dX5_second_86 : decode cX5_second 86 = .ok (.aload_n 0, 1) := by decide +kernel
theorem dX5_second_87 : decode cX5_second 87 = .ok (.getfield 44, 3) := by decide +kernel
theorem dX5_second_90 : decode cX5_second 90 = .ok (.if_icmp .ge 47, 3) := by decide +kernel
theorem dX5_second_93 : decode cX5_second 93 = .ok (.aload_n 0, 1) := by decide +kernel
theorem dX5_second_94 : decode cX5_second 94 = .ok (.aload_n 0, 1) := by decide +kernel
theorem dX5_second_95 : decode cX5_second 95 = .ok (.getfield 31, 3) := by decide +kernel
theorem dX5_second_98 : decode cX5_second 98 = .ok (.iload_n 1, 1) := by decide +kernel
theorem dX5_second_99 : decode cX5_second 99 = .ok (.aaload, 1) := by decide +kernel
theorem dX5_second_100 : decode cX5_second 100 = .ok (.aload_n 0, 1) := by decide +kernel
theorem dX5_second_101 : decode cX5_second 101 = .ok (.getfield 31, 3) := by decide +kernel
theorem dX5_second_104 : decode cX5_second 104 = .ok (.iload_n 1, 1) := by decide +kernel
theorem dX5_second_105 : decode cX5_second 105 = .ok (.aaload, 1) := by decide +kernel
theorem dX5_second_106 : decode cX5_second 106 = .ok (.getfield 122, 3) := by decide +kernel
theorem dX5_second_109 : decode cX5_second 109 = .ok (.invokevirtual 126, 3) := by decide +kernel
theorem dX5_second_112 : decode cX5_second 112 = .ok (.aload_n 0, 1) := by decide +kernel
theorem dX5_second_113 : decode cX5_second 113 = .ok (.aload_n 0, 1) := by decide +kernel
theorem dX5_second_114 : decode cX5_second 114 = .ok (.getfield 31, 3) := by decide +kernel
theorem dX5_second_117 : decode cX5_second 117 = .ok (.iload_n 1, 1) := by decide +kernel
theorem dX5_second_118 : decode cX5_second 118 = .ok (.aaload, 1) := by decide +kernel
theorem dX5_second_119 : decode cX5_second 119 = .ok (.aload_n 0, 1) := by decide +kernel
theorem dX5_second_120 : decode cX5_second 120 = .ok (.getfield 31, 3) := by decide +kernel
theorem dX5_second_123 : decode cX5_second 123 = .ok (.iload_n 1, 1) := by decide +kernel
theorem dX5_second_124 : decode cX5_second 124 = .ok (.aaload, 1) := by decide +kernel
theorem dX5_second_125 : decode cX5_second 125 = .ok (.getfield 130, 3) := by decide +kernel
theorem dX5_second_128 : decode cX5_second 128 = .ok (.invokevirtual 126, 3) := by decide +kernel
theorem dX5_second_131 : decode cX5_second 131 = .ok (.iinc 1 1, 3) := by decide +kernel
theorem dX5_second_134 : decode cX5_second 134 = .ok (.goto (-49), 3) := by decide +kernel
theorem dX5_second_137 : decode cX5_second 137 = .ok (.iconst 0, 1) := by decide +kernel
theorem dX5_second_138 : decode cX5_second 138 = .ok (.istore_n 1, 1) := by decide +kernel
theorem dX5_second_139 : decode cX5_second 139 = .ok (.iload_n 1, 1) := by decide +kernel
theorem dX5_second_140 : decode cX5_second 140 = .ok (.aload_n 0, 1) := by decide +kernel
theorem dX5_second_141 : decode cX5_second 141 = .ok (.getfield 44, 3) := by decide +kernel
theorem dX5_second_144 : decode cX5_second 144 = .ok (.if_icmp .ge 19, 3) := by decide +kernel
theorem dX5_second_147 : decode cX5_second 147 = .ok (.aload_n 0, 1) := by decide +kernel
theorem dX5_second_148 : decode cX5_second 148 = .ok (.aload_n 0, 1) := by decide +kernel
theorem dX5_second_149 : decode cX5_second 149 = .ok (.getfield 31, 3) := by decide +kernel
theorem dX5_second_152 : decode cX5_second 152 = .ok (.iload_n 1, 1) := by decide +kernel
theorem dX5_second_153 : decode cX5_second 153 = .ok (.aaload, 1) := by decide +kernel
theorem dX5_second_154 : decode cX5_second 154 = .ok (.invokevirtual 133, 3) := by decide +kernel
theorem dX5_second_157 : decode cX5_second 157 = .ok (.iinc 1 1, 3) := by decide +kernel
theorem dX5_second_160 : decode cX5_second 160 = .ok (.goto (-21), 3) := by decide +kernel
theorem dX5_second_163 : decode cX5_second 163 = .ok (.iconst 0, 1) := by decide +kernel
theorem dX5_second_164 : decode cX5_second 164 = .ok (.istore_n 1, 1) := by decide +kernel
theorem dX5_second_165 : decode cX5_second 165 = .ok (.iload_n 1, 1) := by decide +kernel
theorem dX5_second_166 : decode cX5_second 166 = .ok (.aload_n 0, 1) := by decide +kernel
theorem dX5_second_167 : decode cX5_second 167 = .ok (.getfield 36, 3) := by decide +kernel
theorem dX5_second_170 : decode cX5_second 170 = .ok (.if_icmp .ge 19, 3) := by decide +kernel
theorem dX5_second_173 : decode cX5_second 173 = .ok (.aload_n 0, 1) := by decide +kernel
theorem dX5_second_174 : decode cX5_second 174 = .ok (.aload_n 0, 1) := by decide +kernel
theorem dX5_second_175 : decode cX5_second 175 = .ok (.getfield 24, 3) := by decide +kernel
theorem dX5_second_178 : decode cX5_second 178 = .ok (.iload_n 1, 1) := by decide +kernel
theorem dX5_second_179 : decode cX5_second 179 = .ok (.aaload, 1) := by decide +kernel
theorem dX5_second_180 : decode cX5_second 180 = .ok (.invokevirtual 136, 3) := by decide +kernel
theorem dX5_second_183 : decode cX5_second 183 = .ok (.iinc 1 1, 3) := by decide +kernel
theorem dX5_second_186 : decode cX5_second 186 = .ok (.goto (-21), 3) := by decide +kernel
theorem dX5_second_189 : decode cX5_second 189 = .ok (.return_, 1) := by decide +kernel
theorem dX5_chooseMast_0 : decode cX5_chooseMast 0 = .ok (.aload_n 0, 1) := by decide +kernel
theorem dX5_chooseMast_1 : decode cX5_chooseMast 1 = .ok (.aload_n 1, 1) := by decide +kernel
theorem dX5_chooseMast_2 : decode cX5_chooseMast 2 = .ok (.getfield 139, 3) := by decide +kernel
theorem dX5_chooseMast_5 : decode cX5_chooseMast 5 = .ok (.invokevirtual 72, 3) := by decide +kernel
theorem dX5_chooseMast_8 : decode cX5_chooseMast 8 = .ok (.istore_n 2, 1) := by decide +kernel
theorem dX5_chooseMast_9 : decode cX5_chooseMast 9 = .ok (.iload_n 2, 1) := by decide +kernel
theorem dX5_chooseMast_10 : decode cX5_chooseMast 10 = .ok (.iconst (-1), 1) := by decide +kernel
theorem dX5_chooseMast_11 : decode cX5_chooseMast 11 = .ok (.if_icmp .eq 11, 3) := by decide +kernel
theorem dX5_chooseMast_14 : decode cX5_chooseMast 14 = .ok (.aload_n 1, 1) := by decide +kernel
theorem dX5_chooseMast_15 : decode cX5_chooseMast 15 = .ok (.getfield 92, 3) := by decide +kernel
theorem dX5_chooseMast_18 : decode cX5_chooseMast 18 = .ok (.iconst (-1), 1) := by decide +kernel
theorem dX5_chooseMast_19 : decode cX5_chooseMast 19 = .ok (.if_icmp .ne 9, 3) := by decide +kernel
theorem dX5_chooseMast_22 : decode cX5_chooseMast 22 = .ok (.aload_n 1, 1) := by decide +kernel
theorem dX5_chooseMast_23 : decode cX5_chooseMast 23 = .ok (.iload_n 2, 1) := by decide +kernel
theorem dX5_chooseMast_24 : decode cX5_chooseMast 24 = .ok (.putfield 92, 3) := by decide +kernel
theorem dX5_chooseMast_27 : decode cX5_chooseMast 27 = .ok (.return_, 1) := by decide +kernel
theorem dX5_chooseMast_28 : decode cX5_chooseMast 28 = .ok (.aload_n 0, 1) := by decide +kernel
theorem dX5_chooseMast_29 : decode cX5_chooseMast 29 = .ok (.aload_n 1, 1) := by decide +kernel
theorem dX5_chooseMast_30 : decode cX5_chooseMast 30 = .ok (.getfield 92, 3) := by decide +kernel
theorem dX5_chooseMast_33 : decode cX5_chooseMast 33 = .ok (.aload_n 1, 1) := by decide +kernel
theorem dX5_chooseMast_34 : decode cX5_chooseMast 34 = .ok (.getfield 139, 3) := by decide +kernel
theorem dX5_chooseMast_37 : decode cX5_chooseMast 37 = .ok (.invokevirtual 65, 3) := by decide +kernel
theorem dX5_chooseMast_40 : decode cX5_chooseMast 40 = .ok (.istore_n 3, 1) := by decide +kernel
theorem dX5_chooseMast_41 : decode cX5_chooseMast 41 = .ok (.iload_n 3, 1) := by decide +kernel
theorem dX5_chooseMast_42 : decode cX5_chooseMast 42 = .ok (.iconst 1, 1) := by decide +kernel
theorem dX5_chooseMast_43 : decode cX5_chooseMast 43 = .ok (.if_icmp .lt 22, 3) := by decide +kernel
theorem dX5_chooseMast_46 : decode cX5_chooseMast 46 = .ok (.aload_n 0, 1) := by decide +kernel
theorem dX5_chooseMast_47 : decode cX5_chooseMast 47 = .ok (.iload_n 2, 1) := by decide +kernel
theorem dX5_chooseMast_48 : decode cX5_chooseMast 48 = .ok (.aload_n 1, 1) := by decide +kernel
theorem dX5_chooseMast_49 : decode cX5_chooseMast 49 = .ok (.getfield 139, 3) := by decide +kernel
theorem dX5_chooseMast_52 : decode cX5_chooseMast 52 = .ok (.invokevirtual 65, 3) := by decide +kernel
theorem dX5_chooseMast_55 : decode cX5_chooseMast 55 = .ok (.iload_n 3, 1) := by decide +kernel
theorem dX5_chooseMast_56 : decode cX5_chooseMast 56 = .ok (.isub, 1) := by decide +kernel
theorem dX5_chooseMast_57 : decode cX5_chooseMast 57 = .ok (.iconst 3, 1) := by decide +kernel
theorem dX5_chooseMast_58 : decode cX5_chooseMast 58 = .ok (.if_icmp .ge 7, 3) := by decide +kernel
theorem dX5_chooseMast_61 : decode cX5_chooseMast 61 = .ok (.iconst 1, 1) := by decide +kernel
theorem dX5_chooseMast_62 : decode cX5_chooseMast 62 = .ok (.goto 4, 3) := by decide +kernel
theorem dX5_chooseMast_65 : decode cX5_chooseMast 65 = .ok (.iconst 0, 1) := by decide +kernel
theorem dX5_chooseMast_66 : decode cX5_chooseMast 66 = .ok (.istore 4, 2) := by decide +kernel
theorem dX5_chooseMast_68 : decode cX5_chooseMast 68 = .ok (.iload 4, 2) := by decide +kernel
theorem dX5_chooseMast_70 : decode cX5_chooseMast 70 = .ok (.ifCond .ne 8, 3) := by decide +kernel
theorem dX5_chooseMast_73 : decode cX5_chooseMast 73 = .ok (.aload_n 1, 1) := by decide +kernel
theorem dX5_chooseMast_74 : decode cX5_chooseMast 74 = .ok (.iload_n 2, 1) := by decide +kernel
theorem dX5_chooseMast_75 : decode cX5_chooseMast 75 = .ok (.putfield 92, 3) := by decide +kernel
theorem dX5_chooseMast_78 : decode cX5_chooseMast 78 = .ok (.return_, 1) := by decide +kernel
theorem dX5_tellArea_0 : decode cX5_tellArea 0 = .ok (.aload_n 1, 1) := by decide +kernel
theorem dX5_tellArea_1 : decode cX5_tellArea 1 = .ok (.getfield 92, 3) := by decide +kernel
theorem dX5_tellArea_4 : decode cX5_tellArea 4 = .ok (.iconst (-1), 1) := by decide +kernel
theorem dX5_tellArea_5 : decode cX5_tellArea 5 = .ok (.if_icmp .ne 4, 3) := by decide +kernel
theorem dX5_tellArea_8 : decode cX5_tellArea 8 = .ok (.return_, 1) := by decide +kernel
theorem dX5_tellArea_9 : decode cX5_tellArea 9 = .ok (.aload_n 0, 1) := by decide +kernel
theorem dX5_tellArea_10 : decode cX5_tellArea 10 = .ok (.getfield 9, 3) := by decide +kernel
theorem dX5_tellArea_13 : decode cX5_tellArea 13 = .ok (.getfield 76, 3) := by decide +kernel
theorem dX5_tellArea_16 : decode cX5_tellArea 16 = .ok (.aload_n 1, 1) := by decide +kernel
theorem dX5_tellArea_17 : decode cX5_tellArea 17 = .ok (.getfield 92, 3) := by decide +kernel
theorem dX5_tellArea_20 : decode cX5_tellArea 20 = .ok (.aaload, 1) := by decide +kernel
theorem dX5_tellArea_21 : decode cX5_tellArea 21 = .ok (.getfield 102, 3) := by decide +kernel
theorem dX5_tellArea_24 : decode cX5_tellArea 24 = .ok (.istore_n 2, 1) := by decide +kernel
theorem dX5_tellArea_25 : decode cX5_tellArea 25 = .ok (.iload_n 2, 1) := by decide +kernel
theorem dX5_tellArea_26 : decode cX5_tellArea 26 = .ok (.aload_n 1, 1) := by decide +kernel
theorem dX5_tellArea_27 : decode cX5_tellArea 27 = .ok (.getfield 142, 3) := by decide +kernel
theorem dX5_tellArea_30 : decode cX5_tellArea 30 = .ok (.if_icmp .ne 17, 3) := by decide +kernel
theorem dX5_tellArea_33 : decode cX5_tellArea 33 = .ok (.aload_n 0, 1) := by decide +kernel
theorem dX5_tellArea_34 : decode cX5_tellArea 34 = .ok (.getfield 53, 3) := by decide +kernel
theorem dX5_tellArea_37 : decode cX5_tellArea 37 = .ok (.aload_n 1, 1) := by decide +kernel
theorem dX5_tellArea_38 : decode cX5_tellArea 38 = .ok (.getfield 145, 3) := by decide +kernel
theorem dX5_tellArea_41 : decode cX5_tellArea 41 = .ok (.isub, 1) := by decide +kernel
theorem dX5_tellArea_42 : decode cX5_tellArea 42 = .ok (.bipush 20, 2) := by decide +kernel
theorem dX5_tellArea_44 : decode cX5_tellArea 44 = .ok (.if_icmp .lt 12, 3) := by decide +kernel
theorem dX5_tellArea_47 : decode cX5_tellArea 47 = .ok (.aload_n 1, 1) := by decide +kernel
theorem dX5_tellArea_48 : decode cX5_tellArea 48 = .ok (.iload_n 2, 1) := by decide +kernel
theorem dX5_tellArea_49 : decode cX5_tellArea 49 = .ok (.aload_n 0, 1) := by decide +kernel
theorem dX5_tellArea_50 : decode cX5_tellArea 50 = .ok (.getfield 53, 3) := by decide +kernel
theorem dX5_tellArea_53 : decode cX5_tellArea 53 = .ok (.invokevirtual 148, 3) := by decide +kernel
theorem dX5_tellArea_56 : decode cX5_tellArea 56 = .ok (.return_, 1) := by decide +kernel
theorem dX5_lookAtLeg_0 : decode cX5_lookAtLeg 0 = .ok (.aload_n 1, 1) := by decide +kernel
theorem dX5_lookAtLeg_1 : decode cX5_lookAtLeg 1 = .ok (.getfield 152, 3) := by decide +kernel
theorem dX5_lookAtLeg_4 : decode cX5_lookAtLeg 4 = .ok (.ifCond .ne 10, 3) := by decide +kernel
theorem dX5_lookAtLeg_7 : decode cX5_lookAtLeg 7 = .ok (.aload_n 2, 1) := by decide +kernel
theorem dX5_lookAtLeg_8 : decode cX5_lookAtLeg 8 = .ok (.invokevirtual 155, 3) := by decide +kernel
theorem dX5_lookAtLeg_11 : decode cX5_lookAtLeg 11 = .ok (.ifCond .ne 4, 3) := by decide +kernel
theorem dX5_lookAtLeg_14 : decode cX5_lookAtLeg 14 = .ok (.return_, 1) := by decide +kernel
theorem dX5_lookAtLeg_15 : decode cX5_lookAtLeg 15 = .ok (.aload_n 0, 1) := by decide +kernel
theorem dX5_lookAtLeg_16 : decode cX5_lookAtLeg 16 = .ok (.getfield 24, 3) := by decide +kernel
theorem dX5_lookAtLeg_19 : decode cX5_lookAtLeg 19 = .ok (.aload_n 2, 1) := by decide +kernel
theorem dX5_lookAtLeg_20 : decode cX5_lookAtLeg 20 = .ok (.getfield 160, 3) := by decide +kernel
theorem dX5_lookAtLeg_23 : decode cX5_lookAtLeg 23 = .ok (.aaload, 1) := by decide +kernel
theorem dX5_lookAtLeg_24 : decode cX5_lookAtLeg 24 = .ok (.getfield 139, 3) := by decide +kernel
theorem dX5_lookAtLeg_27 : decode cX5_lookAtLeg 27 = .ok (.istore_n 3, 1) := by decide +kernel
theorem dX5_lookAtLeg_28 : decode cX5_lookAtLeg 28 = .ok (.aload_n 0, 1) := by decide +kernel
theorem dX5_lookAtLeg_29 : decode cX5_lookAtLeg 29 = .ok (.aload_n 2, 1) := by decide +kernel
theorem dX5_lookAtLeg_30 : decode cX5_lookAtLeg 30 = .ok (.getfield 163, 3) := by decide +kernel
theorem dX5_lookAtLeg_33 : decode cX5_lookAtLeg 33 = .ok (.iload_n 3, 1) := by decide +kernel
theorem dX5_lookAtLeg_34 : decode cX5_lookAtLeg 34 = .ok (.invokevirtual 164, 3) := by decide +kernel
theorem dX5_lookAtLeg_37 : decode cX5_lookAtLeg 37 = .ok (.istore 4, 2) := by decide +kernel
theorem dX5_lookAtLeg_39 : decode cX5_lookAtLeg 39 = .ok (.aload_n 0, 1) := by decide +kernel
theorem dX5_lookAtLeg_40 : decode cX5_lookAtLeg 40 = .ok (.aload_n 2, 1) := by decide +kernel
theorem dX5_lookAtLeg_41 : decode cX5_lookAtLeg 41 = .ok (.getfield 163, 3) := by decide +kernel
theorem dX5_lookAtLeg_44 : decode cX5_lookAtLeg 44 = .ok (.iload_n 3, 1) := by decide +kernel
theorem dX5_lookAtLeg_45 : decode cX5_lookAtLeg 45 = .ok (.invokevirtual 167, 3) := by decide +kernel
theorem dX5_lookAtLeg_48 : decode cX5_lookAtLeg 48 = .ok (.istore 5, 2) := by decide +kernel
theorem dX5_lookAtLeg_50 : decode cX5_lookAtLeg 50 = .ok (.aload_n 2, 1) := by decide +kernel
theorem dX5_lookAtLeg_51 : decode cX5_lookAtLeg 51 = .ok (.aload_n 0, 1) := by decide +kernel
theorem dX5_lookAtLeg_52 : decode cX5_lookAtLeg 52 = .ok (.iload 4, 2) := by decide +kernel
theorem dX5_lookAtLeg_54 : decode cX5_lookAtLeg 54 = .ok (.aload_n 2, 1) := by decide +kernel
theorem dX5_lookAtLeg_55 : decode cX5_lookAtLeg 55 = .ok (.getfield 163, 3) := by decide +kernel
theorem dX5_lookAtLeg_58 : decode cX5_lookAtLeg 58 = .ok (.iload_n 3, 1) := by decide +kernel
theorem dX5_lookAtLeg_59 : decode cX5_lookAtLeg 59 = .ok (.invokevirtual 171, 3) := by decide +kernel
theorem dX5_lookAtLeg_62 : decode cX5_lookAtLeg 62 = .ok (.ifCond .eq 12, 3) := by decide +kernel
theorem dX5_lookAtLeg_65 : decode cX5_lookAtLeg 65 = .ok (.aload_n 2, 1) := by decide +kernel
theorem dX5_lookAtLeg_66 : decode cX5_lookAtLeg 66 = .ok (.getfield 175, 3) := by decide +kernel
theorem dX5_lookAtLeg_69 : decode cX5_lookAtLeg 69 = .ok (.iconst 1, 1) := by decide +kernel
theorem dX5_lookAtLeg_70 : decode cX5_lookAtLeg 70 = .ok (.iadd, 1) := by decide +kernel
theorem dX5_lookAtLeg_71 : decode cX5_lookAtLeg 71 = .ok (.goto 4, 3) := by decide +kernel
theorem dX5_lookAtLeg_74 : decode cX5_lookAtLeg 74 = .ok (.iconst 0, 1) := by decide +kernel
theorem dX5_lookAtLeg_75 : decode cX5_lookAtLeg 75 = .ok (.putfield 175, 3) := by decide +kernel
theorem dX5_lookAtLeg_78 : decode cX5_lookAtLeg 78 = .ok (.iload 5, 2) := by decide +kernel
theorem dX5_lookAtLeg_80 : decode cX5_lookAtLeg 80 = .ok (.ifCond .ne 23, 3) := by decide +kernel
theorem dX5_lookAtLeg_83 : decode cX5_lookAtLeg 83 = .ok (.iload 4, 2) := by decide +kernel
theorem dX5_lookAtLeg_85 : decode cX5_lookAtLeg 85 = .ok (.iconst (-1), 1) := by decide +kernel
theorem dX5_lookAtLeg_86 : decode cX5_lookAtLeg 86 = .ok (.if_icmp .eq 17, 3) := by decide +kernel
theorem dX5_lookAtLeg_89 : decode cX5_lookAtLeg 89 = .ok (.aload_n 0, 1) := by decide +kernel
theorem dX5_lookAtLeg_90 : decode cX5_lookAtLeg 90 = .ok (.iload 4, 2) := by decide +kernel
theorem dX5_lookAtLeg_92 : decode cX5_lookAtLeg 92 = .ok (.iload_n 3, 1) := by decide +kernel
theorem dX5_lookAtLeg_93 : decode cX5_lookAtLeg 93 = .ok (.invokevirtual 167, 3) := by decide +kernel
theorem dX5_lookAtLeg_96 : decode cX5_lookAtLeg 96 = .ok (.ifCond .eq 7, 3) := by decide +kernel
theorem dX5_lookAtLeg_99 : decode cX5_lookAtLeg 99 = .ok (.iconst 1, 1) := by decide +kernel
theorem dX5_lookAtLeg_100 : decode cX5_lookAtLeg 100 = .ok (.goto 4, 3) := by decide +kernel
theorem dX5_lookAtLeg_103 : decode cX5_lookAtLeg 103 = .ok (.iconst 0, 1) := by decide +kernel
theorem dX5_lookAtLeg_104 : decode cX5_lookAtLeg 104 = .ok (.istore 6, 2) := by decide +kernel
theorem dX5_lookAtLeg_106 : decode cX5_lookAtLeg 106 = .ok (.iload 4, 2) := by decide +kernel
theorem dX5_lookAtLeg_108 : decode cX5_lookAtLeg 108 = .ok (.iconst (-1), 1) := by decide +kernel
theorem dX5_lookAtLeg_109 : decode cX5_lookAtLeg 109 = .ok (.if_icmp .eq 27, 3) := by decide +kernel
theorem dX5_lookAtLeg_112 : decode cX5_lookAtLeg 112 = .ok (.aload_n 2, 1) := by decide +kernel
theorem dX5_lookAtLeg_113 : decode cX5_lookAtLeg 113 = .ok (.getfield 175, 3) := by decide +kernel
theorem dX5_lookAtLeg_116 : decode cX5_lookAtLeg 116 = .ok (.iconst 2, 1) := by decide +kernel
theorem dX5_lookAtLeg_117 : decode cX5_lookAtLeg 117 = .ok (.if_icmp .ge 8, 3) := by decide +kernel
theorem dX5_lookAtLeg_120 : decode cX5_lookAtLeg 120 = .ok (.iload 6, 2) := by decide +kernel
theorem dX5_lookAtLeg_122 : decode cX5_lookAtLeg 122 = .ok (.ifCond .eq 14, 3) := by decide +kernel
theorem dX5_lookAtLeg_125 : decode cX5_lookAtLeg 125 = .ok (.aload_n 0, 1) := by decide +kernel
theorem dX5_lookAtLeg_126 : decode cX5_lookAtLeg 126 = .ok (.aload_n 1, 1) := by decide +kernel
theorem dX5_lookAtLeg_127 : decode cX5_lookAtLeg 127 = .ok (.aload_n 2, 1) := by decide +kernel
theorem dX5_lookAtLeg_128 : decode cX5_lookAtLeg 128 = .ok (.iload 4, 2) := by decide +kernel
theorem dX5_lookAtLeg_130 : decode cX5_lookAtLeg 130 = .ok (.invokevirtual 178, 3) := by decide +kernel
theorem dX5_lookAtLeg_133 : decode cX5_lookAtLeg 133 = .ok (.goto 18, 3) := by decide +kernel
theorem dX5_lookAtLeg_136 : decode cX5_lookAtLeg 136 = .ok (.iload 5, 2) := by decide +kernel
theorem dX5_lookAtLeg_138 : decode cX5_lookAtLeg 138 = .ok (.ifCond .ne 13, 3) := by decide +kernel
theorem dX5_lookAtLeg_141 : decode cX5_lookAtLeg 141 = .ok (.aload_n 2, 1) := by decide +kernel
theorem dX5_lookAtLeg_142 : decode cX5_lookAtLeg 142 = .ok (.dup, 1) := by decide +kernel
theorem dX5_lookAtLeg_143 : decode cX5_lookAtLeg 143 = .ok (.getfield 182, 3) := by decide +kernel
theorem dX5_lookAtLeg_146 : decode cX5_lookAtLeg 146 = .ok (.iconst 1, 1) := by decide +kernel
theorem dX5_lookAtLeg_147 : decode cX5_lookAtLeg 147 = .ok (.iadd, 1) := by decide +kernel
theorem dX5_lookAtLeg_148 : decode cX5_lookAtLeg 148 = .ok (.putfield 182, 3) := by decide +kernel
theorem dX5_lookAtLeg_151 : decode cX5_lookAtLeg 151 = .ok (.aload_n 0, 1) := by decide +kernel
theorem dX5_lookAtLeg_152 : decode cX5_lookAtLeg 152 = .ok (.aload_n 2, 1) := by decide +kernel
theorem dX5_lookAtLeg_153 : decode cX5_lookAtLeg 153 = .ok (.getfield 163, 3) := by decide +kernel
theorem dX5_lookAtLeg_156 : decode cX5_lookAtLeg 156 = .ok (.iload_n 3, 1) := by decide +kernel
theorem dX5_lookAtLeg_157 : decode cX5_lookAtLeg 157 = .ok (.invokevirtual 167, 3) := by decide +kernel
theorem dX5_lookAtLeg_160 : decode cX5_lookAtLeg 160 = .ok (.ifCond .eq 8, 3) := by decide +kernel
theorem dX5_lookAtLeg_163 : decode cX5_lookAtLeg 163 = .ok (.aload_n 2, 1) := by decide +kernel
theorem dX5_lookAtLeg_164 : decode cX5_lookAtLeg 164 = .ok (.iconst 0, 1) := by decide +kernel
theorem dX5_lookAtLeg_165 : decode cX5_lookAtLeg 165 = .ok (.putfield 182, 3) := by decide +kernel
theorem dX5_lookAtLeg_168 : decode cX5_lookAtLeg 168 = .ok (.aload_n 2, 1) := by decide +kernel
theorem dX5_lookAtLeg_169 : decode cX5_lookAtLeg 169 = .ok (.getfield 182, 3) := by decide +kernel
theorem dX5_lookAtLeg_172 : decode cX5_lookAtLeg 172 = .ok (.iconst 3, 1) := by decide +kernel
theorem dX5_lookAtLeg_173 : decode cX5_lookAtLeg 173 = .ok (.if_icmp .lt 9, 3) := by decide +kernel
theorem dX5_lookAtLeg_176 : decode cX5_lookAtLeg 176 = .ok (.aload_n 0, 1) := by decide +kernel
theorem dX5_lookAtLeg_177 : decode cX5_lookAtLeg 177 = .ok (.aload_n 1, 1) := by decide +kernel
theorem dX5_lookAtLeg_178 : decode cX5_lookAtLeg 178 = .ok (.iconst 2, 1) := by decide +kernel
theorem dX5_lookAtLeg_179 : decode cX5_lookAtLeg 179 = .ok (.invokevirtual 185, 3) := by decide +kernel
theorem dX5_lookAtLeg_182 : decode cX5_lookAtLeg 182 = .ok (.return_, 1) := by decide +kernel
theorem dX5_isMuchBetter_0 : decode cX5_isMuchBetter 0 = .ok (.iload_n 1, 1) := by decide +kernel
theorem dX5_isMuchBetter_1 : decode cX5_isMuchBetter 1 = .ok (.iconst (-1), 1) := by decide +kernel
theorem dX5_isMuchBetter_2 : decode cX5_isMuchBetter 2 = .ok (.if_icmp .eq 24, 3) := by decide +kernel
theorem dX5_isMuchBetter_5 : decode cX5_isMuchBetter 5 = .ok (.aload_n 0, 1) := by decide +kernel
theorem dX5_isMuchBetter_6 : decode cX5_isMuchBetter 6 = .ok (.iload_n 1, 1) := by decide +kernel
theorem dX5_isMuchBetter_7 : decode cX5_isMuchBetter 7 = .ok (.iload_n 3, 1) := by decide +kernel
theorem dX5_isMuchBetter_8 : decode cX5_isMuchBetter 8 = .ok (.invokevirtual 65, 3) := by decide +kernel
theorem dX5_isMuchBetter_11 : decode cX5_isMuchBetter 11 = .ok (.aload_n 0, 1) := by decide +kernel
theorem dX5_isMuchBetter_12 : decode cX5_isMuchBetter 12 = .ok (.iload_n 2, 1) := by decide +kernel
theorem dX5_isMuchBetter_13 : decode cX5_isMuchBetter 13 = .ok (.iload_n 3, 1) := by decide +kernel
theorem dX5_isMuchBetter_14 : decode cX5_isMuchBetter 14 = .ok (.invokevirtual 65, 3) := by decide +kernel
theorem dX5_isMuchBetter_17 : decode cX5_isMuchBetter 17 = .ok (.isub, 1) := by decide +kernel
theorem dX5_isMuchBetter_18 : decode cX5_isMuchBetter 18 = .ok (.iconst 4, 1) := by decide +kernel
theorem dX5_isMuchBetter_19 : decode cX5_isMuchBetter 19 = .ok (.if_icmp .lt 7, 3) := by decide +kernel
theorem dX5_isMuchBetter_22 : decode cX5_isMuchBetter 22 = .ok (.iconst 1, 1) := by decide +kernel
theorem dX5_isMuchBetter_23 : decode cX5_isMuchBetter 23 = .ok (.goto 4, 3) := by decide +kernel
theorem dX5_isMuchBetter_26 : decode cX5_isMuchBetter 26 = .ok (.iconst 0, 1) := by decide +kernel
theorem dX5_isMuchBetter_27 : decode cX5_isMuchBetter 27 = .ok (.ireturn, 1) := by decide +kernel
theorem dX5_candidateFor_0 : decode cX5_candidateFor 0 = .ok (.iconst (-1), 1) := by decide +kernel
theorem dX5_candidateFor_1 : decode cX5_candidateFor 1 = .ok (.istore_n 3, 1) := by decide +kernel
theorem dX5_candidateFor_2 : decode cX5_candidateFor 2 = .ok (.sipush (-1000), 3) := by decide +kernel
theorem dX5_candidateFor_5 : decode cX5_candidateFor 5 = .ok (.istore 4, 2) := by decide +kernel
theorem dX5_candidateFor_7 : decode cX5_candidateFor 7 = .ok (.iconst 0, 1) := by decide +kernel
theorem dX5_candidateFor_8 : decode cX5_candidateFor 8 = .ok (.istore 5, 2) := by decide +kernel
theorem dX5_candidateFor_10 : decode cX5_candidateFor 10 = .ok (.iload 5, 2) := by decide +kernel
theorem dX5_candidateFor_12 : decode cX5_candidateFor 12 = .ok (.aload_n 0, 1) := by decide +kernel
theorem dX5_candidateFor_13 : decode cX5_candidateFor 13 = .ok (.getfield 9, 3) := by decide +kernel
theorem dX5_candidateFor_16 : decode cX5_candidateFor 16 = .ok (.getfield 69, 3) := by decide +kernel
theorem dX5_candidateFor_19 : decode cX5_candidateFor 19 = .ok (.if_icmp .ge 67, 3) := by decide +kernel
theorem dX5_candidateFor_22 : decode cX5_candidateFor 22 = .ok (.iload 5, 2) := by decide +kernel
theorem dX5_candidateFor_24 : decode cX5_candidateFor 24 = .ok (.iload_n 1, 1) := by decide +kernel
theorem dX5_candidateFor_25 : decode cX5_candidateFor 25 = .ok (.if_icmp .eq 55, 3) := by decide +kernel
theorem dX5_candidateFor_28 : decode cX5_candidateFor 28 = .ok (.aload_n 0, 1) := by decide +kernel
theorem dX5_candidateFor_29 : decode cX5_candidateFor 29 = .ok (.getfield 9, 3) := by decide +kernel
theorem dX5_candidateFor_32 : decode cX5_candidateFor 32 = .ok (.getfield 76, 3) := by decide +kernel
theorem dX5_candidateFor_35 : decode cX5_candidateFor 35 = .ok (.iload 5, 2) := by decide +kernel
theorem dX5_candidateFor_37 : decode cX5_candidateFor 37 = .ok (.aaload, 1) := by decide +kernel
theorem dX5_candidateFor_38 : decode cX5_candidateFor 38 = .ok (.getfield 189, 3) := by decide +kernel
theorem dX5_candidateFor_41 : decode cX5_candidateFor 41 = .ok (.ifCond .eq 39, 3) := by decide +kernel
theorem dX5_candidateFor_44 : decode cX5_candidateFor 44 = .ok (.aload_n 0, 1) := by decide +kernel
theorem dX5_candidateFor_45 : decode cX5_candidateFor 45 = .ok (.iload 5, 2) := by decide +kernel
theorem dX5_candidateFor_47 : decode cX5_candidateFor 47 = .ok (.iconst 1, 1) := by decide +kernel
theorem dX5_candidateFor_48 : decode cX5_candidateFor 48 = .ok (.invokevirtual 192, 3) := by decide +kernel
theorem dX5_candidateFor_51 : decode cX5_candidateFor 51 = .ok (.ifCond .ne 6, 3) := by decide +kernel
theorem dX5_candidateFor_54 : decode cX5_candidateFor 54 = .ok (.goto 26, 3) := by decide +kernel
theorem dX5_candidateFor_57 : decode cX5_candidateFor 57 = .ok (.aload_n 0, 1) := by decide +kernel
theorem dX5_candidateFor_58 : decode cX5_candidateFor 58 = .ok (.iload 5, 2) := by decide +kernel
theorem dX5_candidateFor_60 : decode cX5_candidateFor 60 = .ok (.iload_n 2, 1) := by decide +kernel
theorem dX5_candidateFor_61 : decode cX5_candidateFor 61 = .ok (.invokevirtual 65, 3) := by decide +kernel
theorem dX5_candidateFor_64 : decode cX5_candidateFor 64 = .ok (.istore 6, 2) := by decide +kernel
theorem dX5_candidateFor_66 : decode cX5_candidateFor 66 = .ok (.iload 6, 2) := by decide +kernel
theorem dX5_candidateFor_68 : decode cX5_candidateFor 68 = .ok (.iload 4, 2) := by decide +kernel
theorem dX5_candidateFor_70 : decode cX5_candidateFor 70 = .ok (.if_icmp .le 10, 3) := by decide +kernel
theorem dX5_candidateFor_73 : decode cX5_candidateFor 73 = .ok (.iload 5, 2) := by decide +kernel
theorem dX5_candidateFor_75 : decode cX5_candidateFor 75 = .ok (.istore_n 3, 1) := by decide +kernel
theorem dX5_candidateFor_76 : decode cX5_candidateFor 76 = .ok (.iload 6, 2) := by decide +kernel
theorem dX5_candidateFor_78 : decode cX5_candidateFor 78 = .ok (.istore 4, 2) := by decide +kernel
theorem dX5_candidateFor_80 : decode cX5_candidateFor 80 = .ok (.iinc 5 1, 3) := by decide +kernel
theorem dX5_candidateFor_83 : decode cX5_candidateFor 83 = .ok (.goto (-73), 3) := by decide +kernel
theorem dX5_candidateFor_86 : decode cX5_candidateFor 86 = .ok (.iload_n 3, 1) := by decide +kernel
theorem dX5_candidateFor_87 : decode cX5_candidateFor 87 = .ok (.ireturn, 1) := by decide +kernel
theorem dX5_handOver_0 : decode cX5_handOver 0 = .ok (.aload_n 1, 1) := by decide +kernel
theorem dX5_handOver_1 : decode cX5_handOver 1 = .ok (.dup, 1) := by decide +kernel
theorem dX5_handOver_2 : decode cX5_handOver 2 = .ok (.getfield 195, 3) := by decide +kernel
theorem dX5_handOver_5 : decode cX5_handOver 5 = .ok (.iconst 1, 1) := by decide +kernel
theorem dX5_handOver_6 : decode cX5_handOver 6 = .ok (.iadd, 1) := by decide +kernel
theorem dX5_handOver_7 : decode cX5_handOver 7 = .ok (.putfield 195, 3) := by decide +kernel
theorem dX5_handOver_10 : decode cX5_handOver 10 = .ok (.aload_n 2, 1) := by decide +kernel
theorem dX5_handOver_11 : decode cX5_handOver 11 = .ok (.getfield 198, 3) := by decide +kernel
theorem dX5_handOver_14 : decode cX5_handOver 14 = .ok (.iload_n 3, 1) := by decide +kernel
theorem dX5_handOver_15 : decode cX5_handOver 15 = .ok (.if_icmp .ne 26, 3) := by decide +kernel
theorem dX5_handOver_18 : decode cX5_handOver 18 = .ok (.aload_n 0, 1) := by decide +kernel
theorem dX5_handOver_19 : decode cX5_handOver 19 = .ok (.getfield 53, 3) := by decide +kernel
theorem dX5_handOver_22 : decode cX5_handOver 22 = .ok (.aload_n 2, 1) := by decide +kernel
theorem dX5_handOver_23 : decode cX5_handOver 23 = .ok (.getfield 201, 3) := by decide +kernel
theorem dX5_handOver_26 : decode cX5_handOver 26 = .ok (.isub, 1) := by decide +kernel
theorem dX5_handOver_27 : decode cX5_handOver 27 = .ok (.iconst 5, 1) := by decide +kernel
theorem dX5_handOver_28 : decode cX5_handOver 28 = .ok (.if_icmp .gt 13, 3) := by decide +kernel
theorem dX5_handOver_31 : decode cX5_handOver 31 = .ok (.aload_n 1, 1) := by decide +kernel
theorem dX5_handOver_32 : decode cX5_handOver 32 = .ok (.dup, 1) := by decide +kernel
theorem dX5_handOver_33 : decode cX5_handOver 33 = .ok (.getfield 204, 3) := by decide +kernel
theorem dX5_handOver_36 : decode cX5_handOver 36 = .ok (.iconst 1, 1) := by decide +kernel
theorem dX5_handOver_37 : decode cX5_handOver 37 = .ok (.iadd, 1) := by decide +kernel
theorem dX5_handOver_38 : decode cX5_handOver 38 = .ok (.putfield 204, 3) := by decide +kernel
theorem dX5_handOver_41 : decode cX5_handOver 41 = .ok (.aload_n 2, 1) := by decide +kernel
theorem dX5_handOver_42 : decode cX5_handOver 42 = .ok (.aload_n 2, 1) := by decide +kernel
theorem dX5_handOver_43 : decode cX5_handOver 43 = .ok (.getfield 163, 3) := by decide +kernel
theorem dX5_handOver_46 : decode cX5_handOver 46 = .ok (.putfield 198, 3) := by decide +kernel
theorem dX5_handOver_49 : decode cX5_handOver 49 = .ok (.aload_n 2, 1) := by decide +kernel
theorem dX5_handOver_50 : decode cX5_handOver 50 = .ok (.aload_n 0, 1) := by decide +kernel
theorem dX5_handOver_51 : decode cX5_handOver 51 = .ok (.getfield 53, 3) := by decide +kernel
theorem dX5_handOver_54 : decode cX5_handOver 54 = .ok (.putfield 201, 3) := by decide +kernel
theorem dX5_handOver_57 : decode cX5_handOver 57 = .ok (.aload_n 2, 1) := by decide +kernel
theorem dX5_handOver_58 : decode cX5_handOver 58 = .ok (.iconst 0, 1) := by decide +kernel
theorem dX5_handOver_59 : decode cX5_handOver 59 = .ok (.putfield 175, 3) := by decide +kernel
theorem dX5_handOver_62 : decode cX5_handOver 62 = .ok (.aload_n 0, 1) := by decide +kernel
theorem dX5_handOver_63 : decode cX5_handOver 63 = .ok (.getfield 15, 3) := by decide +kernel
theorem dX5_handOver_66 : decode cX5_handOver 66 = .ok (.aload_n 2, 1) := by decide +kernel
theorem dX5_handOver_67 : decode cX5_handOver 67 = .ok (.getfield 163, 3) := by decide +kernel
theorem dX5_handOver_70 : decode cX5_handOver 70 = .ok (.dup2, 1) := by decide +kernel
theorem dX5_handOver_71 : decode cX5_handOver 71 = .ok (.iaload, 1) := by decide +kernel
theorem dX5_handOver_72 : decode cX5_handOver 72 = .ok (.iconst 1, 1) := by decide +kernel
theorem dX5_handOver_73 : decode cX5_handOver 73 = .ok (.isub, 1) := by decide +kernel
theorem dX5_handOver_74 : decode cX5_handOver 74 = .ok (.iastore, 1) := by decide +kernel
theorem dX5_handOver_75 : decode cX5_handOver 75 = .ok (.aload_n 0, 1) := by decide +kernel
theorem dX5_handOver_76 : decode cX5_handOver 76 = .ok (.getfield 15, 3) := by decide +kernel
theorem dX5_handOver_79 : decode cX5_handOver 79 = .ok (.iload_n 3, 1) := by decide +kernel
theorem dX5_handOver_80 : decode cX5_handOver 80 = .ok (.dup2, 1) := by decide +kernel
theorem dX5_handOver_81 : decode cX5_handOver 81 = .ok (.iaload, 1) := by decide +kernel
theorem dX5_handOver_82 : decode cX5_handOver 82 = .ok (.iconst 1, 1) := by decide +kernel
theorem dX5_handOver_83 : decode cX5_handOver 83 = .ok (.iadd, 1) := by decide +kernel
theorem dX5_handOver_84 : decode cX5_handOver 84 = .ok (.iastore, 1) := by decide +kernel
theorem dX5_handOver_85 : decode cX5_handOver 85 = .ok (.aload_n 2, 1) := by decide +kernel
theorem dX5_handOver_86 : decode cX5_handOver 86 = .ok (.iload_n 3, 1) := by decide +kernel
theorem dX5_handOver_87 : decode cX5_handOver 87 = .ok (.putfield 163, 3) := by decide +kernel
theorem dX5_handOver_90 : decode cX5_handOver 90 = .ok (.aload_n 0, 1) := by decide +kernel
theorem dX5_handOver_91 : decode cX5_handOver 91 = .ok (.getfield 24, 3) := by decide +kernel
theorem dX5_handOver_94 : decode cX5_handOver 94 = .ok (.aload_n 2, 1) := by decide +kernel
theorem dX5_handOver_95 : decode cX5_handOver 95 = .ok (.getfield 160, 3) := by decide +kernel
theorem dX5_handOver_98 : decode cX5_handOver 98 = .ok (.aaload, 1) := by decide +kernel
theorem dX5_handOver_99 : decode cX5_handOver 99 = .ok (.iload_n 3, 1) := by decide +kernel
theorem dX5_handOver_100 : decode cX5_handOver 100 = .ok (.putfield 92, 3) := by decide +kernel
theorem dX5_handOver_103 : decode cX5_handOver 103 = .ok (.return_, 1) := by decide +kernel
theorem dX5_charge_0 : decode cX5_charge 0 = .ok (.aload_n 1, 1) := by decide +kernel
theorem dX5_charge_1 : decode cX5_charge 1 = .ok (.getfield 152, 3) := by decide +kernel
theorem dX5_charge_4 : decode cX5_charge 4 = .ok (.ifCond .ne 13, 3) := by decide +kernel
theorem dX5_charge_7 : decode cX5_charge 7 = .ok (.aload_n 1, 1) := by decide +kernel
theorem dX5_charge_8 : decode cX5_charge 8 = .ok (.getfield 122, 3) := by decide +kernel
theorem dX5_charge_11 : decode cX5_charge 11 = .ok (.invokevirtual 155, 3) := by decide +kernel
theorem dX5_charge_14 : decode cX5_charge 14 = .ok (.ifCond .ne 4, 3) := by decide +kernel
theorem dX5_charge_17 : decode cX5_charge 17 = .ok (.return_, 1) := by decide +kernel
theorem dX5_charge_18 : decode cX5_charge 18 = .ok (.aload_n 0, 1) := by decide +kernel
theorem dX5_charge_19 : decode cX5_charge 19 = .ok (.getfield 24, 3) := by decide +kernel
theorem dX5_charge_22 : decode cX5_charge 22 = .ok (.aload_n 1, 1) := by decide +kernel
theorem dX5_charge_23 : decode cX5_charge 23 = .ok (.getfield 122, 3) := by decide +kernel
theorem dX5_charge_26 : decode cX5_charge 26 = .ok (.getfield 160, 3) := by decide +kernel
theorem dX5_charge_29 : decode cX5_charge 29 = .ok (.aaload, 1) := by decide +kernel
theorem dX5_charge_30 : decode cX5_charge 30 = .ok (.astore_n 2, 1) := by decide +kernel
theorem dX5_charge_31 : decode cX5_charge 31 = .ok (.aload_n 0, 1) := by decide +kernel
theorem dX5_charge_32 : decode cX5_charge 32 = .ok (.aload_n 1, 1) := by decide +kernel
theorem dX5_charge_33 : decode cX5_charge 33 = .ok (.aload_n 2, 1) := by decide +kernel
theorem dX5_charge_34 : decode cX5_charge 34 = .ok (.invokevirtual 207, 3) := by decide +kernel
theorem dX5_charge_37 : decode cX5_charge 37 = .ok (.istore_n 3, 1) := by decide +kernel
theorem dX5_charge_38 : decode cX5_charge 38 = .ok (.aload_n 2, 1) := by decide +kernel
theorem dX5_charge_39 : decode cX5_charge 39 = .ok (.getfield 211, 3) := by decide +kernel
theorem dX5_charge_42 : decode cX5_charge 42 = .ok (.iload_n 3, 1) := by decide +kernel
theorem dX5_charge_43 : decode cX5_charge 43 = .ok (.if_icmp .ge 10, 3) := by decide +kernel
theorem dX5_charge_46 : decode cX5_charge 46 = .ok (.aload_n 0, 1) := by decide +kernel
theorem dX5_charge_47 : decode cX5_charge 47 = .ok (.aload_n 1, 1) := by decide +kernel
theorem dX5_charge_48 : decode cX5_charge 48 = .ok (.iconst 3, 1) := by decide +kernel
theorem dX5_charge_49 : decode cX5_charge 49 = .ok (.invokevirtual 185, 3) := by decide +kernel
theorem dX5_charge_52 : decode cX5_charge 52 = .ok (.return_, 1) := by decide +kernel
theorem dX5_charge_53 : decode cX5_charge 53 = .ok (.aload_n 2, 1) := by decide +kernel
theorem dX5_charge_54 : decode cX5_charge 54 = .ok (.dup, 1) := by decide +kernel
theorem dX5_charge_55 : decode cX5_charge 55 = .ok (.getfield 211, 3) := by decide +kernel
theorem dX5_charge_58 : decode cX5_charge 58 = .ok (.iload_n 3, 1) := by decide +kernel
theorem dX5_charge_59 : decode cX5_charge 59 = .ok (.isub, 1) := by decide +kernel
theorem dX5_charge_60 : decode cX5_charge 60 = .ok (.putfield 211, 3) := by decide +kernel
theorem dX5_charge_63 : decode cX5_charge 63 = .ok (.aload_n 1, 1) := by decide +kernel
theorem dX5_charge_64 : decode cX5_charge 64 = .ok (.dup, 1) := by decide +kernel
theorem dX5_charge_65 : decode cX5_charge 65 = .ok (.getfield 214, 3) := by decide +kernel
theorem dX5_charge_68 : decode cX5_charge 68 = .ok (.iload_n 3, 1) := by decide +kernel
theorem dX5_charge_69 : decode cX5_charge 69 = .ok (.iadd, 1) := by decide +kernel
theorem dX5_charge_70 : decode cX5_charge 70 = .ok (.putfield 214, 3) := by decide +kernel
theorem dX5_charge_73 : decode cX5_charge 73 = .ok (.aload_n 1, 1) := by decide +kernel
theorem dX5_charge_74 : decode cX5_charge 74 = .ok (.dup, 1) := by decide +kernel
theorem dX5_charge_75 : decode cX5_charge 75 = .ok (.getfield 217, 3) := by decide +kernel
theorem dX5_charge_78 : decode cX5_charge 78 = .ok (.iconst 1, 1) := by decide +kernel
theorem dX5_charge_79 : decode cX5_charge 79 = .ok (.iadd, 1) := by decide +kernel
theorem dX5_charge_80 : decode cX5_charge 80 = .ok (.putfield 217, 3) := by decide +kernel
theorem dX5_charge_83 : decode cX5_charge 83 = .ok (.aload_n 0, 1) := by decide +kernel
theorem dX5_charge_84 : decode cX5_charge 84 = .ok (.aload_n 1, 1) := by decide +kernel
theorem dX5_charge_85 : decode cX5_charge 85 = .ok (.getfield 122, 3) := by decide +kernel
theorem dX5_charge_88 : decode cX5_charge 88 = .ok (.invokevirtual 220, 3) := by decide +kernel
theorem dX5_charge_91 : decode cX5_charge 91 = .ok (.aload_n 0, 1) := by decide +kernel
theorem dX5_charge_92 : decode cX5_charge 92 = .ok (.aload_n 1, 1) := by decide +kernel
theorem dX5_charge_93 : decode cX5_charge 93 = .ok (.getfield 130, 3) := by decide +kernel
theorem dX5_charge_96 : decode cX5_charge 96 = .ok (.invokevirtual 220, 3) := by decide +kernel
theorem dX5_charge_99 : decode cX5_charge 99 = .ok (.return_, 1) := by decide +kernel
theorem dX5_carry_0 : decode cX5_carry 0 = .ok (.aload_n 1, 1) := by decide +kernel
theorem dX5_carry_1 : decode cX5_carry 1 = .ok (.invokevirtual 155, 3) := by decide +kernel
theorem dX5_carry_4 : decode cX5_carry 4 = .ok (.ifCond .eq 16, 3) := by decide +kernel
theorem dX5_carry_7 : decode cX5_carry 7 = .ok (.aload_n 0, 1) := by decide +kernel
theorem dX5_carry_8 : decode cX5_carry 8 = .ok (.getfield 19, 3) := by decide +kernel
theorem dX5_carry_11 : decode cX5_carry 11 = .ok (.aload_n 1, 1) := by decide +kernel
theorem dX5_carry_12 : decode cX5_carry 12 = .ok (.getfield 163, 3) := by decide +kernel
theorem dX5_carry_15 : decode cX5_carry 15 = .ok (.dup2, 1) := by decide +kernel
theorem dX5_carry_16 : decode cX5_carry 16 = .ok (.iaload, 1) := by decide +kernel
theorem dX5_carry_17 : decode cX5_carry 17 = .ok (.iconst 1, 1) := by decide +kernel
theorem dX5_carry_18 : decode cX5_carry 18 = .ok (.iadd, 1) := by decide +kernel
theorem dX5_carry_19 : decode cX5_carry 19 = .ok (.iastore, 1) := by decide +kernel
theorem dX5_carry_20 : decode cX5_carry 20 = .ok (.return_, 1) := by decide +kernel
theorem dX5_price_0 : decode cX5_price 0 = .ok (.aload_n 1, 1) := by decide +kernel
theorem dX5_price_1 : decode cX5_price 1 = .ok (.getfield 130, 3) := by decide +kernel
theorem dX5_price_4 : decode cX5_price 4 = .ok (.invokevirtual 155, 3) := by decide +kernel
theorem dX5_price_7 : decode cX5_price 7 = .ok (.ifCond .ne 5, 3) := by decide +kernel
theorem dX5_price_10 : decode cX5_price 10 = .ok (.iconst 0, 1) := by decide +kernel
theorem dX5_price_11 : decode cX5_price 11 = .ok (.ireturn, 1) := by decide +kernel
theorem dX5_price_12 : decode cX5_price 12 = .ok (.aload_n 0, 1) := by decide +kernel
theorem dX5_price_13 : decode cX5_price 13 = .ok (.getfield 9, 3) := by decide +kernel
theorem dX5_price_16 : decode cX5_price 16 = .ok (.getfield 76, 3) := by decide +kernel
theorem dX5_price_19 : decode cX5_price 19 = .ok (.aload_n 1, 1) := by decide +kernel
theorem dX5_price_20 : decode cX5_price 20 = .ok (.getfield 122, 3) := by decide +kernel
theorem dX5_price_23 : decode cX5_price 23 = .ok (.getfield 163, 3) := by decide +kernel
theorem dX5_price_26 : decode cX5_price 26 = .ok (.aaload, 1) := by decide +kernel
theorem dX5_price_27 : decode cX5_price 27 = .ok (.getfield 224, 3) := by decide +kernel
theorem dX5_price_30 : decode cX5_price 30 = .ok (.aload_n 2, 1) := by decide +kernel
theorem dX5_price_31 : decode cX5_price 31 = .ok (.getfield 227, 3) := by decide +kernel
theorem dX5_price_34 : decode cX5_price 34 = .ok (.if_icmp .ne 7, 3) := by decide +kernel
theorem dX5_price_37 : decode cX5_price 37 = .ok (.iconst 1, 1) := by decide +kernel
theorem dX5_price_38 : decode cX5_price 38 = .ok (.goto 4, 3) := by decide +kernel
theorem dX5_price_41 : decode cX5_price 41 = .ok (.iconst 3, 1) := by decide +kernel
theorem dX5_price_42 : decode cX5_price 42 = .ok (.ireturn, 1) := by decide +kernel
theorem dX5_deliverTexts_0 : decode cX5_deliverTexts 0 = .ok (.aload_n 1, 1) := by decide +kernel
theorem dX5_deliverTexts_1 : decode cX5_deliverTexts 1 = .ok (.getfield 92, 3) := by decide +kernel
theorem dX5_deliverTexts_4 : decode cX5_deliverTexts 4 = .ok (.iconst (-1), 1) := by decide +kernel
theorem dX5_deliverTexts_5 : decode cX5_deliverTexts 5 = .ok (.if_icmp .eq 21, 3) := by decide +kernel
theorem dX5_deliverTexts_8 : decode cX5_deliverTexts 8 = .ok (.aload_n 1, 1) := by decide +kernel
theorem dX5_deliverTexts_9 : decode cX5_deliverTexts 9 = .ok (.dup, 1) := by decide +kernel
theorem dX5_deliverTexts_10 : decode cX5_deliverTexts 10 = .ok (.getfield 228, 3) := by decide +kernel
theorem dX5_deliverTexts_13 : decode cX5_deliverTexts 13 = .ok (.aload_n 1, 1) := by decide +kernel
theorem dX5_deliverTexts_14 : decode cX5_deliverTexts 14 = .ok (.getfield 231, 3) := by decide +kernel
theorem dX5_deliverTexts_17 : decode cX5_deliverTexts 17 = .ok (.iadd, 1) := by decide +kernel
theorem dX5_deliverTexts_18 : decode cX5_deliverTexts 18 = .ok (.putfield 228, 3) := by decide +kernel
theorem dX5_deliverTexts_21 : decode cX5_deliverTexts 21 = .ok (.aload_n 1, 1) := by decide +kernel
theorem dX5_deliverTexts_22 : decode cX5_deliverTexts 22 = .ok (.iconst 0, 1) := by decide +kernel
theorem dX5_deliverTexts_23 : decode cX5_deliverTexts 23 = .ok (.putfield 231, 3) := by decide +kernel
theorem dX5_deliverTexts_26 : decode cX5_deliverTexts 26 = .ok (.return_, 1) := by decide +kernel
theorem dX5_tryCall_0 : decode cX5_tryCall 0 = .ok (.aload_n 0, 1) := by decide +kernel
theorem dX5_tryCall_1 : decode cX5_tryCall 1 = .ok (.getfield 24, 3) := by decide +kernel
theorem dX5_tryCall_4 : decode cX5_tryCall 4 = .ok (.iload_n 1, 1) := by decide +kernel
theorem dX5_tryCall_5 : decode cX5_tryCall 5 = .ok (.aaload, 1) := by decide +kernel
theorem dX5_tryCall_6 : decode cX5_tryCall 6 = .ok (.astore_n 3, 1) := by decide +kernel
theorem dX5_tryCall_7 : decode cX5_tryCall 7 = .ok (.aload_n 0, 1) := by decide +kernel
theorem dX5_tryCall_8 : decode cX5_tryCall 8 = .ok (.getfield 24, 3) := by decide +kernel
theorem dX5_tryCall_11 : decode cX5_tryCall 11 = .ok (.iload_n 2, 1) := by decide +kernel
theorem dX5_tryCall_12 : decode cX5_tryCall 12 = .ok (.aaload, 1) := by decide +kernel
theorem dX5_tryCall_13 : decode cX5_tryCall 13 = .ok (.astore 4, 2) := by decide +kernel
theorem dX5_tryCall_15 : decode cX5_tryCall 15 = .ok (.aload_n 3, 1) := by decide +kernel
theorem dX5_tryCall_16 : decode cX5_tryCall 16 = .ok (.invokevirtual 112, 3) := by decide +kernel
theorem dX5_tryCall_19 : decode cX5_tryCall 19 = .ok (.ifCond .eq 11, 3) := by decide +kernel
theorem dX5_tryCall_22 : decode cX5_tryCall 22 = .ok (.aload_n 3, 1) := by decide +kernel
theorem dX5_tryCall_23 : decode cX5_tryCall 23 = .ok (.getfield 92, 3) := by decide +kernel
theorem dX5_tryCall_26 : decode cX5_tryCall 26 = .ok (.iconst (-1), 1) := by decide +kernel
theorem dX5_tryCall_27 : decode cX5_tryCall 27 = .ok (.if_icmp .ne 6, 3) := by decide +kernel
theorem dX5_tryCall_30 : decode cX5_tryCall 30 = .ok (.bipush (-2), 2) := by decide +kernel
theorem dX5_tryCall_32 : decode cX5_tryCall 32 = .ok (.ireturn, 1) := by decide +kernel
theorem dX5_tryCall_33 : decode cX5_tryCall 33 = .ok (.aload_n 0, 1) := by decide +kernel
theorem dX5_tryCall_34 : decode cX5_tryCall 34 = .ok (.aload 4, 2) := by decide +kernel
theorem dX5_tryCall_36 : decode cX5_tryCall 36 = .ok (.invokevirtual 234, 3) := by decide +kernel
theorem dX5_tryCall_39 : decode cX5_tryCall 39 = .ok (.ifCond .ne 6, 3) := by decide +kernel
theorem dX5_tryCall_42 : decode cX5_tryCall 42 = .ok (.bipush (-3), 2) := by decide +kernel
theorem dX5_tryCall_44 : decode cX5_tryCall 44 = .ok (.ireturn, 1) := by decide +kernel
theorem dX5_tryCall_45 : decode cX5_tryCall 45 = .ok (.aload 4, 2) := by decide +kernel
theorem dX5_tryCall_47 : decode cX5_tryCall 47 = .ok (.invokevirtual 112, 3) := by decide +kernel
theorem dX5_tryCall_50 : decode cX5_tryCall 50 = .ok (.ifCond .ne 6, 3) := by decide +kernel
theorem dX5_tryCall_53 : decode cX5_tryCall 53 = .ok (.bipush (-4), 2) := by decide +kernel
theorem dX5_tryCall_55 : decode cX5_tryCall 55 = .ok (.ireturn, 1) := by decide +kernel
theorem dX5_tryCall_56 : decode cX5_tryCall 56 = .ok (.aload_n 3, 1) := by decide +kernel
theorem dX5_tryCall_57 : decode cX5_tryCall 57 = .ok (.getfield 92, 3) := by decide +kernel
theorem dX5_tryCall_60 : decode cX5_tryCall 60 = .ok (.aload 4, 2) := by decide +kernel
theorem dX5_tryCall_62 : decode cX5_tryCall 62 = .ok (.getfield 92, 3) := by decide +kernel
theorem dX5_tryCall_65 : decode cX5_tryCall 65 = .ok (.if_icmp .ne 15, 3) := by decide +kernel
theorem dX5_tryCall_68 : decode cX5_tryCall 68 = .ok (.aload_n 0, 1) := by decide +kernel
theorem dX5_tryCall_69 : decode cX5_tryCall 69 = .ok (.aload_n 3, 1) := by decide +kernel
theorem dX5_tryCall_70 : decode cX5_tryCall 70 = .ok (.getfield 92, 3) := by decide +kernel
theorem dX5_tryCall_73 : decode cX5_tryCall 73 = .ok (.iconst 2, 1) := by decide +kernel
theorem dX5_tryCall_74 : decode cX5_tryCall 74 = .ok (.invokevirtual 192, 3) := by decide +kernel
theorem dX5_tryCall_77 : decode cX5_tryCall 77 = .ok (.goto 33, 3) := by decide +kernel
theorem dX5_tryCall_80 : decode cX5_tryCall 80 = .ok (.aload_n 0, 1) := by decide +kernel
theorem dX5_tryCall_81 : decode cX5_tryCall 81 = .ok (.aload_n 3, 1) := by decide +kernel
theorem dX5_tryCall_82 : decode cX5_tryCall 82 = .ok (.getfield 92, 3) := by decide +kernel
theorem dX5_tryCall_85 : decode cX5_tryCall 85 = .ok (.iconst 1, 1) := by decide +kernel
theorem dX5_tryCall_86 : decode cX5_tryCall 86 = .ok (.invokevirtual 192, 3) := by decide +kernel
theorem dX5_tryCall_89 : decode cX5_tryCall 89 = .ok (.ifCond .eq 20, 3) := by decide +kernel
theorem dX5_tryCall_92 : decode cX5_tryCall 92 = .ok (.aload_n 0, 1) := by decide +kernel
theorem dX5_tryCall_93 : decode cX5_tryCall 93 = .ok (.aload 4, 2) := by decide +kernel
theorem dX5_tryCall_95 : decode cX5_tryCall 95 = .ok (.getfield 92, 3) := by decide +kernel
theorem dX5_tryCall_98 : decode cX5_tryCall 98 = .ok (.iconst 1, 1) := by decide +kernel
theorem dX5_tryCall_99 : decode cX5_tryCall 99 = .ok (.invokevirtual 192, 3) := by decide +kernel
theorem dX5_tryCall_102 : decode cX5_tryCall 102 = .ok (.ifCond .eq 7, 3) := by decide +kernel
theorem dX5_tryCall_105 : decode cX5_tryCall 105 = .ok (.iconst 1, 1) := by decide +kernel
theorem dX5_tryCall_106 : decode cX5_tryCall 106 = .ok (.goto 4, 3) := by decide +kernel
theorem dX5_tryCall_109 : decode cX5_tryCall 109 = .ok (.iconst 0, 1) := by decide +kernel
theorem dX5_tryCall_110 : decode cX5_tryCall 110 = .ok (.istore 5, 2) := by decide +kernel
theorem dX5_tryCall_112 : decode cX5_tryCall 112 = .ok (.iload 5, 2) := by decide +kernel
theorem dX5_tryCall_114 : decode cX5_tryCall 114 = .ok (.ifCond .ne 6, 3) := by decide +kernel
theorem dX5_tryCall_117 : decode cX5_tryCall 117 = .ok (.bipush (-5), 2) := by decide +kernel
theorem dX5_tryCall_119 : decode cX5_tryCall 119 = .ok (.ireturn, 1) := by decide +kernel
theorem dX5_tryCall_120 : decode cX5_tryCall 120 = .ok (.aload_n 3, 1) := by decide +kernel
theorem dX5_tryCall_121 : decode cX5_tryCall 121 = .ok (.getfield 211, 3) := by decide +kernel
theorem dX5_tryCall_124 : decode cX5_tryCall 124 = .ok (.iconst 3, 1) := by decide +kernel
theorem dX5_tryCall_125 : decode cX5_tryCall 125 = .ok (.if_icmp .ge 6, 3) := by decide +kernel
theorem dX5_tryCall_128 : decode cX5_tryCall 128 = .ok (.bipush (-6), 2) := by decide +kernel
theorem dX5_tryCall_130 : decode cX5_tryCall 130 = .ok (.ireturn, 1) := by decide +kernel
theorem dX5_tryCall_131 : decode cX5_tryCall 131 = .ok (.aload_n 0, 1) := by decide +kernel
theorem dX5_tryCall_132 : decode cX5_tryCall 132 = .ok (.aload_n 0, 1) := by decide +kernel
theorem dX5_tryCall_133 : decode cX5_tryCall 133 = .ok (.getfield 31, 3) := by decide +kernel
theorem dX5_tryCall_136 : decode cX5_tryCall 136 = .ok (.aload_n 0, 1) := by decide +kernel
theorem dX5_tryCall_137 : decode cX5_tryCall 137 = .ok (.getfield 44, 3) := by decide +kernel
theorem dX5_tryCall_140 : decode cX5_tryCall 140 = .ok (.aaload, 1) := by decide +kernel
theorem dX5_tryCall_141 : decode cX5_tryCall 141 = .ok (.getfield 122, 3) := by decide +kernel
theorem dX5_tryCall_144 : decode cX5_tryCall 144 = .ok (.iload_n 1, 1) := by decide +kernel
theorem dX5_tryCall_145 : decode cX5_tryCall 145 = .ok (.invokevirtual 237, 3) := by decide +kernel
theorem dX5_tryCall_148 : decode cX5_tryCall 148 = .ok (.aload_n 0, 1) := by decide +kernel
theorem dX5_tryCall_149 : decode cX5_tryCall 149 = .ok (.aload_n 0, 1) := by decide +kernel
theorem dX5_tryCall_150 : decode cX5_tryCall 150 = .ok (.getfield 31, 3) := by decide +kernel
theorem dX5_tryCall_153 : decode cX5_tryCall 153 = .ok (.aload_n 0, 1) := by decide +kernel
theorem dX5_tryCall_154 : decode cX5_tryCall 154 = .ok (.getfield 44, 3) := by decide +kernel
theorem dX5_tryCall_157 : decode cX5_tryCall 157 = .ok (.aaload, 1) := by decide +kernel
theorem dX5_tryCall_158 : decode cX5_tryCall 158 = .ok (.getfield 130, 3) := by decide +kernel
theorem dX5_tryCall_161 : decode cX5_tryCall 161 = .ok (.iload_n 2, 1) := by decide +kernel
theorem dX5_tryCall_162 : decode cX5_tryCall 162 = .ok (.invokevirtual 237, 3) := by decide +kernel
theorem dX5_tryCall_165 : decode cX5_tryCall 165 = .ok (.aload_n 0, 1) := by decide +kernel
theorem dX5_tryCall_166 : decode cX5_tryCall 166 = .ok (.dup, 1) := by decide +kernel
theorem dX5_tryCall_167 : decode cX5_tryCall 167 = .ok (.getfield 44, 3) := by decide +kernel
theorem dX5_tryCall_170 : decode cX5_tryCall 170 = .ok (.iconst 1, 1) := by decide +kernel
theorem dX5_tryCall_171 : decode cX5_tryCall 171 = .ok (.iadd, 1) := by decide +kernel
theorem dX5_tryCall_172 : decode cX5_tryCall 172 = .ok (.putfield 44, 3) := by decide +kernel
theorem dX5_tryCall_175 : decode cX5_tryCall 175 = .ok (.aload_n 0, 1) := by decide +kernel
theorem dX5_tryCall_176 : decode cX5_tryCall 176 = .ok (.getfield 44, 3) := by decide +kernel
theorem dX5_tryCall_179 : decode cX5_tryCall 179 = .ok (.iconst 1, 1) := by decide +kernel
theorem dX5_tryCall_180 : decode cX5_tryCall 180 = .ok (.isub, 1) := by decide +kernel
theorem dX5_tryCall_181 : decode cX5_tryCall 181 = .ok (.ireturn, 1) := by decide +kernel
theorem dX5_tryEmergency_0 : decode cX5_tryEmergency 0 = .ok (.aload_n 0, 1) := by decide +kernel
theorem dX5_tryEmergency_1 : decode cX5_tryEmergency 1 = .ok (.getfield 24, 3) := by decide +kernel
theorem dX5_tryEmergency_4 : decode cX5_tryEmergency 4 = .ok (.iload_n 1, 1) := by decide +kernel
theorem dX5_tryEmergency_5 : decode cX5_tryEmergency 5 = .ok (.aaload, 1) := by decide +kernel
theorem dX5_tryEmergency_6 : decode cX5_tryEmergency 6 = .ok (.astore_n 2, 1) := by decide +kernel
theorem dX5_tryEmergency_7 : decode cX5_tryEmergency 7 = .ok (.aload_n 2, 1) := by decide +kernel
theorem dX5_tryEmergency_8 : decode cX5_tryEmergency 8 = .ok (.invokevirtual 112, 3) := by decide +kernel
theorem dX5_tryEmergency_11 : decode cX5_tryEmergency 11 = .ok (.ifCond .eq 11, 3) := by decide +kernel
theorem dX5_tryEmergency_14 : decode cX5_tryEmergency 14 = .ok (.aload_n 2, 1) := by decide +kernel
theorem dX5_tryEmergency_15 : decode cX5_tryEmergency 15 = .ok (.getfield 92, 3) := by decide +kernel
theorem dX5_tryEmergency_18 : decode cX5_tryEmergency 18 = .ok (.iconst (-1), 1) := by decide +kernel
theorem dX5_tryEmergency_19 : decode cX5_tryEmergency 19 = .ok (.if_icmp .ne 6, 3) := by decide +kernel
theorem dX5_tryEmergency_22 : decode cX5_tryEmergency 22 = .ok (.bipush (-2), 2) := by decide +kernel
theorem dX5_tryEmergency_24 : decode cX5_tryEmergency 24 = .ok (.ireturn, 1) := by decide +kernel
theorem dX5_tryEmergency_25 : decode cX5_tryEmergency 25 = .ok (.aload_n 0, 1) := by decide +kernel
theorem dX5_tryEmergency_26 : decode cX5_tryEmergency 26 = .ok (.aload_n 2, 1) := by decide +kernel
theorem dX5_tryEmergency_27 : decode cX5_tryEmergency 27 = .ok (.getfield 92, 3) := by decide +kernel
theorem dX5_tryEmergency_30 : decode cX5_tryEmergency 30 = .ok (.iconst 1, 1) := by decide +kernel
theorem dX5_tryEmergency_31 : decode cX5_tryEmergency 31 = .ok (.invokevirtual 192, 3) := by decide +kernel
theorem dX5_tryEmergency_34 : decode cX5_tryEmergency 34 = .ok (.ifCond .ne 31, 3) := by decide +kernel
theorem dX5_tryEmergency_37 : decode cX5_tryEmergency 37 = .ok (.aload_n 0, 1) := by decide +kernel
theorem dX5_tryEmergency_38 : decode cX5_tryEmergency 38 = .ok (.aload_n 2, 1) := by decide +kernel
theorem dX5_tryEmergency_39 : decode cX5_tryEmergency 39 = .ok (.getfield 92, 3) := by decide +kernel
theorem dX5_tryEmergency_42 : decode cX5_tryEmergency 42 = .ok (.invokevirtual 241, 3) := by decide +kernel
theorem dX5_tryEmergency_45 : decode cX5_tryEmergency 45 = .ok (.istore_n 3, 1) := by decide +kernel
theorem dX5_tryEmergency_46 : decode cX5_tryEmergency 46 = .ok (.iload_n 3, 1) := by decide +kernel
theorem dX5_tryEmergency_47 : decode cX5_tryEmergency 47 = .ok (.iconst (-1), 1) := by decide +kernel
theorem dX5_tryEmergency_48 : decode cX5_tryEmergency 48 = .ok (.if_icmp .ne 6, 3) := by decide +kernel
theorem dX5_tryEmergency_51 : decode cX5_tryEmergency 51 = .ok (.bipush (-5), 2) := by decide +kernel
theorem dX5_tryEmergency_53 : decode cX5_tryEmergency 53 = .ok (.ireturn, 1) := by decide +kernel
theorem dX5_tryEmergency_54 : decode cX5_tryEmergency 54 = .ok (.aload_n 0, 1) := by decide +kernel
theorem dX5_tryEmergency_55 : decode cX5_tryEmergency 55 = .ok (.aload_n 0, 1) := by decide +kernel
theorem dX5_tryEmergency_56 : decode cX5_tryEmergency 56 = .ok (.getfield 31, 3) := by decide +kernel
theorem dX5_tryEmergency_59 : decode cX5_tryEmergency 59 = .ok (.iload_n 3, 1) := by decide +kernel
theorem dX5_tryEmergency_60 : decode cX5_tryEmergency 60 = .ok (.aaload, 1) := by decide +kernel
theorem dX5_tryEmergency_61 : decode cX5_tryEmergency 61 = .ok (.iconst 4, 1) := by decide +kernel
theorem dX5_tryEmergency_62 : decode cX5_tryEmergency 62 = .ok (.invokevirtual 185, 3) := by decide +kernel
theorem dX5_tryEmergency_65 : decode cX5_tryEmergency 65 = .ok (.aload_n 0, 1) := by decide +kernel
theorem dX5_tryEmergency_66 : decode cX5_tryEmergency 66 = .ok (.aload_n 0, 1) := by decide +kernel
theorem dX5_tryEmergency_67 : decode cX5_tryEmergency 67 = .ok (.getfield 31, 3) := by decide +kernel
theorem dX5_tryEmergency_70 : decode cX5_tryEmergency 70 = .ok (.aload_n 0, 1) := by decide +kernel
theorem dX5_tryEmergency_71 : decode cX5_tryEmergency 71 = .ok (.getfield 44, 3) := by decide +kernel
theorem dX5_tryEmergency_74 : decode cX5_tryEmergency 74 = .ok (.aaload, 1) := by decide +kernel
theorem dX5_tryEmergency_75 : decode cX5_tryEmergency 75 = .ok (.getfield 122, 3) := by decide +kernel
theorem dX5_tryEmergency_78 : decode cX5_tryEmergency 78 = .ok (.iload_n 1, 1) := by decide +kernel
theorem dX5_tryEmergency_79 : decode cX5_tryEmergency 79 = .ok (.invokevirtual 237, 3) := by decide +kernel
theorem dX5_tryEmergency_82 : decode cX5_tryEmergency 82 = .ok (.aload_n 0, 1) := by decide +kernel
theorem dX5_tryEmergency_83 : decode cX5_tryEmergency 83 = .ok (.dup, 1) := by decide +kernel
theorem dX5_tryEmergency_84 : decode cX5_tryEmergency 84 = .ok (.getfield 44, 3) := by decide +kernel
theorem dX5_tryEmergency_87 : decode cX5_tryEmergency 87 = .ok (.iconst 1, 1) := by decide +kernel
theorem dX5_tryEmergency_88 : decode cX5_tryEmergency 88 = .ok (.iadd, 1) := by decide +kernel
theorem dX5_tryEmergency_89 : decode cX5_tryEmergency 89 = .ok (.putfield 44, 3) := by decide +kernel
theorem dX5_tryEmergency_92 : decode cX5_tryEmergency 92 = .ok (.aload_n 0, 1) := by decide +kernel
theorem dX5_tryEmergency_93 : decode cX5_tryEmergency 93 = .ok (.getfield 44, 3) := by decide +kernel
theorem dX5_tryEmergency_96 : decode cX5_tryEmergency 96 = .ok (.iconst 1, 1) := by decide +kernel
theorem dX5_tryEmergency_97 : decode cX5_tryEmergency 97 = .ok (.isub, 1) := by decide +kernel
theorem dX5_tryEmergency_98 : decode cX5_tryEmergency 98 = .ok (.ireturn, 1) := by decide +kernel
theorem dX5_join_0 : decode cX5_join 0 = .ok (.aload_n 1, 1) := by decide +kernel
theorem dX5_join_1 : decode cX5_join 1 = .ok (.iload_n 2, 1) := by decide +kernel
theorem dX5_join_2 : decode cX5_join 2 = .ok (.putfield 160, 3) := by decide +kernel
theorem dX5_join_5 : decode cX5_join 5 = .ok (.aload_n 1, 1) := by decide +kernel
theorem dX5_join_6 : decode cX5_join 6 = .ok (.aload_n 0, 1) := by decide +kernel
theorem dX5_join_7 : decode cX5_join 7 = .ok (.getfield 24, 3) := by decide +kernel
theorem dX5_join_10 : decode cX5_join 10 = .ok (.iload_n 2, 1) := by decide +kernel
theorem dX5_join_11 : decode cX5_join 11 = .ok (.aaload, 1) := by decide +kernel
theorem dX5_join_12 : decode cX5_join 12 = .ok (.getfield 92, 3) := by decide +kernel
theorem dX5_join_15 : decode cX5_join 15 = .ok (.putfield 163, 3) := by decide +kernel
theorem dX5_join_18 : decode cX5_join 18 = .ok (.aload_n 0, 1) := by decide +kernel
theorem dX5_join_19 : decode cX5_join 19 = .ok (.getfield 15, 3) := by decide +kernel
theorem dX5_join_22 : decode cX5_join 22 = .ok (.aload_n 1, 1) := by decide +kernel
theorem dX5_join_23 : decode cX5_join 23 = .ok (.getfield 163, 3) := by decide +kernel
theorem dX5_join_26 : decode cX5_join 26 = .ok (.dup2, 1) := by decide +kernel
theorem dX5_join_27 : decode cX5_join 27 = .ok (.iaload, 1) := by decide +kernel
theorem dX5_join_28 : decode cX5_join 28 = .ok (.iconst 1, 1) := by decide +kernel
theorem dX5_join_29 : decode cX5_join 29 = .ok (.iadd, 1) := by decide +kernel
theorem dX5_join_30 : decode cX5_join 30 = .ok (.iastore, 1) := by decide +kernel
theorem dX5_join_31 : decode cX5_join 31 = .ok (.aload_n 0, 1) := by decide +kernel
theorem dX5_join_32 : decode cX5_join 32 = .ok (.getfield 24, 3) := by decide +kernel
theorem dX5_join_35 : decode cX5_join 35 = .ok (.iload_n 2, 1) := by decide +kernel
theorem dX5_join_36 : decode cX5_join 36 = .ok (.aaload, 1) := by decide +kernel
theorem dX5_join_37 : decode cX5_join 37 = .ok (.aload_n 0, 1) := by decide +kernel
theorem dX5_join_38 : decode cX5_join 38 = .ok (.getfield 44, 3) := by decide +kernel
theorem dX5_join_41 : decode cX5_join 41 = .ok (.putfield 244, 3) := by decide +kernel
theorem dX5_join_44 : decode cX5_join 44 = .ok (.return_, 1) := by decide +kernel
theorem dX5_callToPush_0 : decode cX5_callToPush 0 = .ok (.aload_n 0, 1) := by decide +kernel
theorem dX5_callToPush_1 : decode cX5_callToPush 1 = .ok (.getfield 44, 3) := by decide +kernel
theorem dX5_callToPush_4 : decode cX5_callToPush 4 = .ok (.iconst 1, 1) := by decide +kernel
theorem dX5_callToPush_5 : decode cX5_callToPush 5 = .ok (.isub, 1) := by decide +kernel
theorem dX5_callToPush_6 : decode cX5_callToPush 6 = .ok (.istore_n 2, 1) := by decide +kernel
theorem dX5_callToPush_7 : decode cX5_callToPush 7 = .ok (.iload_n 2, 1) := by decide +kernel
theorem dX5_callToPush_8 : decode cX5_callToPush 8 = .ok (.ifCond .lt 43, 3) := by decide +kernel
theorem dX5_callToPush_11 : decode cX5_callToPush 11 = .ok (.aload_n 0, 1) := by decide +kernel
theorem dX5_callToPush_12 : decode cX5_callToPush 12 = .ok (.getfield 31, 3) := by decide +kernel
theorem dX5_callToPush_15 : decode cX5_callToPush 15 = .ok (.iload_n 2, 1) := by decide +kernel
theorem dX5_callToPush_16 : decode cX5_callToPush 16 = .ok (.aaload, 1) := by decide +kernel
theorem dX5_callToPush_17 : decode cX5_callToPush 17 = .ok (.astore_n 3, 1) := by decide +kernel
theorem dX5_callToPush_18 : decode cX5_callToPush 18 = .ok (.aload_n 3, 1) := by decide +kernel
theorem dX5_callToPush_19 : decode cX5_callToPush 19 = .ok (.getfield 152, 3) := by decide +kernel
theorem dX5_callToPush_22 : decode cX5_callToPush 22 = .ok (.ifCond .ne 23, 3) := by decide +kernel
theorem dX5_callToPush_25 : decode cX5_callToPush 25 = .ok (.aload_n 3, 1) := by decide +kernel
theorem dX5_callToPush_26 : decode cX5_callToPush 26 = .ok (.getfield 130, 3) := by decide +kernel
theorem dX5_callToPush_29 : decode cX5_callToPush 29 = .ok (.invokevirtual 155, 3) := by decide +kernel
theorem dX5_callToPush_32 : decode cX5_callToPush 32 = .ok (.ifCond .eq 13, 3) := by decide +kernel
theorem dX5_callToPush_35 : decode cX5_callToPush 35 = .ok (.aload_n 3, 1) := by decide +kernel
theorem dX5_callToPush_36 : decode cX5_callToPush 36 = .ok (.iload_n 1, 1) := by decide +kernel
theorem dX5_callToPush_37 : decode cX5_callToPush 37 = .ok (.invokevirtual 247, 3) := by decide +kernel
theorem dX5_callToPush_40 : decode cX5_callToPush 40 = .ok (.ifCond .eq 5, 3) := by decide +kernel
theorem dX5_callToPush_43 : decode cX5_callToPush 43 = .ok (.iload_n 2, 1) := by decide +kernel
theorem dX5_callToPush_44 : decode cX5_callToPush 44 = .ok (.ireturn, 1) := by decide +kernel
theorem dX5_callToPush_45 : decode cX5_callToPush 45 = .ok (.iinc 2 (-1), 3) := by decide +kernel
theorem dX5_callToPush_48 : decode cX5_callToPush 48 = .ok (.goto (-41), 3) := by decide +kernel
theorem dX5_callToPush_51 : decode cX5_callToPush 51 = .ok (.iconst (-1), 1) := by decide +kernel
theorem dX5_callToPush_52 : decode cX5_callToPush 52 = .ok (.ireturn, 1) := by decide +kernel
theorem dX5_end_0 : decode cX5_end 0 = .ok (.aload_n 1, 1) := by decide +kernel
theorem dX5_end_1 : decode cX5_end 1 = .ok (.iload_n 2, 1) := by decide +kernel
theorem dX5_end_2 : decode cX5_end 2 = .ok (.putfield 152, 3) := by decide +kernel
theorem dX5_end_5 : decode cX5_end 5 = .ok (.aload_n 1, 1) := by decide +kernel
theorem dX5_end_6 : decode cX5_end 6 = .ok (.getfield 122, 3) := by decide +kernel
theorem dX5_end_9 : decode cX5_end 9 = .ok (.invokevirtual 155, 3) := by decide +kernel
theorem dX5_end_12 : decode cX5_end 12 = .ok (.ifCond .eq 11, 3) := by decide +kernel
theorem dX5_end_15 : decode cX5_end 15 = .ok (.aload_n 0, 1) := by decide +kernel
theorem dX5_end_16 : decode cX5_end 16 = .ok (.aload_n 1, 1) := by decide +kernel
theorem dX5_end_17 : decode cX5_end 17 = .ok (.getfield 122, 3) := by decide +kernel
theorem dX5_end_20 : decode cX5_end 20 = .ok (.invokevirtual 251, 3) := by decide +kernel
theorem dX5_end_23 : decode cX5_end 23 = .ok (.aload_n 1, 1) := by decide +kernel
theorem dX5_end_24 : decode cX5_end 24 = .ok (.getfield 130, 3) := by decide +kernel
theorem dX5_end_27 : decode cX5_end 27 = .ok (.invokevirtual 155, 3) := by decide +kernel
theorem dX5_end_30 : decode cX5_end 30 = .ok (.ifCond .eq 11, 3) := by decide +kernel
theorem dX5_end_33 : decode cX5_end 33 = .ok (.aload_n 0, 1) := by decide +kernel
theorem dX5_end_34 : decode cX5_end 34 = .ok (.aload_n 1, 1) := by decide +kernel
theorem dX5_end_35 : decode cX5_end 35 = .ok (.getfield 130, 3) := by decide +kernel
theorem dX5_end_38 : decode cX5_end 38 = .ok (.invokevirtual 251, 3) := by decide +kernel
theorem dX5_end_41 : decode cX5_end 41 = .ok (.return_, 1) := by decide +kernel
theorem dX5_release_0 : decode cX5_release 0 = .ok (.aload_n 0, 1) := by decide +kernel
theorem dX5_release_1 : decode cX5_release 1 = .ok (.getfield 15, 3) := by decide +kernel
theorem dX5_release_4 : decode cX5_release 4 = .ok (.aload_n 1, 1) := by decide +kernel
theorem dX5_release_5 : decode cX5_release 5 = .ok (.getfield 163, 3) := by decide +kernel
theorem dX5_release_8 : decode cX5_release 8 = .ok (.dup2, 1) := by decide +kernel
theorem dX5_release_9 : decode cX5_release 9 = .ok (.iaload, 1) := by decide +kernel
theorem dX5_release_10 : decode cX5_release 10 = .ok (.iconst 1, 1) := by decide +kernel
theorem dX5_release_11 : decode cX5_release 11 = .ok (.isub, 1) := by decide +kernel
theorem dX5_release_12 : decode cX5_release 12 = .ok (.iastore, 1) := by decide +kernel
theorem dX5_release_13 : decode cX5_release 13 = .ok (.aload_n 0, 1) := by decide +kernel
theorem dX5_release_14 : decode cX5_release 14 = .ok (.getfield 24, 3) := by decide +kernel
theorem dX5_release_17 : decode cX5_release 17 = .ok (.aload_n 1, 1) := by decide +kernel
theorem dX5_release_18 : decode cX5_release 18 = .ok (.getfield 160, 3) := by decide +kernel
theorem dX5_release_21 : decode cX5_release 21 = .ok (.aaload, 1) := by decide +kernel
theorem dX5_release_22 : decode cX5_release 22 = .ok (.iconst (-1), 1) := by decide +kernel
theorem dX5_release_23 : decode cX5_release 23 = .ok (.putfield 244, 3) := by decide +kernel
theorem dX5_release_26 : decode cX5_release 26 = .ok (.return_, 1) := by decide +kernel
theorem dX5_switchOff_0 : decode cX5_switchOff 0 = .ok (.aload_n 1, 1) := by decide +kernel
theorem dX5_switchOff_1 : decode cX5_switchOff 1 = .ok (.getfield 244, 3) := by decide +kernel
theorem dX5_switchOff_4 : decode cX5_switchOff 4 = .ok (.iconst (-1), 1) := by decide +kernel
theorem dX5_switchOff_5 : decode cX5_switchOff 5 = .ok (.if_icmp .eq 17, 3) := by decide +kernel
theorem dX5_switchOff_8 : decode cX5_switchOff 8 = .ok (.aload_n 0, 1) := by decide +kernel
theorem dX5_switchOff_9 : decode cX5_switchOff 9 = .ok (.aload_n 0, 1) := by decide +kernel
theorem dX5_switchOff_10 : decode cX5_switchOff 10 = .ok (.getfield 31, 3) := by decide +kernel
theorem dX5_switchOff_13 : decode cX5_switchOff 13 = .ok (.aload_n 1, 1) := by decide +kernel
theorem dX5_switchOff_14 : decode cX5_switchOff 14 = .ok (.getfield 244, 3) := by decide +kernel
theorem dX5_switchOff_17 : decode cX5_switchOff 17 = .ok (.aaload, 1) := by decide +kernel
theorem dX5_switchOff_18 : decode cX5_switchOff 18 = .ok (.iconst 1, 1) := by decide +kernel
theorem dX5_switchOff_19 : decode cX5_switchOff 19 = .ok (.invokevirtual 185, 3) := by decide +kernel
theorem dX5_switchOff_22 : decode cX5_switchOff 22 = .ok (.aload_n 1, 1) := by decide +kernel
theorem dX5_switchOff_23 : decode cX5_switchOff 23 = .ok (.iconst (-1), 1) := by decide +kernel
theorem dX5_switchOff_24 : decode cX5_switchOff 24 = .ok (.putfield 92, 3) := by decide +kernel
theorem dX5_switchOff_27 : decode cX5_switchOff 27 = .ok (.return_, 1) := by decide +kernel
theorem dX5_sendAway_0 : decode cX5_sendAway 0 = .ok (.iconst 0, 1) := by decide +kernel
theorem dX5_sendAway_1 : decode cX5_sendAway 1 = .ok (.istore_n 2, 1) := by decide +kernel
theorem dX5_sendAway_2 : decode cX5_sendAway 2 = .ok (.iload_n 2, 1) := by decide +kernel
theorem dX5_sendAway_3 : decode cX5_sendAway 3 = .ok (.aload_n 0, 1) := by decide +kernel
theorem dX5_sendAway_4 : decode cX5_sendAway 4 = .ok (.getfield 36, 3) := by decide +kernel
theorem dX5_sendAway_7 : decode cX5_sendAway 7 = .ok (.if_icmp .ge 32, 3) := by decide +kernel
theorem dX5_sendAway_10 : decode cX5_sendAway 10 = .ok (.aload_n 0, 1) := by decide +kernel
theorem dX5_sendAway_11 : decode cX5_sendAway 11 = .ok (.getfield 24, 3) := by decide +kernel
theorem dX5_sendAway_14 : decode cX5_sendAway 14 = .ok (.iload_n 2, 1) := by decide +kernel
theorem dX5_sendAway_15 : decode cX5_sendAway 15 = .ok (.aaload, 1) := by decide +kernel
theorem dX5_sendAway_16 : decode cX5_sendAway 16 = .ok (.getfield 92, 3) := by decide +kernel
theorem dX5_sendAway_19 : decode cX5_sendAway 19 = .ok (.iload_n 1, 1) := by decide +kernel
theorem dX5_sendAway_20 : decode cX5_sendAway 20 = .ok (.if_icmp .ne 13, 3) := by decide +kernel
theorem dX5_sendAway_23 : decode cX5_sendAway 23 = .ok (.aload_n 0, 1) := by decide +kernel
theorem dX5_sendAway_24 : decode cX5_sendAway 24 = .ok (.getfield 24, 3) := by decide +kernel
theorem dX5_sendAway_27 : decode cX5_sendAway 27 = .ok (.iload_n 2, 1) := by decide +kernel
theorem dX5_sendAway_28 : decode cX5_sendAway 28 = .ok (.aaload, 1) := by decide +kernel
theorem dX5_sendAway_29 : decode cX5_sendAway 29 = .ok (.iconst (-1), 1) := by decide +kernel
theorem dX5_sendAway_30 : decode cX5_sendAway 30 = .ok (.putfield 92, 3) := by decide +kernel
theorem dX5_sendAway_33 : decode cX5_sendAway 33 = .ok (.iinc 2 1, 3) := by decide +kernel
theorem dX5_sendAway_36 : decode cX5_sendAway 36 = .ok (.goto (-34), 3) := by decide +kernel
theorem dX5_sendAway_39 : decode cX5_sendAway 39 = .ok (.return_, 1) := by decide +kernel
theorem dX5_campersOn_0 : decode cX5_campersOn 0 = .ok (.iconst 0, 1) := by decide +kernel
theorem dX5_campersOn_1 : decode cX5_campersOn 1 = .ok (.istore_n 2, 1) := by decide +kernel
theorem dX5_campersOn_2 : decode cX5_campersOn 2 = .ok (.iconst 0, 1) := by decide +kernel
theorem dX5_campersOn_3 : decode cX5_campersOn 3 = .ok (.istore_n 3, 1) := by decide +kernel
theorem dX5_campersOn_4 : decode cX5_campersOn 4 = .ok (.iload_n 3, 1) := by decide +kernel
theorem dX5_campersOn_5 : decode cX5_campersOn 5 = .ok (.aload_n 0, 1) := by decide +kernel
theorem dX5_campersOn_6 : decode cX5_campersOn 6 = .ok (.getfield 36, 3) := by decide +kernel
theorem dX5_campersOn_9 : decode cX5_campersOn 9 = .ok (.if_icmp .ge 37, 3) := by decide +kernel
theorem dX5_campersOn_12 : decode cX5_campersOn 12 = .ok (.aload_n 0, 1) := by decide +kernel
theorem dX5_campersOn_13 : decode cX5_campersOn 13 = .ok (.getfield 24, 3) := by decide +kernel
theorem dX5_campersOn_16 : decode cX5_campersOn 16 = .ok (.iload_n 3, 1) := by decide +kernel
theorem dX5_campersOn_17 : decode cX5_campersOn 17 = .ok (.aaload, 1) := by decide +kernel
theorem dX5_campersOn_18 : decode cX5_campersOn 18 = .ok (.invokevirtual 112, 3) := by decide +kernel
theorem dX5_campersOn_21 : decode cX5_campersOn 21 = .ok (.ifCond .eq 19, 3) := by decide +kernel
theorem dX5_campersOn_24 : decode cX5_campersOn 24 = .ok (.aload_n 0, 1) := by decide +kernel
theorem dX5_campersOn_25 : decode cX5_campersOn 25 = .ok (.getfield 24, 3) := by decide +kernel
theorem dX5_campersOn_28 : decode cX5_campersOn 28 = .ok (.iload_n 3, 1) := by decide +kernel
theorem dX5_campersOn_29 : decode cX5_campersOn 29 = .ok (.aaload, 1) := by decide +kernel
theorem dX5_campersOn_30 : decode cX5_campersOn 30 = .ok (.getfield 92, 3) := by decide +kernel
theorem dX5_campersOn_33 : decode cX5_campersOn 33 = .ok (.iload_n 1, 1) := by decide +kernel
theorem dX5_campersOn_34 : decode cX5_campersOn 34 = .ok (.if_icmp .ne 6, 3) := by decide +kernel
theorem dX5_campersOn_37 : decode cX5_campersOn 37 = .ok (.iinc 2 1, 3) := by decide +kernel
theorem dX5_campersOn_40 : decode cX5_campersOn 40 = .ok (.iinc 3 1, 3) := by decide +kernel
theorem dX5_campersOn_43 : decode cX5_campersOn 43 = .ok (.goto (-39), 3) := by decide +kernel
theorem dX5_campersOn_46 : decode cX5_campersOn 46 = .ok (.iload_n 2, 1) := by decide +kernel
theorem dX5_campersOn_47 : decode cX5_campersOn 47 = .ok (.ireturn, 1) := by decide +kernel
theorem dX5_callsThat_0 : decode cX5_callsThat 0 = .ok (.iconst 0, 1) := by decide +kernel
theorem dX5_callsThat_1 : decode cX5_callsThat 1 = .ok (.istore_n 2, 1) := by decide +kernel
theorem dX5_callsThat_2 : decode cX5_callsThat 2 = .ok (.iconst 0, 1) := by decide +kernel
theorem dX5_callsThat_3 : decode cX5_callsThat 3 = .ok (.istore_n 3, 1) := by decide +kernel
theorem dX5_callsThat_4 : decode cX5_callsThat 4 = .ok (.iload_n 3, 1) := by decide +kernel
theorem dX5_callsThat_5 : decode cX5_callsThat 5 = .ok (.aload_n 0, 1) := by decide +kernel
theorem dX5_callsThat_6 : decode cX5_callsThat 6 = .ok (.getfield 44, 3) := by decide +kernel
theorem dX5_callsThat_9 : decode cX5_callsThat 9 = .ok (.if_icmp .ge 25, 3) := by decide +kernel
theorem dX5_callsThat_12 : decode cX5_callsThat 12 = .ok (.aload_n 0, 1) := by decide +kernel
theorem dX5_callsThat_13 : decode cX5_callsThat 13 = .ok (.getfield 31, 3) := by decide +kernel
theorem dX5_callsThat_16 : decode cX5_callsThat 16 = .ok (.iload_n 3, 1) := by decide +kernel
theorem dX5_callsThat_17 : decode cX5_callsThat 17 = .ok (.aaload, 1) := by decide +kernel
theorem dX5_callsThat_18 : decode cX5_callsThat 18 = .ok (.getfield 152, 3) := by decide +kernel
theorem dX5_callsThat_21 : decode cX5_callsThat 21 = .ok (.iload_n 1, 1) := by decide +kernel
theorem dX5_callsThat_22 : decode cX5_callsThat 22 = .ok (.if_icmp .ne 6, 3) := by decide +kernel
theorem dX5_callsThat_25 : decode cX5_callsThat 25 = .ok (.iinc 2 1, 3) := by decide +kernel
theorem dX5_callsThat_28 : decode cX5_callsThat 28 = .ok (.iinc 3 1, 3) := by decide +kernel
theorem dX5_callsThat_31 : decode cX5_callsThat 31 = .ok (.goto (-27), 3) := by decide +kernel
theorem dX5_callsThat_34 : decode cX5_callsThat 34 = .ok (.iload_n 2, 1) := by decide +kernel
theorem dX5_callsThat_35 : decode cX5_callsThat 35 = .ok (.ireturn, 1) := by decide +kernel
theorem dX5_sumOfCalls_0 : decode cX5_sumOfCalls 0 = .ok (.iconst 0, 1) := by decide +kernel
theorem dX5_sumOfCalls_1 : decode cX5_sumOfCalls 1 = .ok (.istore_n 2, 1) := by decide +kernel
theorem dX5_sumOfCalls_2 : decode cX5_sumOfCalls 2 = .ok (.iconst 0, 1) := by decide +kernel
theorem dX5_sumOfCalls_3 : decode cX5_sumOfCalls 3 = .ok (.istore_n 3, 1) := by decide +kernel
theorem dX5_sumOfCalls_4 : decode cX5_sumOfCalls 4 = .ok (.iload_n 3, 1) := by decide +kernel
theorem dX5_sumOfCalls_5 : decode cX5_sumOfCalls 5 = .ok (.aload_n 0, 1) := by decide +kernel
theorem dX5_sumOfCalls_6 : decode cX5_sumOfCalls 6 = .ok (.getfield 44, 3) := by decide +kernel
theorem dX5_sumOfCalls_9 : decode cX5_sumOfCalls 9 = .ok (.if_icmp .ge 22, 3) := by decide +kernel
theorem dX5_sumOfCalls_12 : decode cX5_sumOfCalls 12 = .ok (.iload_n 2, 1) := by decide +kernel
theorem dX5_sumOfCalls_13 : decode cX5_sumOfCalls 13 = .ok (.aload_n 0, 1) := by decide +kernel
theorem dX5_sumOfCalls_14 : decode cX5_sumOfCalls 14 = .ok (.getfield 31, 3) := by decide +kernel
theorem dX5_sumOfCalls_17 : decode cX5_sumOfCalls 17 = .ok (.iload_n 3, 1) := by decide +kernel
theorem dX5_sumOfCalls_18 : decode cX5_sumOfCalls 18 = .ok (.aaload, 1) := by decide +kernel
theorem dX5_sumOfCalls_19 : decode cX5_sumOfCalls 19 = .ok (.iload_n 1, 1) := by decide +kernel
theorem dX5_sumOfCalls_20 : decode cX5_sumOfCalls 20 = .ok (.invokevirtual 254, 3) := by decide +kernel
theorem dX5_sumOfCalls_23 : decode cX5_sumOfCalls 23 = .ok (.iadd, 1) := by decide +kernel
theorem dX5_sumOfCalls_24 : decode cX5_sumOfCalls 24 = .ok (.istore_n 2, 1) := by decide +kernel
theorem dX5_sumOfCalls_25 : decode cX5_sumOfCalls 25 = .ok (.iinc 3 1, 3) := by decide +kernel
theorem dX5_sumOfCalls_28 : decode cX5_sumOfCalls 28 = .ok (.goto (-24), 3) := by decide +kernel
theorem dX5_sumOfCalls_31 : decode cX5_sumOfCalls 31 = .ok (.iload_n 2, 1) := by decide +kernel
theorem dX5_sumOfCalls_32 : decode cX5_sumOfCalls 32 = .ok (.ireturn, 1) := by decide +kernel
theorem dX5_sumOfHandsets_0 : decode cX5_sumOfHandsets 0 = .ok (.iconst 0, 1) := by decide +kernel
theorem dX5_sumOfHandsets_1 : decode cX5_sumOfHandsets 1 = .ok (.istore_n 2, 1) := by decide +kernel
theorem dX5_sumOfHandsets_2 : decode cX5_sumOfHandsets 2 = .ok (.iconst 0, 1) := by decide +kernel
theorem dX5_sumOfHandsets_3 : decode cX5_sumOfHandsets 3 = .ok (.istore_n 3, 1) := by decide +kernel
theorem dX5_sumOfHandsets_4 : decode cX5_sumOfHandsets 4 = .ok (.iload_n 3, 1) := by decide +kernel
theorem dX5_sumOfHandsets_5 : decode cX5_sumOfHandsets 5 = .ok (.aload_n 0, 1) := by decide +kernel
theorem dX5_sumOfHandsets_6 : decode cX5_sumOfHandsets 6 = .ok (.getfield 36, 3) := by decide +kernel
theorem dX5_sumOfHandsets_9 : decode cX5_sumOfHandsets 9 = .ok (.if_icmp .ge 22, 3) := by decide +kernel
theorem dX5_sumOfHandsets_12 : decode cX5_sumOfHandsets 12 = .ok (.iload_n 2, 1) := by decide +kernel
theorem dX5_sumOfHandsets_13 : decode cX5_sumOfHandsets 13 = .ok (.aload_n 0, 1) := by decide +kernel
theorem dX5_sumOfHandsets_14 : decode cX5_sumOfHandsets 14 = .ok (.getfield 24, 3) := by decide +kernel
theorem dX5_sumOfHandsets_17 : decode cX5_sumOfHandsets 17 = .ok (.iload_n 3, 1) := by decide +kernel
theorem dX5_sumOfHandsets_18 : decode cX5_sumOfHandsets 18 = .ok (.aaload, 1) := by decide +kernel
theorem dX5_sumOfHandsets_19 : decode cX5_sumOfHandsets 19 = .ok (.iload_n 1, 1) := by decide +kernel
theorem dX5_sumOfHandsets_20 : decode cX5_sumOfHandsets 20 = .ok (.invokevirtual 257, 3) := by decide +kernel
theorem dX5_sumOfHandsets_23 : decode cX5_sumOfHandsets 23 = .ok (.iadd, 1) := by decide +kernel
theorem dX5_sumOfHandsets_24 : decode cX5_sumOfHandsets 24 = .ok (.istore_n 2, 1) := by decide +kernel
theorem dX5_sumOfHandsets_25 : decode cX5_sumOfHandsets 25 = .ok (.iinc 3 1, 3) := by decide +kernel
theorem dX5_sumOfHandsets_28 : decode cX5_sumOfHandsets 28 = .ok (.goto (-24), 3) := by decide +kernel
theorem dX5_sumOfHandsets_31 : decode cX5_sumOfHandsets 31 = .ok (.iload_n 2, 1) := by decide +kernel
theorem dX5_sumOfHandsets_32 : decode cX5_sumOfHandsets 32 = .ok (.ireturn, 1) := by decide +kernel
theorem dX5_secondsOfEndedCalls_0 : decode cX5_secondsOfEndedCalls 0 = .ok (.iconst 0, 1) := by decide +kernel
theorem dX5_secondsOfEndedCalls_1 : decode cX5_secondsOfEndedCalls 1 = .ok (.istore_n 1, 1) := by decide +kernel
theorem dX5_secondsOfEndedCalls_2 : decode cX5_secondsOfEndedCalls 2 = .ok (.iconst 0, 1) := by decide +kernel
theorem dX5_secondsOfEndedCalls_3 : decode cX5_secondsOfEndedCalls 3 = .ok (.istore_n 2, 1) := by decide +kernel
theorem dX5_secondsOfEndedCalls_4 : decode cX5_secondsOfEndedCalls 4 = .ok (.iload_n 2, 1) := by decide +kernel
theorem dX5_secondsOfEndedCalls_5 : decode cX5_secondsOfEndedCalls 5 = .ok (.aload_n 0, 1) := by decide +kernel
theorem dX5_secondsOfEndedCalls_6 : decode cX5_secondsOfEndedCalls 6 = .ok (.getfield 44, 3) := by decide +kernel
theorem dX5_secondsOfEndedCalls_9 : decode cX5_secondsOfEndedCalls 9 = .ok (.if_icmp .ge 33, 3) := by decide +kernel
theorem dX5_secondsOfEndedCalls_12 : decode cX5_secondsOfEndedCalls 12 = .ok (.aload_n 0, 1) := by decide +kernel
theorem dX5_secondsOfEndedCalls_13 : decode cX5_secondsOfEndedCalls 13 = .ok (.getfield 31, 3) := by decide +kernel
theorem dX5_secondsOfEndedCalls_16 : decode cX5_secondsOfEndedCalls 16 = .ok (.iload_n 2, 1) := by decide +kernel
theorem dX5_secondsOfEndedCalls_17 : decode cX5_secondsOfEndedCalls 17 = .ok (.aaload, 1) := by decide +kernel
theorem dX5_secondsOfEndedCalls_18 : decode cX5_secondsOfEndedCalls 18 = .ok (.getfield 152, 3) := by decide +kernel
theorem dX5_secondsOfEndedCalls_21 : decode cX5_secondsOfEndedCalls 21 = .ok (.ifCond .eq 15, 3) := by decide +kernel
theorem dX5_secondsOfEndedCalls_24 : decode cX5_secondsOfEndedCalls 24 = .ok (.iload_n 1, 1) := by decide +kernel
theorem dX5_secondsOfEndedCalls_25 : decode cX5_secondsOfEndedCalls 25 = .ok (.aload_n 0, 1) := by decide +kernel
theorem dX5_secondsOfEndedCalls_26 : decode cX5_secondsOfEndedCalls 26 = .ok (.getfield 31, 3) := by decide +kernel
theorem dX5_secondsOfEndedCalls_29 : decode cX5_secondsOfEndedCalls 29 = .ok (.iload_n 2, 1) := by decide +kernel
theorem dX5_secondsOfEndedCalls_30 : decode cX5_secondsOfEndedCalls 30 = .ok (.aaload, 1) := by decide +kernel
theorem dX5_secondsOfEndedCalls_31 : decode cX5_secondsOfEndedCalls 31 = .ok (.getfield 217, 3) := by decide +kernel
theorem dX5_secondsOfEndedCalls_34 : decode cX5_secondsOfEndedCalls 34 = .ok (.iadd, 1) := by decide +kernel
theorem dX5_secondsOfEndedCalls_35 : decode cX5_secondsOfEndedCalls 35 = .ok (.istore_n 1, 1) := by decide +kernel
theorem dX5_secondsOfEndedCalls_36 : decode cX5_secondsOfEndedCalls 36 = .ok (.iinc 2 1, 3) := by decide +kernel
theorem dX5_secondsOfEndedCalls_39 : decode cX5_secondsOfEndedCalls 39 = .ok (.goto (-35), 3) := by decide +kernel
theorem dX5_secondsOfEndedCalls_42 : decode cX5_secondsOfEndedCalls 42 = .ok (.iload_n 1, 1) := by decide +kernel
theorem dX5_secondsOfEndedCalls_43 : decode cX5_secondsOfEndedCalls 43 = .ok (.ireturn, 1) := by decide +kernel
theorem dX6_init_0 : decode cX6_init 0 = .ok (.aload_n 0, 1) := by decide +kernel
theorem dX6_init_1 : decode cX6_init 1 = .ok (.invokespecial 3, 3) := by decide +kernel
theorem dX6_init_4 : decode cX6_init 4 = .ok (.aload_n 0, 1) := by decide +kernel
theorem dX6_init_5 : decode cX6_init 5 = .ok (.bipush 100, 2) := by decide +kernel
theorem dX6_init_7 : decode cX6_init 7 = .ok (.newarray .int, 2) := by decide +kernel
theorem dX6_init_9 : decode cX6_init 9 = .ok (.putfield 9, 3) := by decide +kernel
theorem dX6_init_12 : decode cX6_init 12 = .ok (.aload_n 0, 1) := by decide +kernel
theorem dX6_init_13 : decode cX6_init 13 = .ok (.bipush 100, 2) := by decide +kernel
theorem dX6_init_15 : decode cX6_init 15 = .ok (.newarray .int, 2) := by decide +kernel
theorem dX6_init_17 : decode cX6_init 17 = .ok (.putfield 15, 3) := by decide +kernel
theorem dX6_init_20 : decode cX6_init 20 = .ok (.aload_n 0, 1) := by decide +kernel
theorem dX6_init_21 : decode cX6_init 21 = .ok (.bipush 100, 2) := by decide +kernel
theorem dX6_init_23 : decode cX6_init 23 = .ok (.newarray .int, 2) := by decide +kernel
theorem dX6_init_25 : decode cX6_init 25 = .ok (.putfield 18, 3) := by decide +kernel
theorem dX6_init_28 : decode cX6_init 28 = .ok (.return_, 1) := by decide +kernel
theorem dX6_take_0 : decode cX6_take 0 = .ok (.iconst 0, 1) := by decide +kernel
theorem dX6_take_1 : decode cX6_take 1 = .ok (.istore_n 3, 1) := by decide +kernel
theorem dX6_take_2 : decode cX6_take 2 = .ok (.iload_n 3, 1) := by decide +kernel
theorem dX6_take_3 : decode cX6_take 3 = .ok (.bipush 100, 2) := by decide +kernel
theorem dX6_take_5 : decode cX6_take 5 = .ok (.if_icmp .ge 64, 3) := by decide +kernel
theorem dX6_take_8 : decode cX6_take 8 = .ok (.aload_n 0, 1) := by decide +kernel
theorem dX6_take_9 : decode cX6_take 9 = .ok (.getfield 9, 3) := by decide +kernel
theorem dX6_take_12 : decode cX6_take 12 = .ok (.iload_n 3, 1) := by decide +kernel
theorem dX6_take_13 : decode cX6_take 13 = .ok (.sipush (-1000), 3) := by decide +kernel
theorem dX6_take_16 : decode cX6_take 16 = .ok (.iastore, 1) := by decide +kernel
theorem dX6_take_17 : decode cX6_take 17 = .ok (.aload_n 0, 1) := by decide +kernel
theorem dX6_take_18 : decode cX6_take 18 = .ok (.getfield 15, 3) := by decide +kernel
theorem dX6_take_21 : decode cX6_take 21 = .ok (.iload_n 3, 1) := by decide +kernel
theorem dX6_take_22 : decode cX6_take 22 = .ok (.sipush (-1000), 3) := by decide +kernel
theorem dX6_take_25 : decode cX6_take 25 = .ok (.iastore, 1) := by decide +kernel
theorem dX6_take_26 : decode cX6_take 26 = .ok (.aload_n 0, 1) := by decide +kernel
theorem dX6_take_27 : decode cX6_take 27 = .ok (.getfield 18, 3) := by decide +kernel
theorem dX6_take_30 : decode cX6_take 30 = .ok (.iload_n 3, 1) := by decide +kernel
theorem dX6_take_31 : decode cX6_take 31 = .ok (.iconst 0, 1) := by decide +kernel
theorem dX6_take_32 : decode cX6_take 32 = .ok (.iastore, 1) := by decide +kernel
theorem dX6_take_33 : decode cX6_take 33 = .ok (.iconst 0, 1) := by decide +kernel
theorem dX6_take_34 : decode cX6_take 34 = .ok (.istore 4, 2) := by decide +kernel
theorem dX6_take_36 : decode cX6_take 36 = .ok (.iload 4, 2) := by decide +kernel
theorem dX6_take_38 : decode cX6_take 38 = .ok (.aload_n 1, 1) := by decide +kernel
theorem dX6_take_39 : decode cX6_take 39 = .ok (.getfield 21, 3) := by decide +kernel
theorem dX6_take_42 : decode cX6_take 42 = .ok (.getfield 27, 3) := by decide +kernel
theorem dX6_take_45 : decode cX6_take 45 = .ok (.if_icmp .ge 18, 3) := by decide +kernel
theorem dX6_take_48 : decode cX6_take 48 = .ok (.aload_n 0, 1) := by decide +kernel
theorem dX6_take_49 : decode cX6_take 49 = .ok (.aload_n 1, 1) := by decide +kernel
theorem dX6_take_50 : decode cX6_take 50 = .ok (.iload 4, 2) := by decide +kernel
theorem dX6_take_52 : decode cX6_take 52 = .ok (.iload_n 2, 1) := by decide +kernel
theorem dX6_take_53 : decode cX6_take 53 = .ok (.iload_n 3, 1) := by decide +kernel
theorem dX6_take_54 : decode cX6_take 54 = .ok (.invokevirtual 33, 3) := by decide +kernel
theorem dX6_take_57 : decode cX6_take 57 = .ok (.iinc 4 1, 3) := by decide +kernel
theorem dX6_take_60 : decode cX6_take 60 = .ok (.goto (-24), 3) := by decide +kernel
theorem dX6_take_63 : decode cX6_take 63 = .ok (.iinc 3 1, 3) := by decide +kernel
theorem dX6_take_66 : decode cX6_take 66 = .ok (.goto (-64), 3) := by decide +kernel
theorem dX6_take_69 : decode cX6_take 69 = .ok (.return_, 1) := by decide +kernel
theorem dX6_takeMast_0 : decode cX6_takeMast 0 = .ok (.aload_n 1, 1) := by decide +kernel
theorem dX6_takeMast_1 : decode cX6_takeMast 1 = .ok (.getfield 21, 3) := by decide +kernel
theorem dX6_takeMast_4 : decode cX6_takeMast 4 = .ok (.getfield 37, 3) := by decide +kernel
theorem dX6_takeMast_7 : decode cX6_takeMast 7 = .ok (.iload_n 2, 1) := by decide +kernel
theorem dX6_takeMast_8 : decode cX6_takeMast 8 = .ok (.aaload, 1) := by decide +kernel
theorem dX6_takeMast_9 : decode cX6_takeMast 9 = .ok (.astore 5, 2) := by decide +kernel
theorem dX6_takeMast_11 : decode cX6_takeMast 11 = .ok (.aload_n 1, 1) := by decide +kernel
theorem dX6_takeMast_12 : decode cX6_takeMast 12 = .ok (.iload_n 2, 1) := by decide +kernel
theorem dX6_takeMast_13 : decode cX6_takeMast 13 = .ok (.iload 4, 2) := by decide +kernel
theorem dX6_takeMast_15 : decode cX6_takeMast 15 = .ok (.invokevirtual 41, 3) := by decide +kernel
theorem dX6_takeMast_18 : decode cX6_takeMast 18 = .ok (.istore 6, 2) := by decide +kernel
theorem dX6_takeMast_20 : decode cX6_takeMast 20 = .ok (.aload 5, 2) := by decide +kernel
theorem dX6_takeMast_22 : decode cX6_takeMast 22 = .ok (.getfield 45, 3) := by decide +kernel
theorem dX6_takeMast_25 : decode cX6_takeMast 25 = .ok (.iload_n 3, 1) := by decide +kernel
theorem dX6_takeMast_26 : decode cX6_takeMast 26 = .ok (.if_icmp .ne 42, 3) := by decide +kernel
theorem dX6_takeMast_29 : decode cX6_takeMast 29 = .ok (.aload_n 0, 1) := by decide +kernel
theorem dX6_takeMast_30 : decode cX6_takeMast 30 = .ok (.getfield 15, 3) := by decide +kernel
theorem dX6_takeMast_33 : decode cX6_takeMast 33 = .ok (.iload 4, 2) := by decide +kernel
theorem dX6_takeMast_35 : decode cX6_takeMast 35 = .ok (.aload_n 0, 1) := by decide +kernel
theorem dX6_takeMast_36 : decode cX6_takeMast 36 = .ok (.getfield 15, 3) := by decide +kernel
theorem dX6_takeMast_39 : decode cX6_takeMast 39 = .ok (.iload 4, 2) := by decide +kernel
theorem dX6_takeMast_41 : decode cX6_takeMast 41 = .ok (.iaload, 1) := by decide +kernel
theorem dX6_takeMast_42 : decode cX6_takeMast 42 = .ok (.iload 6, 2) := by decide +kernel
theorem dX6_takeMast_44 : decode cX6_takeMast 44 = .ok (.invokestatic 50, 3) := by decide +kernel
theorem dX6_takeMast_47 : decode cX6_takeMast 47 = .ok (.iastore, 1) := by decide +kernel
theorem dX6_takeMast_48 : decode cX6_takeMast 48 = .ok (.aload_n 0, 1) := by decide +kernel
theorem dX6_takeMast_49 : decode cX6_takeMast 49 = .ok (.getfield 18, 3) := by decide +kernel
theorem dX6_takeMast_52 : decode cX6_takeMast 52 = .ok (.iload 4, 2) := by decide +kernel
theorem dX6_takeMast_54 : decode cX6_takeMast 54 = .ok (.dup2, 1) := by decide +kernel
theorem dX6_takeMast_55 : decode cX6_takeMast 55 = .ok (.iaload, 1) := by decide +kernel
theorem dX6_takeMast_56 : decode cX6_takeMast 56 = .ok (.aload 5, 2) := by decide +kernel
theorem dX6_takeMast_58 : decode cX6_takeMast 58 = .ok (.iload 4, 2) := by decide +kernel
theorem dX6_takeMast_60 : decode cX6_takeMast 60 = .ok (.invokevirtual 55, 3) := by decide +kernel
theorem dX6_takeMast_63 : decode cX6_takeMast 63 = .ok (.iadd, 1) := by decide +kernel
theorem dX6_takeMast_64 : decode cX6_takeMast 64 = .ok (.iastore, 1) := by decide +kernel
theorem dX6_takeMast_65 : decode cX6_takeMast 65 = .ok (.goto 22, 3) := by decide +kernel
theorem dX6_takeMast_68 : decode cX6_takeMast 68 = .ok (.aload_n 0, 1) := by decide +kernel
theorem dX6_takeMast_69 : decode cX6_takeMast 69 = .ok (.getfield 9, 3) := by decide +kernel
theorem dX6_takeMast_72 : decode cX6_takeMast 72 = .ok (.iload 4, 2) := by decide +kernel
theorem dX6_takeMast_74 : decode cX6_takeMast 74 = .ok (.aload_n 0, 1) := by decide +kernel
theorem dX6_takeMast_75 : decode cX6_takeMast 75 = .ok (.getfield 9, 3) := by decide +kernel
theorem dX6_takeMast_78 : decode cX6_takeMast 78 = .ok (.iload 4, 2) := by decide +kernel
theorem dX6_takeMast_80 : decode cX6_takeMast 80 = .ok (.iaload, 1) := by decide +kernel
theorem dX6_takeMast_81 : decode cX6_takeMast 81 = .ok (.iload 6, 2) := by decide +kernel
theorem dX6_takeMast_83 : decode cX6_takeMast 83 = .ok (.invokestatic 50, 3) := by decide +kernel
theorem dX6_takeMast_86 : decode cX6_takeMast 86 = .ok (.iastore, 1) := by decide +kernel
theorem dX6_takeMast_87 : decode cX6_takeMast 87 = .ok (.return_, 1) := by decide +kernel
theorem dX6_placeFor_0 : decode cX6_placeFor 0 = .ok (.iconst (-1), 1) := by decide +kernel
theorem dX6_placeFor_1 : decode cX6_placeFor 1 = .ok (.istore_n 2, 1) := by decide +kernel
theorem dX6_placeFor_2 : decode cX6_placeFor 2 = .ok (.iconst (-1), 1) := by decide +kernel
theorem dX6_placeFor_3 : decode cX6_placeFor 3 = .ok (.istore_n 3, 1) := by decide +kernel
theorem dX6_placeFor_4 : decode cX6_placeFor 4 = .ok (.iconst 0, 1) := by decide +kernel
theorem dX6_placeFor_5 : decode cX6_placeFor 5 = .ok (.istore 4, 2) := by decide +kernel
theorem dX6_placeFor_7 : decode cX6_placeFor 7 = .ok (.iload 4, 2) := by decide +kernel
theorem dX6_placeFor_9 : decode cX6_placeFor 9 = .ok (.bipush 100, 2) := by decide +kernel
theorem dX6_placeFor_11 : decode cX6_placeFor 11 = .ok (.if_icmp .ge 30, 3) := by decide +kernel
theorem dX6_placeFor_14 : decode cX6_placeFor 14 = .ok (.aload_n 0, 1) := by decide +kernel
theorem dX6_placeFor_15 : decode cX6_placeFor 15 = .ok (.iload 4, 2) := by decide +kernel
theorem dX6_placeFor_17 : decode cX6_placeFor 17 = .ok (.iload_n 1, 1) := by decide +kernel
theorem dX6_placeFor_18 : decode cX6_placeFor 18 = .ok (.invokevirtual 59, 3) := by decide +kernel
theorem dX6_placeFor_21 : decode cX6_placeFor 21 = .ok (.istore 5, 2) := by decide +kernel
theorem dX6_placeFor_23 : decode cX6_placeFor 23 = .ok (.iload 5, 2) := by decide +kernel
theorem dX6_placeFor_25 : decode cX6_placeFor 25 = .ok (.iload_n 3, 1) := by decide +kernel
theorem dX6_placeFor_26 : decode cX6_placeFor 26 = .ok (.if_icmp .le 9, 3) := by decide +kernel
theorem dX6_placeFor_29 : decode cX6_placeFor 29 = .ok (.iload 4, 2) := by decide +kernel
theorem dX6_placeFor_31 : decode cX6_placeFor 31 = .ok (.istore_n 2, 1) := by decide +kernel
theorem dX6_placeFor_32 : decode cX6_placeFor 32 = .ok (.iload 5, 2) := by decide +kernel
theorem dX6_placeFor_34 : decode cX6_placeFor 34 = .ok (.istore_n 3, 1) := by decide +kernel
theorem dX6_placeFor_35 : decode cX6_placeFor 35 = .ok (.iinc 4 1, 3) := by decide +kernel
theorem dX6_placeFor_38 : decode cX6_placeFor 38 = .ok (.goto (-31), 3) := by decide +kernel
theorem dX6_placeFor_41 : decode cX6_placeFor 41 = .ok (.iload_n 2, 1) := by decide +kernel
theorem dX6_placeFor_42 : decode cX6_placeFor 42 = .ok (.ireturn, 1) := by decide +kernel
theorem dX6_servedFrom_0 : decode cX6_servedFrom 0 = .ok (.iconst 0, 1) := by decide +kernel
theorem dX6_servedFrom_1 : decode cX6_servedFrom 1 = .ok (.istore_n 3, 1) := by decide +kernel
theorem dX6_servedFrom_2 : decode cX6_servedFrom 2 = .ok (.iconst 0, 1) := by decide +kernel
theorem dX6_servedFrom_3 : decode cX6_servedFrom 3 = .ok (.istore 4, 2) := by decide +kernel
theorem dX6_servedFrom_5 : decode cX6_servedFrom 5 = .ok (.iload 4, 2) := by decide +kernel
theorem dX6_servedFrom_7 : decode cX6_servedFrom 7 = .ok (.bipush 100, 2) := by decide +kernel
theorem dX6_servedFrom_9 : decode cX6_servedFrom 9 = .ok (.if_icmp .ge 77, 3) := by decide +kernel
theorem dX6_servedFrom_12 : decode cX6_servedFrom 12 = .ok (.iload_n 2, 1) := by decide +kernel
theorem dX6_servedFrom_13 : decode cX6_servedFrom 13 = .ok (.iload_n 1, 1) := by decide +kernel
theorem dX6_servedFrom_14 : decode cX6_servedFrom 14 = .ok (.iload 4, 2) := by decide +kernel
theorem dX6_servedFrom_16 : decode cX6_servedFrom 16 = .ok (.isub, 1) := by decide +kernel
theorem dX6_servedFrom_17 : decode cX6_servedFrom 17 = .ok (.invokestatic 62, 3) := by decide +kernel
theorem dX6_servedFrom_20 : decode cX6_servedFrom 20 = .ok (.isub, 1) := by decide +kernel
theorem dX6_servedFrom_21 : decode cX6_servedFrom 21 = .ok (.istore 5, 2) := by decide +kernel
theorem dX6_servedFrom_23 : decode cX6_servedFrom 23 = .ok (.iload 5, 2) := by decide +kernel
theorem dX6_servedFrom_25 : decode cX6_servedFrom 25 = .ok (.ifCond .le 10, 3) := by decide +kernel
theorem dX6_servedFrom_28 : decode cX6_servedFrom 28 = .ok (.iload 5, 2) := by decide +kernel
theorem dX6_servedFrom_30 : decode cX6_servedFrom 30 = .ok (.iconst 3, 1) := by decide +kernel
theorem dX6_servedFrom_31 : decode cX6_servedFrom 31 = .ok (.idiv, 1) := by decide +kernel
theorem dX6_servedFrom_32 : decode cX6_servedFrom 32 = .ok (.goto 4, 3) := by decide +kernel
theorem dX6_servedFrom_35 : decode cX6_servedFrom 35 = .ok (.iconst 0, 1) := by decide +kernel
theorem dX6_servedFrom_36 : decode cX6_servedFrom 36 = .ok (.istore 6, 2) := by decide +kernel
theorem dX6_servedFrom_38 : decode cX6_servedFrom 38 = .ok (.aload_n 0, 1) := by decide +kernel
theorem dX6_servedFrom_39 : decode cX6_servedFrom 39 = .ok (.getfield 9, 3) := by decide +kernel
theorem dX6_servedFrom_42 : decode cX6_servedFrom 42 = .ok (.iload 4, 2) := by decide +kernel
theorem dX6_servedFrom_44 : decode cX6_servedFrom 44 = .ok (.iaload, 1) := by decide +kernel
theorem dX6_servedFrom_45 : decode cX6_servedFrom 45 = .ok (.iconst 5, 1) := by decide +kernel
theorem dX6_servedFrom_46 : decode cX6_servedFrom 46 = .ok (.if_icmp .ge 31, 3) := by decide +kernel
theorem dX6_servedFrom_49 : decode cX6_servedFrom 49 = .ok (.aload_n 0, 1) := by decide +kernel
theorem dX6_servedFrom_50 : decode cX6_servedFrom 50 = .ok (.getfield 15, 3) := by decide +kernel
theorem dX6_servedFrom_53 : decode cX6_servedFrom 53 = .ok (.iload 4, 2) := by decide +kernel
theorem dX6_servedFrom_55 : decode cX6_servedFrom 55 = .ok (.iaload, 1) := by decide +kernel
theorem dX6_servedFrom_56 : decode cX6_servedFrom 56 = .ok (.iload 6, 2) := by decide +kernel
theorem dX6_servedFrom_58 : decode cX6_servedFrom 58 = .ok (.isub, 1) := by decide +kernel
theorem dX6_servedFrom_59 : decode cX6_servedFrom 59 = .ok (.iconst 5, 1) := by decide +kernel
theorem dX6_servedFrom_60 : decode cX6_servedFrom 60 = .ok (.if_icmp .ge 17, 3) := by decide +kernel
theorem dX6_servedFrom_63 : decode cX6_servedFrom 63 = .ok (.iload 5, 2) := by decide +kernel
theorem dX6_servedFrom_65 : decode cX6_servedFrom 65 = .ok (.aload_n 0, 1) := by decide +kernel
theorem dX6_servedFrom_66 : decode cX6_servedFrom 66 = .ok (.getfield 18, 3) := by decide +kernel
theorem dX6_servedFrom_69 : decode cX6_servedFrom 69 = .ok (.iload 4, 2) := by decide +kernel
theorem dX6_servedFrom_71 : decode cX6_servedFrom 71 = .ok (.iaload, 1) := by decide +kernel
theorem dX6_servedFrom_72 : decode cX6_servedFrom 72 = .ok (.isub, 1) := by decide +kernel
theorem dX6_servedFrom_73 : decode cX6_servedFrom 73 = .ok (.iconst 5, 1) := by decide +kernel
theorem dX6_servedFrom_74 : decode cX6_servedFrom 74 = .ok (.if_icmp .lt 6, 3) := by decide +kernel
theorem dX6_servedFrom_77 : decode cX6_servedFrom 77 = .ok (.iinc 3 1, 3) := by decide +kernel
theorem dX6_servedFrom_80 : decode cX6_servedFrom 80 = .ok (.iinc 4 1, 3) := by decide +kernel
theorem dX6_servedFrom_83 : decode cX6_servedFrom 83 = .ok (.goto (-78), 3) := by decide +kernel
theorem dX6_servedFrom_86 : decode cX6_servedFrom 86 = .ok (.iload_n 3, 1) := by decide +kernel
theorem dX6_servedFrom_87 : decode cX6_servedFrom 87 = .ok (.ireturn, 1) := by decide +kernel
theorem dX7_init_0 : decode cX7_init 0 = .ok (.aload_n 0, 1) := by decide +kernel
theorem dX7_init_1 : decode cX7_init 1 = .ok (.invokespecial 1, 3) := by decide +kernel
theorem dX7_init_4 : decode cX7_init 4 = .ok (.aload_n 0, 1) := by decide +kernel
theorem dX7_init_5 : decode cX7_init 5 = .ok (.new 7, 3) := by decide +kernel
theorem dX7_init_8 : decode cX7_init 8 = .ok (.dup, 1) := by decide +kernel
theorem dX7_init_9 : decode cX7_init 9 = .ok (.invokespecial 9, 3) := by decide +kernel
theorem dX7_init_12 : decode cX7_init 12 = .ok (.putfield 10, 3) := by decide +kernel
theorem dX7_init_15 : decode cX7_init 15 = .ok (.aload_n 0, 1) := by decide +kernel
theorem dX7_init_16 : decode cX7_init 16 = .ok (.new 16, 3) := by decide +kernel
theorem dX7_init_19 : decode cX7_init 19 = .ok (.dup, 1) := by decide +kernel
theorem dX7_init_20 : decode cX7_init 20 = .ok (.aload_n 0, 1) := by decide +kernel
theorem dX7_init_21 : decode cX7_init 21 = .ok (.getfield 10, 3) := by decide +kernel
theorem dX7_init_24 : decode cX7_init 24 = .ok (.invokespecial 18, 3) := by decide +kernel
theorem dX7_init_27 : decode cX7_init 27 = .ok (.putfield 21, 3) := by decide +kernel
theorem dX7_init_30 : decode cX7_init 30 = .ok (.aload_n 0, 1) := by decide +kernel
theorem dX7_init_31 : decode cX7_init 31 = .ok (.new 16, 3) := by decide +kernel
theorem dX7_init_34 : decode cX7_init 34 = .ok (.dup, 1) := by decide +kernel
theorem dX7_init_35 : decode cX7_init 35 = .ok (.aload_n 0, 1) := by decide +kernel
theorem dX7_init_36 : decode cX7_init 36 = .ok (.getfield 10, 3) := by decide +kernel
theorem dX7_init_39 : decode cX7_init 39 = .ok (.invokespecial 18, 3) := by decide +kernel
theorem dX7_init_42 : decode cX7_init 42 = .ok (.putfield 25, 3) := by decide +kernel
theorem dX7_init_45 : decode cX7_init 45 = .ok (.aload_n 0, 1) := by decide +kernel
theorem dX7_init_46 : decode cX7_init 46 = .ok (.new 28, 3) := by decide +kernel
theorem dX7_init_49 : decode cX7_init 49 = .ok (.dup, 1) := by decide +kernel
theorem dX7_init_50 : decode cX7_init 50 = .ok (.invokespecial 30, 3) := by decide +kernel
theorem dX7_init_53 : decode cX7_init 53 = .ok (.putfield 31, 3) := by decide +kernel
theorem dX7_init_56 : decode cX7_init 56 = .ok (.return_, 1) := by decide +kernel
theorem dX7_mast_0 : decode cX7_mast 0 = .ok (.iload_n 1, 1) := by decide +kernel
theorem dX7_mast_1 : decode cX7_mast 1 = .ok (.iconst 0, 1) := by decide +kernel
theorem dX7_mast_2 : decode cX7_mast 2 = .ok (.bipush 99, 2) := by decide +kernel
theorem dX7_mast_4 : decode cX7_mast 4 = .ok (.invokestatic 35, 3) := by decide +kernel
theorem dX7_mast_7 : decode cX7_mast 7 = .ok (.iload_n 2, 1) := by decide +kernel
theorem dX7_mast_8 : decode cX7_mast 8 = .ok (.bipush 10, 2) := by decide +kernel
theorem dX7_mast_10 : decode cX7_mast 10 = .ok (.bipush 60, 2) := by decide +kernel
theorem dX7_mast_12 : decode cX7_mast 12 = .ok (.invokestatic 35, 3) := by decide +kernel
theorem dX7_mast_15 : decode cX7_mast 15 = .ok (.iload_n 3, 1) := by decide +kernel
theorem dX7_mast_16 : decode cX7_mast 16 = .ok (.iconst 0, 1) := by decide +kernel
theorem dX7_mast_17 : decode cX7_mast 17 = .ok (.iconst 2, 1) := by decide +kernel
theorem dX7_mast_18 : decode cX7_mast 18 = .ok (.invokestatic 35, 3) := by decide +kernel
theorem dX7_mast_21 : decode cX7_mast 21 = .ok (.iload 4, 2) := by decide +kernel
theorem dX7_mast_23 : decode cX7_mast 23 = .ok (.iconst 1, 1) := by decide +kernel
theorem dX7_mast_24 : decode cX7_mast 24 = .ok (.iconst 4, 1) := by decide +kernel
theorem dX7_mast_25 : decode cX7_mast 25 = .ok (.invokestatic 35, 3) := by decide +kernel
theorem dX7_mast_28 : decode cX7_mast 28 = .ok (.iload 5, 2) := by decide +kernel
theorem dX7_mast_30 : decode cX7_mast 30 = .ok (.iconst 0, 1) := by decide +kernel
theorem dX7_mast_31 : decode cX7_mast 31 = .ok (.iconst 3, 1) := by decide +kernel
theorem dX7_mast_32 : decode cX7_mast 32 = .ok (.invokestatic 35, 3) := by decide +kernel
theorem dX7_mast_35 : decode cX7_mast 35 = .ok (.iload 6, 2) := by decide +kernel
theorem dX7_mast_37 : decode cX7_mast 37 = .ok (.iconst 0, 1) := by decide +kernel
theorem dX7_mast_38 : decode cX7_mast 38 = .ok (.iconst 1, 1) := by decide +kernel
theorem dX7_mast_39 : decode cX7_mast 39 = .ok (.invokestatic 35, 3) := by decide +kernel
theorem dX7_mast_42 : decode cX7_mast 42 = .ok (.aload_n 0, 1) := by decide +kernel
theorem dX7_mast_43 : decode cX7_mast 43 = .ok (.getfield 10, 3) := by decide +kernel
theorem dX7_mast_46 : decode cX7_mast 46 = .ok (.getfield 39, 3) := by decide +kernel
theorem dX7_mast_49 : decode cX7_mast 49 = .ok (.bipush 6, 2) := by decide +kernel
theorem dX7_mast_51 : decode cX7_mast 51 = .ok (.if_icmp .lt 13, 3) := by decide +kernel
theorem dX7_mast_54 : decode cX7_mast 54 = .ok (.new 43, 3) := by decide +kernel
theorem dX7_mast_57 : decode cX7_mast 57 = .ok (.dup, 1) := by decide +kernel
theorem dX7_mast_58 : decode cX7_mast 58 = .ok (.ldc 45, 2) := by decide +kernel
theorem dX7_mast_60 : decode cX7_mast 60 = .ok (.invokespecial 47, 3) := by decide +kernel
theorem dX7_mast_63 : decode cX7_mast 63 = .ok (.athrow, 1) := by decide +kernel
theorem dX7_mast_64 : decode cX7_mast 64 = .ok (.aload_n 0, 1) := by decide +kernel
theorem dX7_mast_65 : decode cX7_mast 65 = .ok (.getfield 10, 3) := by decide +kernel
theorem dX7_mast_68 : decode cX7_mast 68 = .ok (.getfield 50, 3) := by decide +kernel
theorem dX7_mast_71 : decode cX7_mast 71 = .ok (.aload_n 0, 1) := by decide +kernel
theorem dX7_mast_72 : decode cX7_mast 72 = .ok (.getfield 10, 3) := by decide +kernel
theorem dX7_mast_75 : decode cX7_mast 75 = .ok (.getfield 39, 3) := by decide +kernel
theorem dX7_mast_78 : decode cX7_mast 78 = .ok (.aaload, 1) := by decide +kernel
theorem dX7_mast_79 : decode cX7_mast 79 = .ok (.astore 7, 2) := by decide +kernel
theorem dX7_mast_81 : decode cX7_mast 81 = .ok (.aload 7, 2) := by decide +kernel
theorem dX7_mast_83 : decode cX7_mast 83 = .ok (.iload_n 1, 1) := by decide +kernel
theorem dX7_mast_84 : decode cX7_mast 84 = .ok (.putfield 54, 3) := by decide +kernel
theorem dX7_mast_87 : decode cX7_mast 87 = .ok (.aload 7, 2) := by decide +kernel
theorem dX7_mast_89 : decode cX7_mast 89 = .ok (.iload_n 2, 1) := by decide +kernel
theorem dX7_mast_90 : decode cX7_mast 90 = .ok (.putfield 59, 3) := by decide +kernel
theorem dX7_mast_93 : decode cX7_mast 93 = .ok (.aload 7, 2) := by decide +kernel
theorem dX7_mast_95 : decode cX7_mast 95 = .ok (.iload_n 3, 1) := by decide +kernel
theorem dX7_mast_96 : decode cX7_mast 96 = .ok (.putfield 62, 3) := by decide +kernel
theorem dX7_mast_99 : decode cX7_mast 99 = .ok (.aload 7, 2) := by decide +kernel
theorem dX7_mast_101 : decode cX7_mast 101 = .ok (.iload 4, 2) := by decide +kernel
theorem dX7_mast_103 : decode cX7_mast 103 = .ok (.putfield 65, 3) := by decide +kernel
theorem dX7_mast_106 : decode cX7_mast 106 = .ok (.aload 7, 2) := by decide +kernel
theorem dX7_mast_108 : decode cX7_mast 108 = .ok (.iload 5, 2) := by decide +kernel
theorem dX7_mast_110 : decode cX7_mast 110 = .ok (.putfield 68, 3) := by decide +kernel
theorem dX7_mast_113 : decode cX7_mast 113 = .ok (.aload 7, 2) := by decide +kernel
theorem dX7_mast_115 : decode cX7_mast 115 = .ok (.iload 6, 2) := by decide +kernel
theorem dX7_mast_117 : decode cX7_mast 117 = .ok (.putfield 71, 3) := by decide +kernel
theorem dX7_mast_120 : decode cX7_mast 120 = .ok (.aload 7, 2) := by decide +kernel
theorem dX7_mast_122 : decode cX7_mast 122 = .ok (.iconst 1, 1) := by decide +kernel
theorem dX7_mast_123 : decode cX7_mast 123 = .ok (.putfield 74, 3) := by decide +kernel
theorem dX7_mast_126 : decode cX7_mast 126 = .ok (.aload_n 0, 1) := by decide +kernel
theorem dX7_mast_127 : decode cX7_mast 127 = .ok (.getfield 10, 3) := by decide +kernel
theorem dX7_mast_130 : decode cX7_mast 130 = .ok (.dup, 1) := by decide +kernel
theorem dX7_mast_131 : decode cX7_mast 131 = .ok (.getfield 39, 3) := by decide +kernel
theorem dX7_mast_134 : decode cX7_mast 134 = .ok (.iconst 1, 1) := by decide +kernel
theorem dX7_mast_135 : decode cX7_mast 135 = .ok (.iadd, 1) := by decide +kernel
theorem dX7_mast_136 : decode cX7_mast 136 = .ok (.putfield 39, 3) := by decide +kernel
theorem dX7_mast_139 : decode cX7_mast 139 = .ok (.aload_n 0, 1) := by decide +kernel
theorem dX7_mast_140 : decode cX7_mast 140 = .ok (.getfield 10, 3) := by decide +kernel
theorem dX7_mast_143 : decode cX7_mast 143 = .ok (.invokevirtual 78, 3) := by decide +kernel
theorem dX7_mast_146 : decode cX7_mast 146 = .ok (.aload_n 0, 1) := by decide +kernel
theorem dX7_mast_147 : decode cX7_mast 147 = .ok (.getfield 10, 3) := by decide +kernel
theorem dX7_mast_150 : decode cX7_mast 150 = .ok (.getfield 39, 3) := by decide +kernel
theorem dX7_mast_153 : decode cX7_mast 153 = .ok (.iconst 1, 1) := by decide +kernel
theorem dX7_mast_154 : decode cX7_mast 154 = .ok (.isub, 1) := by decide +kernel
theorem dX7_mast_155 : decode cX7_mast 155 = .ok (.ireturn, 1) := by decide +kernel
theorem dX7_handset_0 : decode cX7_handset 0 = .ok (.iload_n 1, 1) := by decide +kernel
theorem dX7_handset_1 : decode cX7_handset 1 = .ok (.iconst 0, 1) := by decide +kernel
theorem dX7_handset_2 : decode cX7_handset 2 = .ok (.iconst 1, 1) := by decide +kernel
theorem dX7_handset_3 : decode cX7_handset 3 = .ok (.invokestatic 35, 3) := by decide +kernel
theorem dX7_handset_6 : decode cX7_handset 6 = .ok (.iload_n 2, 1) := by decide +kernel
theorem dX7_handset_7 : decode cX7_handset 7 = .ok (.iconst 0, 1) := by decide +kernel
theorem dX7_handset_8 : decode cX7_handset 8 = .ok (.bipush 99, 2) := by decide +kernel
theorem dX7_handset_10 : decode cX7_handset 10 = .ok (.invokestatic 35, 3) := by decide +kernel
theorem dX7_handset_13 : decode cX7_handset 13 = .ok (.iload_n 3, 1) := by decide +kernel
theorem dX7_handset_14 : decode cX7_handset 14 = .ok (.bipush (-3), 2) := by decide +kernel
theorem dX7_handset_16 : decode cX7_handset 16 = .ok (.iconst 3, 1) := by decide +kernel
theorem dX7_handset_17 : decode cX7_handset 17 = .ok (.invokestatic 35, 3) := by decide +kernel
theorem dX7_handset_20 : decode cX7_handset 20 = .ok (.iload 4, 2) := by decide +kernel
theorem dX7_handset_22 : decode cX7_handset 22 = .ok (.iconst 0, 1) := by decide +kernel
theorem dX7_handset_23 : decode cX7_handset 23 = .ok (.sipush 999, 3) := by decide +kernel
theorem dX7_handset_26 : decode cX7_handset 26 = .ok (.invokestatic 35, 3) := by decide +kernel
theorem dX7_handset_29 : decode cX7_handset 29 = .ok (.aload_n 0, 1) := by decide +kernel
theorem dX7_handset_30 : decode cX7_handset 30 = .ok (.getfield 21, 3) := by decide +kernel
theorem dX7_handset_33 : decode cX7_handset 33 = .ok (.getfield 81, 3) := by decide +kernel
theorem dX7_handset_36 : decode cX7_handset 36 = .ok (.bipush 8, 2) := by decide +kernel
theorem dX7_handset_38 : decode cX7_handset 38 = .ok (.if_icmp .lt 13, 3) := by decide +kernel
theorem dX7_handset_41 : decode cX7_handset 41 = .ok (.new 43, 3) := by decide +kernel
theorem dX7_handset_44 : decode cX7_handset 44 = .ok (.dup, 1) := by decide +kernel
theorem dX7_handset_45 : decode cX7_handset 45 = .ok (.ldc 84, 2) := by decide +kernel
theorem dX7_handset_47 : decode cX7_handset 47 = .ok (.invokespecial 47, 3) := by decide +kernel
theorem dX7_handset_50 : decode cX7_handset 50 = .ok (.athrow, 1) := by decide +kernel
theorem dX7_handset_51 : decode cX7_handset 51 = .ok (.aload_n 0, 1) := by decide +kernel
theorem dX7_handset_52 : decode cX7_handset 52 = .ok (.getfield 21, 3) := by decide +kernel
theorem dX7_handset_55 : decode cX7_handset 55 = .ok (.getfield 86, 3) := by decide +kernel
theorem dX7_handset_58 : decode cX7_handset 58 = .ok (.aload_n 0, 1) := by decide +kernel
theorem dX7_handset_59 : decode cX7_handset 59 = .ok (.getfield 21, 3) := by decide +kernel
theorem dX7_handset_62 : decode cX7_handset 62 = .ok (.getfield 81, 3) := by decide +kernel
theorem dX7_handset_65 : decode cX7_handset 65 = .ok (.aaload, 1) := by decide +kernel
theorem dX7_handset_66 : decode cX7_handset 66 = .ok (.astore 5, 2) := by decide +kernel
theorem dX7_handset_68 : decode cX7_handset 68 = .ok (.aload 5, 2) := by decide +kernel
theorem dX7_handset_70 : decode cX7_handset 70 = .ok (.iload_n 1, 1) := by decide +kernel
theorem dX7_handset_71 : decode cX7_handset 71 = .ok (.putfield 90, 3) := by decide +kernel
theorem dX7_handset_74 : decode cX7_handset 74 = .ok (.aload 5, 2) := by decide +kernel
theorem dX7_handset_76 : decode cX7_handset 76 = .ok (.iload_n 2, 1) := by decide +kernel
theorem dX7_handset_77 : decode cX7_handset 77 = .ok (.putfield 93, 3) := by decide +kernel
theorem dX7_handset_80 : decode cX7_handset 80 = .ok (.aload 5, 2) := by decide +kernel
theorem dX7_handset_82 : decode cX7_handset 82 = .ok (.iload_n 3, 1) := by decide +kernel
theorem dX7_handset_83 : decode cX7_handset 83 = .ok (.putfield 94, 3) := by decide +kernel
theorem dX7_handset_86 : decode cX7_handset 86 = .ok (.aload 5, 2) := by decide +kernel
theorem dX7_handset_88 : decode cX7_handset 88 = .ok (.iload 4, 2) := by decide +kernel
theorem dX7_handset_90 : decode cX7_handset 90 = .ok (.putfield 97, 3) := by decide +kernel
theorem dX7_handset_93 : decode cX7_handset 93 = .ok (.aload 5, 2) := by decide +kernel
theorem dX7_handset_95 : decode cX7_handset 95 = .ok (.iconst 1, 1) := by decide +kernel
theorem dX7_handset_96 : decode cX7_handset 96 = .ok (.putfield 100, 3) := by decide +kernel
theorem dX7_handset_99 : decode cX7_handset 99 = .ok (.aload_n 0, 1) := by decide +kernel
theorem dX7_handset_100 : decode cX7_handset 100 = .ok (.getfield 21, 3) := by decide +kernel
theorem dX7_handset_103 : decode cX7_handset 103 = .ok (.dup, 1) := by decide +kernel
theorem dX7_handset_104 : decode cX7_handset 104 = .ok (.getfield 81, 3) := by decide +kernel
theorem dX7_handset_107 : decode cX7_handset 107 = .ok (.iconst 1, 1) := by decide +kernel
theorem dX7_handset_108 : decode cX7_handset 108 = .ok (.iadd, 1) := by decide +kernel
theorem dX7_handset_109 : decode cX7_handset 109 = .ok (.putfield 81, 3) := by decide +kernel
theorem dX7_handset_112 : decode cX7_handset 112 = .ok (.aload_n 0, 1) := by decide +kernel
theorem dX7_handset_113 : decode cX7_handset 113 = .ok (.getfield 21, 3) := by decide +kernel
theorem dX7_handset_116 : decode cX7_handset 116 = .ok (.getfield 81, 3) := by decide +kernel
theorem dX7_handset_119 : decode cX7_handset 119 = .ok (.iconst 1, 1) := by decide +kernel
theorem dX7_handset_120 : decode cX7_handset 120 = .ok (.isub, 1) := by decide +kernel
theorem dX7_handset_121 : decode cX7_handset 121 = .ok (.ireturn, 1) := by decide +kernel
theorem dX7_speed_0 : decode cX7_speed 0 = .ok (.iload_n 1, 1) := by decide +kernel
theorem dX7_speed_1 : decode cX7_speed 1 = .ok (.aload_n 0, 1) := by decide +kernel
theorem dX7_speed_2 : decode cX7_speed 2 = .ok (.getfield 21, 3) := by decide +kernel
theorem dX7_speed_5 : decode cX7_speed 5 = .ok (.getfield 81, 3) := by decide +kernel
theorem dX7_speed_8 : decode cX7_speed 8 = .ok (.invokestatic 103, 3) := by decide +kernel
theorem dX7_speed_11 : decode cX7_speed 11 = .ok (.iload_n 2, 1) := by decide +kernel
theorem dX7_speed_12 : decode cX7_speed 12 = .ok (.bipush (-3), 2) := by decide +kernel
theorem dX7_speed_14 : decode cX7_speed 14 = .ok (.iconst 3, 1) := by decide +kernel
theorem dX7_speed_15 : decode cX7_speed 15 = .ok (.invokestatic 35, 3) := by decide +kernel
theorem dX7_speed_18 : decode cX7_speed 18 = .ok (.aload_n 0, 1) := by decide +kernel
theorem dX7_speed_19 : decode cX7_speed 19 = .ok (.getfield 21, 3) := by decide +kernel
theorem dX7_speed_22 : decode cX7_speed 22 = .ok (.getfield 86, 3) := by decide +kernel
theorem dX7_speed_25 : decode cX7_speed 25 = .ok (.iload_n 1, 1) := by decide +kernel
theorem dX7_speed_26 : decode cX7_speed 26 = .ok (.aaload, 1) := by decide +kernel
theorem dX7_speed_27 : decode cX7_speed 27 = .ok (.getfield 94, 3) := by decide +kernel
theorem dX7_speed_30 : decode cX7_speed 30 = .ok (.istore_n 3, 1) := by decide +kernel
theorem dX7_speed_31 : decode cX7_speed 31 = .ok (.aload_n 0, 1) := by decide +kernel
theorem dX7_speed_32 : decode cX7_speed 32 = .ok (.getfield 21, 3) := by decide +kernel
theorem dX7_speed_35 : decode cX7_speed 35 = .ok (.getfield 86, 3) := by decide +kernel
theorem dX7_speed_38 : decode cX7_speed 38 = .ok (.iload_n 1, 1) := by decide +kernel
theorem dX7_speed_39 : decode cX7_speed 39 = .ok (.aaload, 1) := by decide +kernel
theorem dX7_speed_40 : decode cX7_speed 40 = .ok (.iload_n 2, 1) := by decide +kernel
theorem dX7_speed_41 : decode cX7_speed 41 = .ok (.putfield 94, 3) := by decide +kernel
theorem dX7_speed_44 : decode cX7_speed 44 = .ok (.iload_n 3, 1) := by decide +kernel
theorem dX7_speed_45 : decode cX7_speed 45 = .ok (.ireturn, 1) := by decide +kernel
theorem dX7_top_0 : decode cX7_top 0 = .ok (.iload_n 1, 1) := by decide +kernel
theorem dX7_top_1 : decode cX7_top 1 = .ok (.aload_n 0, 1) := by decide +kernel
theorem dX7_top_2 : decode cX7_top 2 = .ok (.getfield 21, 3) := by decide +kernel
theorem dX7_top_5 : decode cX7_top 5 = .ok (.getfield 81, 3) := by decide +kernel
theorem dX7_top_8 : decode cX7_top 8 = .ok (.invokestatic 103, 3) := by decide +kernel
theorem dX7_top_11 : decode cX7_top 11 = .ok (.iload_n 2, 1) := by decide +kernel
theorem dX7_top_12 : decode cX7_top 12 = .ok (.iconst 1, 1) := by decide +kernel
theorem dX7_top_13 : decode cX7_top 13 = .ok (.sipush 999, 3) := by decide +kernel
theorem dX7_top_16 : decode cX7_top 16 = .ok (.invokestatic 35, 3) := by decide +kernel
theorem dX7_top_19 : decode cX7_top 19 = .ok (.aload_n 0, 1) := by decide +kernel
theorem dX7_top_20 : decode cX7_top 20 = .ok (.getfield 21, 3) := by decide +kernel
theorem dX7_top_23 : decode cX7_top 23 = .ok (.getfield 86, 3) := by decide +kernel
theorem dX7_top_26 : decode cX7_top 26 = .ok (.iload_n 1, 1) := by decide +kernel
theorem dX7_top_27 : decode cX7_top 27 = .ok (.aaload, 1) := by decide +kernel
theorem dX7_top_28 : decode cX7_top 28 = .ok (.dup, 1) := by decide +kernel
theorem dX7_top_29 : decode cX7_top 29 = .ok (.getfield 97, 3) := by decide +kernel
theorem dX7_top_32 : decode cX7_top 32 = .ok (.iload_n 2, 1) := by decide +kernel
theorem dX7_top_33 : decode cX7_top 33 = .ok (.iadd, 1) := by decide +kernel
theorem dX7_top_34 : decode cX7_top 34 = .ok (.putfield 97, 3) := by decide +kernel
theorem dX7_top_37 : decode cX7_top 37 = .ok (.aload_n 0, 1) := by decide +kernel
theorem dX7_top_38 : decode cX7_top 38 = .ok (.getfield 21, 3) := by decide +kernel
theorem dX7_top_41 : decode cX7_top 41 = .ok (.getfield 86, 3) := by decide +kernel
theorem dX7_top_44 : decode cX7_top 44 = .ok (.iload_n 1, 1) := by decide +kernel
theorem dX7_top_45 : decode cX7_top 45 = .ok (.aaload, 1) := by decide +kernel
theorem dX7_top_46 : decode cX7_top 46 = .ok (.getfield 97, 3) := by decide +kernel
theorem dX7_top_49 : decode cX7_top 49 = .ok (.ireturn, 1) := by decide +kernel
theorem dX7_turn_0 : decode cX7_turn 0 = .ok (.iload_n 1, 1) := by decide +kernel
theorem dX7_turn_1 : decode cX7_turn 1 = .ok (.aload_n 0, 1) := by decide +kernel
theorem dX7_turn_2 : decode cX7_turn 2 = .ok (.getfield 21, 3) := by decide +kernel
theorem dX7_turn_5 : decode cX7_turn 5 = .ok (.getfield 81, 3) := by decide +kernel
theorem dX7_turn_8 : decode cX7_turn 8 = .ok (.invokestatic 103, 3) := by decide +kernel
theorem dX7_turn_11 : decode cX7_turn 11 = .ok (.aload_n 0, 1) := by decide +kernel
theorem dX7_turn_12 : decode cX7_turn 12 = .ok (.getfield 21, 3) := by decide +kernel
theorem dX7_turn_15 : decode cX7_turn 15 = .ok (.getfield 86, 3) := by decide +kernel
theorem dX7_turn_18 : decode cX7_turn 18 = .ok (.iload_n 1, 1) := by decide +kernel
theorem dX7_turn_19 : decode cX7_turn 19 = .ok (.aaload, 1) := by decide +kernel
theorem dX7_turn_20 : decode cX7_turn 20 = .ok (.getfield 100, 3) := by decide +kernel
theorem dX7_turn_23 : decode cX7_turn 23 = .ok (.istore_n 3, 1) := by decide +kernel
theorem dX7_turn_24 : decode cX7_turn 24 = .ok (.iload_n 3, 1) := by decide +kernel
theorem dX7_turn_25 : decode cX7_turn 25 = .ok (.ifCond .eq 23, 3) := by decide +kernel
theorem dX7_turn_28 : decode cX7_turn 28 = .ok (.iload_n 2, 1) := by decide +kernel
theorem dX7_turn_29 : decode cX7_turn 29 = .ok (.ifCond .ne 19, 3) := by decide +kernel
theorem dX7_turn_32 : decode cX7_turn 32 = .ok (.aload_n 0, 1) := by decide +kernel
theorem dX7_turn_33 : decode cX7_turn 33 = .ok (.getfield 21, 3) := by decide +kernel
theorem dX7_turn_36 : decode cX7_turn 36 = .ok (.aload_n 0, 1) := by decide +kernel
theorem dX7_turn_37 : decode cX7_turn 37 = .ok (.getfield 21, 3) := by decide +kernel
theorem dX7_turn_40 : decode cX7_turn 40 = .ok (.getfield 86, 3) := by decide +kernel
theorem dX7_turn_43 : decode cX7_turn 43 = .ok (.iload_n 1, 1) := by decide +kernel
theorem dX7_turn_44 : decode cX7_turn 44 = .ok (.aaload, 1) := by decide +kernel
theorem dX7_turn_45 : decode cX7_turn 45 = .ok (.invokevirtual 107, 3) := by decide +kernel
theorem dX7_turn_48 : decode cX7_turn 48 = .ok (.aload_n 0, 1) := by decide +kernel
theorem dX7_turn_49 : decode cX7_turn 49 = .ok (.getfield 21, 3) := by decide +kernel
theorem dX7_turn_52 : decode cX7_turn 52 = .ok (.getfield 86, 3) := by decide +kernel
theorem dX7_turn_55 : decode cX7_turn 55 = .ok (.iload_n 1, 1) := by decide +kernel
theorem dX7_turn_56 : decode cX7_turn 56 = .ok (.aaload, 1) := by decide +kernel
theorem dX7_turn_57 : decode cX7_turn 57 = .ok (.iload_n 2, 1) := by decide +kernel
theorem dX7_turn_58 : decode cX7_turn 58 = .ok (.putfield 100, 3) := by decide +kernel
theorem dX7_turn_61 : decode cX7_turn 61 = .ok (.iload_n 3, 1) := by decide +kernel
theorem dX7_turn_62 : decode cX7_turn 62 = .ok (.ireturn, 1) := by decide +kernel
theorem dX7_wake_0 : decode cX7_wake 0 = .ok (.iload_n 1, 1) := by decide +kernel
theorem dX7_wake_1 : decode cX7_wake 1 = .ok (.aload_n 0, 1) := by decide +kernel
theorem dX7_wake_2 : decode cX7_wake 2 = .ok (.getfield 10, 3) := by decide +kernel
theorem dX7_wake_5 : decode cX7_wake 5 = .ok (.getfield 39, 3) := by decide +kernel
theorem dX7_wake_8 : decode cX7_wake 8 = .ok (.invokestatic 103, 3) := by decide +kernel
theorem dX7_wake_11 : decode cX7_wake 11 = .ok (.iload_n 2, 1) := by decide +kernel
theorem dX7_wake_12 : decode cX7_wake 12 = .ok (.ifCond .ne 17, 3) := by decide +kernel
theorem dX7_wake_15 : decode cX7_wake 15 = .ok (.aload_n 0, 1) := by decide +kernel
theorem dX7_wake_16 : decode cX7_wake 16 = .ok (.getfield 21, 3) := by decide +kernel
theorem dX7_wake_19 : decode cX7_wake 19 = .ok (.getfield 111, 3) := by decide +kernel
theorem dX7_wake_22 : decode cX7_wake 22 = .ok (.iload_n 1, 1) := by decide +kernel
theorem dX7_wake_23 : decode cX7_wake 23 = .ok (.iaload, 1) := by decide +kernel
theorem dX7_wake_24 : decode cX7_wake 24 = .ok (.ifCond .le 5, 3) := by decide +kernel
theorem dX7_wake_27 : decode cX7_wake 27 = .ok (.iconst 0, 1) := by decide +kernel
theorem dX7_wake_28 : decode cX7_wake 28 = .ok (.ireturn, 1) := by decide +kernel
theorem dX7_wake_29 : decode cX7_wake 29 = .ok (.iload_n 2, 1) := by decide +kernel
theorem dX7_wake_30 : decode cX7_wake 30 = .ok (.ifCond .ne 11, 3) := by decide +kernel
theorem dX7_wake_33 : decode cX7_wake 33 = .ok (.aload_n 0, 1) := by decide +kernel
theorem dX7_wake_34 : decode cX7_wake 34 = .ok (.getfield 21, 3) := by decide +kernel
theorem dX7_wake_37 : decode cX7_wake 37 = .ok (.iload_n 1, 1) := by decide +kernel
theorem dX7_wake_38 : decode cX7_wake 38 = .ok (.invokevirtual 115, 3) := by decide +kernel
theorem dX7_wake_41 : decode cX7_wake 41 = .ok (.aload_n 0, 1) := by decide +kernel
theorem dX7_wake_42 : decode cX7_wake 42 = .ok (.getfield 10, 3) := by decide +kernel
theorem dX7_wake_45 : decode cX7_wake 45 = .ok (.getfield 50, 3) := by decide +kernel
theorem dX7_wake_48 : decode cX7_wake 48 = .ok (.iload_n 1, 1) := by decide +kernel
theorem dX7_wake_49 : decode cX7_wake 49 = .ok (.aaload, 1) := by decide +kernel
theorem dX7_wake_50 : decode cX7_wake 50 = .ok (.iload_n 2, 1) := by decide +kernel
theorem dX7_wake_51 : decode cX7_wake 51 = .ok (.putfield 74, 3) := by decide +kernel
theorem dX7_wake_54 : decode cX7_wake 54 = .ok (.aload_n 0, 1) := by decide +kernel
theorem dX7_wake_55 : decode cX7_wake 55 = .ok (.getfield 10, 3) := by decide +kernel
theorem dX7_wake_58 : decode cX7_wake 58 = .ok (.invokevirtual 78, 3) := by decide +kernel
theorem dX7_wake_61 : decode cX7_wake 61 = .ok (.iconst 1, 1) := by decide +kernel
theorem dX7_wake_62 : decode cX7_wake 62 = .ok (.ireturn, 1) := by decide +kernel
theorem dX7_call_0 : decode cX7_call 0 = .ok (.iload_n 1, 1) := by decide +kernel
theorem dX7_call_1 : decode cX7_call 1 = .ok (.aload_n 0, 1) := by decide +kernel
theorem dX7_call_2 : decode cX7_call 2 = .ok (.getfield 21, 3) := by decide +kernel
theorem dX7_call_5 : decode cX7_call 5 = .ok (.getfield 81, 3) := by decide +kernel
theorem dX7_call_8 : decode cX7_call 8 = .ok (.invokestatic 103, 3) := by decide +kernel
theorem dX7_call_11 : decode cX7_call 11 = .ok (.iload_n 2, 1) := by decide +kernel
theorem dX7_call_12 : decode cX7_call 12 = .ok (.aload_n 0, 1) := by decide +kernel
theorem dX7_call_13 : decode cX7_call 13 = .ok (.getfield 21, 3) := by decide +kernel
theorem dX7_call_16 : decode cX7_call 16 = .ok (.getfield 81, 3) := by decide +kernel
theorem dX7_call_19 : decode cX7_call 19 = .ok (.invokestatic 103, 3) := by decide +kernel
theorem dX7_call_22 : decode cX7_call 22 = .ok (.iload_n 1, 1) := by decide +kernel
theorem dX7_call_23 : decode cX7_call 23 = .ok (.iload_n 2, 1) := by decide +kernel
theorem dX7_call_24 : decode cX7_call 24 = .ok (.invokestatic 119, 3) := by decide +kernel
theorem dX7_call_27 : decode cX7_call 27 = .ok (.aload_n 0, 1) := by decide +kernel
theorem dX7_call_28 : decode cX7_call 28 = .ok (.invokevirtual 122, 3) := by decide +kernel
theorem dX7_call_31 : decode cX7_call 31 = .ok (.aload_n 0, 1) := by decide +kernel
theorem dX7_call_32 : decode cX7_call 32 = .ok (.getfield 21, 3) := by decide +kernel
theorem dX7_call_35 : decode cX7_call 35 = .ok (.iload_n 1, 1) := by decide +kernel
theorem dX7_call_36 : decode cX7_call 36 = .ok (.iload_n 2, 1) := by decide +kernel
theorem dX7_call_37 : decode cX7_call 37 = .ok (.invokevirtual 125, 3) := by decide +kernel
theorem dX7_call_40 : decode cX7_call 40 = .ok (.ireturn, 1) := by decide +kernel
theorem dX7_emergency_0 : decode cX7_emergency 0 = .ok (.iload_n 1, 1) := by decide +kernel
theorem dX7_emergency_1 : decode cX7_emergency 1 = .ok (.aload_n 0, 1) := by decide +kernel
theorem dX7_emergency_2 : decode cX7_emergency 2 = .ok (.getfield 21, 3) := by decide +kernel
theorem dX7_emergency_5 : decode cX7_emergency 5 = .ok (.getfield 81, 3) := by decide +kernel
theorem dX7_emergency_8 : decode cX7_emergency 8 = .ok (.invokestatic 103, 3) := by decide +kernel
theorem dX7_emergency_11 : decode cX7_emergency 11 = .ok (.aload_n 0, 1) := by decide +kernel
theorem dX7_emergency_12 : decode cX7_emergency 12 = .ok (.invokevirtual 122, 3) := by decide +kernel
theorem dX7_emergency_15 : decode cX7_emergency 15 = .ok (.aload_n 0, 1) := by decide +kernel
theorem dX7_emergency_16 : decode cX7_emergency 16 = .ok (.getfield 21, 3) := by decide +kernel
theorem dX7_emergency_19 : decode cX7_emergency 19 = .ok (.iload_n 1, 1) := by decide +kernel
theorem dX7_emergency_20 : decode cX7_emergency 20 = .ok (.invokevirtual 129, 3) := by decide +kernel
theorem dX7_emergency_23 : decode cX7_emergency 23 = .ok (.ireturn, 1) := by decide +kernel
theorem dX7_hang_0 : decode cX7_hang 0 = .ok (.iload_n 1, 1) := by decide +kernel
theorem dX7_hang_1 : decode cX7_hang 1 = .ok (.aload_n 0, 1) := by decide +kernel
theorem dX7_hang_2 : decode cX7_hang 2 = .ok (.getfield 21, 3) := by decide +kernel
theorem dX7_hang_5 : decode cX7_hang 5 = .ok (.getfield 133, 3) := by decide +kernel
theorem dX7_hang_8 : decode cX7_hang 8 = .ok (.invokestatic 103, 3) := by decide +kernel
theorem dX7_hang_11 : decode cX7_hang 11 = .ok (.aload_n 0, 1) := by decide +kernel
theorem dX7_hang_12 : decode cX7_hang 12 = .ok (.getfield 21, 3) := by decide +kernel
theorem dX7_hang_15 : decode cX7_hang 15 = .ok (.getfield 136, 3) := by decide +kernel
theorem dX7_hang_18 : decode cX7_hang 18 = .ok (.iload_n 1, 1) := by decide +kernel
theorem dX7_hang_19 : decode cX7_hang 19 = .ok (.aaload, 1) := by decide +kernel
theorem dX7_hang_20 : decode cX7_hang 20 = .ok (.astore_n 2, 1) := by decide +kernel
theorem dX7_hang_21 : decode cX7_hang 21 = .ok (.aload_n 2, 1) := by decide +kernel
theorem dX7_hang_22 : decode cX7_hang 22 = .ok (.getfield 140, 3) := by decide +kernel
theorem dX7_hang_25 : decode cX7_hang 25 = .ok (.ifCond .eq 13, 3) := by decide +kernel
theorem dX7_hang_28 : decode cX7_hang 28 = .ok (.new 43, 3) := by decide +kernel
theorem dX7_hang_31 : decode cX7_hang 31 = .ok (.dup, 1) := by decide +kernel
theorem dX7_hang_32 : decode cX7_hang 32 = .ok (.ldc 145, 2) := by decide +kernel
theorem dX7_hang_34 : decode cX7_hang 34 = .ok (.invokespecial 47, 3) := by decide +kernel
theorem dX7_hang_37 : decode cX7_hang 37 = .ok (.athrow, 1) := by decide +kernel
theorem dX7_hang_38 : decode cX7_hang 38 = .ok (.aload_n 0, 1) := by decide +kernel
theorem dX7_hang_39 : decode cX7_hang 39 = .ok (.getfield 21, 3) := by decide +kernel
theorem dX7_hang_42 : decode cX7_hang 42 = .ok (.aload_n 2, 1) := by decide +kernel
theorem dX7_hang_43 : decode cX7_hang 43 = .ok (.iconst 1, 1) := by decide +kernel
theorem dX7_hang_44 : decode cX7_hang 44 = .ok (.invokevirtual 147, 3) := by decide +kernel
theorem dX7_hang_47 : decode cX7_hang 47 = .ok (.aload_n 2, 1) := by decide +kernel
theorem dX7_hang_48 : decode cX7_hang 48 = .ok (.getfield 151, 3) := by decide +kernel
theorem dX7_hang_51 : decode cX7_hang 51 = .ok (.ireturn, 1) := by decide +kernel
theorem dX7_text_0 : decode cX7_text 0 = .ok (.iload_n 1, 1) := by decide +kernel
theorem dX7_text_1 : decode cX7_text 1 = .ok (.aload_n 0, 1) := by decide +kernel
theorem dX7_text_2 : decode cX7_text 2 = .ok (.getfield 21, 3) := by decide +kernel
theorem dX7_text_5 : decode cX7_text 5 = .ok (.getfield 81, 3) := by decide +kernel
theorem dX7_text_8 : decode cX7_text 8 = .ok (.invokestatic 103, 3) := by decide +kernel
theorem dX7_text_11 : decode cX7_text 11 = .ok (.iload_n 2, 1) := by decide +kernel
theorem dX7_text_12 : decode cX7_text 12 = .ok (.aload_n 0, 1) := by decide +kernel
theorem dX7_text_13 : decode cX7_text 13 = .ok (.getfield 21, 3) := by decide +kernel
theorem dX7_text_16 : decode cX7_text 16 = .ok (.getfield 81, 3) := by decide +kernel
theorem dX7_text_19 : decode cX7_text 19 = .ok (.invokestatic 103, 3) := by decide +kernel
theorem dX7_text_22 : decode cX7_text 22 = .ok (.iload_n 1, 1) := by decide +kernel
theorem dX7_text_23 : decode cX7_text 23 = .ok (.iload_n 2, 1) := by decide +kernel
theorem dX7_text_24 : decode cX7_text 24 = .ok (.invokestatic 119, 3) := by decide +kernel
theorem dX7_text_27 : decode cX7_text 27 = .ok (.aload_n 0, 1) := by decide +kernel
theorem dX7_text_28 : decode cX7_text 28 = .ok (.getfield 21, 3) := by decide +kernel
theorem dX7_text_31 : decode cX7_text 31 = .ok (.getfield 154, 3) := by decide +kernel
theorem dX7_text_34 : decode cX7_text 34 = .ok (.bipush 24, 2) := by decide +kernel
theorem dX7_text_36 : decode cX7_text 36 = .ok (.if_icmp .lt 13, 3) := by decide +kernel
theorem dX7_text_39 : decode cX7_text 39 = .ok (.new 43, 3) := by decide +kernel
theorem dX7_text_42 : decode cX7_text 42 = .ok (.dup, 1) := by decide +kernel
theorem dX7_text_43 : decode cX7_text 43 = .ok (.ldc 157, 2) := by decide +kernel
theorem dX7_text_45 : decode cX7_text 45 = .ok (.invokespecial 47, 3) := by decide +kernel
theorem dX7_text_48 : decode cX7_text 48 = .ok (.athrow, 1) := by decide +kernel
theorem dX7_text_49 : decode cX7_text 49 = .ok (.aload_n 0, 1) := by decide +kernel
theorem dX7_text_50 : decode cX7_text 50 = .ok (.getfield 21, 3) := by decide +kernel
theorem dX7_text_53 : decode cX7_text 53 = .ok (.dup, 1) := by decide +kernel
theorem dX7_text_54 : decode cX7_text 54 = .ok (.getfield 154, 3) := by decide +kernel
theorem dX7_text_57 : decode cX7_text 57 = .ok (.iconst 1, 1) := by decide +kernel
theorem dX7_text_58 : decode cX7_text 58 = .ok (.iadd, 1) := by decide +kernel
theorem dX7_text_59 : decode cX7_text 59 = .ok (.putfield 154, 3) := by decide +kernel
theorem dX7_text_62 : decode cX7_text 62 = .ok (.aload_n 0, 1) := by decide +kernel
theorem dX7_text_63 : decode cX7_text 63 = .ok (.getfield 21, 3) := by decide +kernel
theorem dX7_text_66 : decode cX7_text 66 = .ok (.getfield 86, 3) := by decide +kernel
theorem dX7_text_69 : decode cX7_text 69 = .ok (.iload_n 2, 1) := by decide +kernel
theorem dX7_text_70 : decode cX7_text 70 = .ok (.aaload, 1) := by decide +kernel
theorem dX7_text_71 : decode cX7_text 71 = .ok (.dup, 1) := by decide +kernel
theorem dX7_text_72 : decode cX7_text 72 = .ok (.getfield 159, 3) := by decide +kernel
theorem dX7_text_75 : decode cX7_text 75 = .ok (.iconst 1, 1) := by decide +kernel
theorem dX7_text_76 : decode cX7_text 76 = .ok (.iadd, 1) := by decide +kernel
theorem dX7_text_77 : decode cX7_text 77 = .ok (.putfield 159, 3) := by decide +kernel
theorem dX7_text_80 : decode cX7_text 80 = .ok (.aload_n 0, 1) := by decide +kernel
theorem dX7_text_81 : decode cX7_text 81 = .ok (.getfield 21, 3) := by decide +kernel
theorem dX7_text_84 : decode cX7_text 84 = .ok (.getfield 86, 3) := by decide +kernel
theorem dX7_text_87 : decode cX7_text 87 = .ok (.iload_n 2, 1) := by decide +kernel
theorem dX7_text_88 : decode cX7_text 88 = .ok (.aaload, 1) := by decide +kernel
theorem dX7_text_89 : decode cX7_text 89 = .ok (.getfield 159, 3) := by decide +kernel
theorem dX7_text_92 : decode cX7_text 92 = .ok (.ireturn, 1) := by decide +kernel
theorem dX7_forget_0 : decode cX7_forget 0 = .ok (.aload_n 0, 1) := by decide +kernel
theorem dX7_forget_1 : decode cX7_forget 1 = .ok (.getfield 21, 3) := by decide +kernel
theorem dX7_forget_4 : decode cX7_forget 4 = .ok (.invokevirtual 162, 3) := by decide +kernel
theorem dX7_forget_7 : decode cX7_forget 7 = .ok (.ireturn, 1) := by decide +kernel
theorem dX7_pass_0 : decode cX7_pass 0 = .ok (.iload_n 1, 1) := by decide +kernel
theorem dX7_pass_1 : decode cX7_pass 1 = .ok (.iconst 1, 1) := by decide +kernel
theorem dX7_pass_2 : decode cX7_pass 2 = .ok (.bipush 99, 2) := by decide +kernel
theorem dX7_pass_4 : decode cX7_pass 4 = .ok (.invokestatic 35, 3) := by decide +kernel
theorem dX7_pass_7 : decode cX7_pass 7 = .ok (.aload_n 0, 1) := by decide +kernel
theorem dX7_pass_8 : decode cX7_pass 8 = .ok (.getfield 21, 3) := by decide +kernel
theorem dX7_pass_11 : decode cX7_pass 11 = .ok (.iconst 0, 1) := by decide +kernel
theorem dX7_pass_12 : decode cX7_pass 12 = .ok (.invokevirtual 166, 3) := by decide +kernel
theorem dX7_pass_15 : decode cX7_pass 15 = .ok (.istore_n 2, 1) := by decide +kernel
theorem dX7_pass_16 : decode cX7_pass 16 = .ok (.iconst 0, 1) := by decide +kernel
theorem dX7_pass_17 : decode cX7_pass 17 = .ok (.istore_n 3, 1) := by decide +kernel
theorem dX7_pass_18 : decode cX7_pass 18 = .ok (.iload_n 3, 1) := by decide +kernel
theorem dX7_pass_19 : decode cX7_pass 19 = .ok (.iload_n 1, 1) := by decide +kernel
theorem dX7_pass_20 : decode cX7_pass 20 = .ok (.if_icmp .ge 16, 3) := by decide +kernel
theorem dX7_pass_23 : decode cX7_pass 23 = .ok (.aload_n 0, 1) := by decide +kernel
theorem dX7_pass_24 : decode cX7_pass 24 = .ok (.getfield 21, 3) := by decide +kernel
theorem dX7_pass_27 : decode cX7_pass 27 = .ok (.invokevirtual 169, 3) := by decide +kernel
theorem dX7_pass_30 : decode cX7_pass 30 = .ok (.iinc 3 1, 3) := by decide +kernel
theorem dX7_pass_33 : decode cX7_pass 33 = .ok (.goto (-15), 3) := by decide +kernel
theorem dX7_pass_36 : decode cX7_pass 36 = .ok (.iload_n 2, 1) := by decide +kernel
theorem dX7_pass_37 : decode cX7_pass 37 = .ok (.aload_n 0, 1) := by decide +kernel
theorem dX7_pass_38 : decode cX7_pass 38 = .ok (.getfield 21, 3) := by decide +kernel
theorem dX7_pass_41 : decode cX7_pass 41 = .ok (.iconst 0, 1) := by decide +kernel
theorem dX7_pass_42 : decode cX7_pass 42 = .ok (.invokevirtual 166, 3) := by decide +kernel
theorem dX7_pass_45 : decode cX7_pass 45 = .ok (.isub, 1) := by decide +kernel
theorem dX7_pass_46 : decode cX7_pass 46 = .ok (.ireturn, 1) := by decide +kernel
theorem dX7_quality_0 : decode cX7_quality 0 = .ok (.iload_n 1, 1) := by decide +kernel
theorem dX7_quality_1 : decode cX7_quality 1 = .ok (.aload_n 0, 1) := by decide +kernel
theorem dX7_quality_2 : decode cX7_quality 2 = .ok (.getfield 10, 3) := by decide +kernel
theorem dX7_quality_5 : decode cX7_quality 5 = .ok (.getfield 39, 3) := by decide +kernel
theorem dX7_quality_8 : decode cX7_quality 8 = .ok (.invokestatic 103, 3) := by decide +kernel
theorem dX7_quality_11 : decode cX7_quality 11 = .ok (.iload_n 2, 1) := by decide +kernel
theorem dX7_quality_12 : decode cX7_quality 12 = .ok (.iconst 0, 1) := by decide +kernel
theorem dX7_quality_13 : decode cX7_quality 13 = .ok (.bipush 99, 2) := by decide +kernel
theorem dX7_quality_15 : decode cX7_quality 15 = .ok (.invokestatic 35, 3) := by decide +kernel
theorem dX7_quality_18 : decode cX7_quality 18 = .ok (.aload_n 0, 1) := by decide +kernel
theorem dX7_quality_19 : decode cX7_quality 19 = .ok (.getfield 21, 3) := by decide +kernel
theorem dX7_quality_22 : decode cX7_quality 22 = .ok (.iload_n 1, 1) := by decide +kernel
theorem dX7_quality_23 : decode cX7_quality 23 = .ok (.iload_n 2, 1) := by decide +kernel
theorem dX7_quality_24 : decode cX7_quality 24 = .ok (.invokevirtual 172, 3) := by decide +kernel
theorem dX7_quality_27 : decode cX7_quality 27 = .ok (.ireturn, 1) := by decide +kernel
theorem dX7_best_0 : decode cX7_best 0 = .ok (.iload_n 1, 1) := by decide +kernel
theorem dX7_best_1 : decode cX7_best 1 = .ok (.iconst 0, 1) := by decide +kernel
theorem dX7_best_2 : decode cX7_best 2 = .ok (.bipush 99, 2) := by decide +kernel
theorem dX7_best_4 : decode cX7_best 4 = .ok (.invokestatic 35, 3) := by decide +kernel
theorem dX7_best_7 : decode cX7_best 7 = .ok (.aload_n 0, 1) := by decide +kernel
theorem dX7_best_8 : decode cX7_best 8 = .ok (.getfield 21, 3) := by decide +kernel
theorem dX7_best_11 : decode cX7_best 11 = .ok (.iload_n 1, 1) := by decide +kernel
theorem dX7_best_12 : decode cX7_best 12 = .ok (.invokevirtual 175, 3) := by decide +kernel
theorem dX7_best_15 : decode cX7_best 15 = .ok (.ireturn, 1) := by decide +kernel
theorem dX7_ofMast_0 : decode cX7_ofMast 0 = .ok (.iload_n 1, 1) := by decide +kernel
theorem dX7_ofMast_1 : decode cX7_ofMast 1 = .ok (.aload_n 0, 1) := by decide +kernel
theorem dX7_ofMast_2 : decode cX7_ofMast 2 = .ok (.getfield 10, 3) := by decide +kernel
theorem dX7_ofMast_5 : decode cX7_ofMast 5 = .ok (.getfield 39, 3) := by decide +kernel
theorem dX7_ofMast_8 : decode cX7_ofMast 8 = .ok (.invokestatic 103, 3) := by decide +kernel
theorem dX7_ofMast_11 : decode cX7_ofMast 11 = .ok (.iload_n 2, 1) := by decide +kernel
theorem dX7_ofMast_12 : decode cX7_ofMast 12 = .ok (.iconst 0, 1) := by decide +kernel
theorem dX7_ofMast_13 : decode cX7_ofMast 13 = .ok (.bipush 9, 2) := by decide +kernel
theorem dX7_ofMast_15 : decode cX7_ofMast 15 = .ok (.invokestatic 35, 3) := by decide +kernel
theorem dX7_ofMast_18 : decode cX7_ofMast 18 = .ok (.iload_n 2, 1) := by decide +kernel
theorem dX7_ofMast_19 : decode cX7_ofMast 19 = .ok (.tableswitch 54 7 9 #[25, 35, 44], 25) := by decide +kernel
theorem dX7_ofMast_44 : decode cX7_ofMast 44 = .ok (.aload_n 0, 1) := by decide +kernel
theorem dX7_ofMast_45 : decode cX7_ofMast 45 = .ok (.getfield 21, 3) := by decide +kernel
theorem dX7_ofMast_48 : decode cX7_ofMast 48 = .ok (.getfield 111, 3) := by decide +kernel
theorem dX7_ofMast_51 : decode cX7_ofMast 51 = .ok (.iload_n 1, 1) := by decide +kernel
theorem dX7_ofMast_52 : decode cX7_ofMast 52 = .ok (.iaload, 1) := by decide +kernel
theorem dX7_ofMast_53 : decode cX7_ofMast 53 = .ok (.ireturn, 1) := by decide +kernel
theorem dX7_ofMast_54 : decode cX7_ofMast 54 = .ok (.aload_n 0, 1) := by decide +kernel
theorem dX7_ofMast_55 : decode cX7_ofMast 55 = .ok (.getfield 21, 3) := by decide +kernel
theorem dX7_ofMast_58 : decode cX7_ofMast 58 = .ok (.iload_n 1, 1) := by decide +kernel
theorem dX7_ofMast_59 : decode cX7_ofMast 59 = .ok (.invokevirtual 178, 3) := by decide +kernel
theorem dX7_ofMast_62 : decode cX7_ofMast 62 = .ok (.ireturn, 1) := by decide +kernel
theorem dX7_ofMast_63 : decode cX7_ofMast 63 = .ok (.aload_n 0, 1) := by decide +kernel
theorem dX7_ofMast_64 : decode cX7_ofMast 64 = .ok (.getfield 21, 3) := by decide +kernel
theorem dX7_ofMast_67 : decode cX7_ofMast 67 = .ok (.getfield 181, 3) := by decide +kernel
theorem dX7_ofMast_70 : decode cX7_ofMast 70 = .ok (.iload_n 1, 1) := by decide +kernel
theorem dX7_ofMast_71 : decode cX7_ofMast 71 = .ok (.iaload, 1) := by decide +kernel
theorem dX7_ofMast_72 : decode cX7_ofMast 72 = .ok (.ireturn, 1) := by decide +kernel
theorem dX7_ofMast_73 : decode cX7_ofMast 73 = .ok (.aload_n 0, 1) := by decide +kernel
theorem dX7_ofMast_74 : decode cX7_ofMast 74 = .ok (.getfield 10, 3) := by decide +kernel
theorem dX7_ofMast_77 : decode cX7_ofMast 77 = .ok (.getfield 50, 3) := by decide +kernel
theorem dX7_ofMast_80 : decode cX7_ofMast 80 = .ok (.iload_n 1, 1) := by decide +kernel
theorem dX7_ofMast_81 : decode cX7_ofMast 81 = .ok (.aaload, 1) := by decide +kernel
theorem dX7_ofMast_82 : decode cX7_ofMast 82 = .ok (.iload_n 2, 1) := by decide +kernel
theorem dX7_ofMast_83 : decode cX7_ofMast 83 = .ok (.invokevirtual 184, 3) := by decide +kernel
theorem dX7_ofMast_86 : decode cX7_ofMast 86 = .ok (.ireturn, 1) := by decide +kernel
theorem dX7_ofHandset_0 : decode cX7_ofHandset 0 = .ok (.iload_n 1, 1) := by decide +kernel
theorem dX7_ofHandset_1 : decode cX7_ofHandset 1 = .ok (.aload_n 0, 1) := by decide +kernel
theorem dX7_ofHandset_2 : decode cX7_ofHandset 2 = .ok (.getfield 21, 3) := by decide +kernel
theorem dX7_ofHandset_5 : decode cX7_ofHandset 5 = .ok (.getfield 81, 3) := by decide +kernel
theorem dX7_ofHandset_8 : decode cX7_ofHandset 8 = .ok (.invokestatic 103, 3) := by decide +kernel
theorem dX7_ofHandset_11 : decode cX7_ofHandset 11 = .ok (.iload_n 2, 1) := by decide +kernel
theorem dX7_ofHandset_12 : decode cX7_ofHandset 12 = .ok (.iconst 0, 1) := by decide +kernel
theorem dX7_ofHandset_13 : decode cX7_ofHandset 13 = .ok (.bipush 10, 2) := by decide +kernel
theorem dX7_ofHandset_15 : decode cX7_ofHandset 15 = .ok (.invokestatic 35, 3) := by decide +kernel
theorem dX7_ofHandset_18 : decode cX7_ofHandset 18 = .ok (.aload_n 0, 1) := by decide +kernel
theorem dX7_ofHandset_19 : decode cX7_ofHandset 19 = .ok (.getfield 21, 3) := by decide +kernel
theorem dX7_ofHandset_22 : decode cX7_ofHandset 22 = .ok (.getfield 86, 3) := by decide +kernel
theorem dX7_ofHandset_25 : decode cX7_ofHandset 25 = .ok (.iload_n 1, 1) := by decide +kernel
theorem dX7_ofHandset_26 : decode cX7_ofHandset 26 = .ok (.aaload, 1) := by decide +kernel
theorem dX7_ofHandset_27 : decode cX7_ofHandset 27 = .ok (.iload_n 2, 1) := by decide +kernel
theorem dX7_ofHandset_28 : decode cX7_ofHandset 28 = .ok (.invokevirtual 187, 3) := by decide +kernel
theorem dX7_ofHandset_31 : decode cX7_ofHandset 31 = .ok (.ireturn, 1) := by decide +kernel
theorem dX7_ofCall_0 : decode cX7_ofCall 0 = .ok (.iload_n 1, 1) := by decide +kernel
theorem dX7_ofCall_1 : decode cX7_ofCall 1 = .ok (.aload_n 0, 1) := by decide +kernel
theorem dX7_ofCall_2 : decode cX7_ofCall 2 = .ok (.getfield 21, 3) := by decide +kernel
theorem dX7_ofCall_5 : decode cX7_ofCall 5 = .ok (.getfield 133, 3) := by decide +kernel
theorem dX7_ofCall_8 : decode cX7_ofCall 8 = .ok (.invokestatic 103, 3) := by decide +kernel
theorem dX7_ofCall_11 : decode cX7_ofCall 11 = .ok (.iload_n 2, 1) := by decide +kernel
theorem dX7_ofCall_12 : decode cX7_ofCall 12 = .ok (.iconst 0, 1) := by decide +kernel
theorem dX7_ofCall_13 : decode cX7_ofCall 13 = .ok (.bipush 8, 2) := by decide +kernel
theorem dX7_ofCall_15 : decode cX7_ofCall 15 = .ok (.invokestatic 35, 3) := by decide +kernel
theorem dX7_ofCall_18 : decode cX7_ofCall 18 = .ok (.aload_n 0, 1) := by decide +kernel
theorem dX7_ofCall_19 : decode cX7_ofCall 19 = .ok (.getfield 21, 3) := by decide +kernel
theorem dX7_ofCall_22 : decode cX7_ofCall 22 = .ok (.getfield 136, 3) := by decide +kernel
theorem dX7_ofCall_25 : decode cX7_ofCall 25 = .ok (.iload_n 1, 1) := by decide +kernel
theorem dX7_ofCall_26 : decode cX7_ofCall 26 = .ok (.aaload, 1) := by decide +kernel
theorem dX7_ofCall_27 : decode cX7_ofCall 27 = .ok (.iload_n 2, 1) := by decide +kernel
theorem dX7_ofCall_28 : decode cX7_ofCall 28 = .ok (.invokevirtual 188, 3) := by decide +kernel
theorem dX7_ofCall_31 : decode cX7_ofCall 31 = .ok (.ireturn, 1) := by decide +kernel
theorem dX7_many_0 : decode cX7_many 0 = .ok (.iload_n 1, 1) := by decide +kernel
theorem dX7_many_1 : decode cX7_many 1 = .ok (.iconst 0, 1) := by decide +kernel
theorem dX7_many_2 : decode cX7_many 2 = .ok (.bipush 14, 2) := by decide +kernel
theorem dX7_many_4 : decode cX7_many 4 = .ok (.invokestatic 35, 3) := by decide +kernel
theorem dX7_many_7 : decode cX7_many 7 = .ok (.iload_n 1, 1) := by decide +kernel
theorem dX7_many_8 : decode cX7_many 8 = .ok (.tableswitch 193 0 13 #[72, 80, 88, 96, 104, 113, 122, 131, 140, 148, 156, 166, 176, 185], 72) := by decide +kernel
theorem dX7_many_80 : decode cX7_many 80 = .ok (.aload_n 0, 1) := by decide +kernel
theorem dX7_many_81 : decode cX7_many 81 = .ok (.getfield 21, 3) := by decide +kernel
theorem dX7_many_84 : decode cX7_many 84 = .ok (.getfield 189, 3) := by decide +kernel
theorem dX7_many_87 : decode cX7_many 87 = .ok (.ireturn, 1) := by decide +kernel
theorem dX7_many_88 : decode cX7_many 88 = .ok (.aload_n 0, 1) := by decide +kernel
theorem dX7_many_89 : decode cX7_many 89 = .ok (.getfield 10, 3) := by decide +kernel
theorem dX7_many_92 : decode cX7_many 92 = .ok (.getfield 39, 3) := by decide +kernel
theorem dX7_many_95 : decode cX7_many 95 = .ok (.ireturn, 1) := by decide +kernel
theorem dX7_many_96 : decode cX7_many 96 = .ok (.aload_n 0, 1) := by decide +kernel
theorem dX7_many_97 : decode cX7_many 97 = .ok (.getfield 21, 3) := by decide +kernel
theorem dX7_many_100 : decode cX7_many 100 = .ok (.getfield 81, 3) := by decide +kernel
theorem dX7_many_103 : decode cX7_many 103 = .ok (.ireturn, 1) := by decide +kernel
theorem dX7_many_104 : decode cX7_many 104 = .ok (.aload_n 0, 1) := by decide +kernel
theorem dX7_many_105 : decode cX7_many 105 = .ok (.getfield 21, 3) := by decide +kernel
theorem dX7_many_108 : decode cX7_many 108 = .ok (.getfield 133, 3) := by decide +kernel
theorem dX7_many_111 : decode cX7_many 111 = .ok (.ireturn, 1) := by decide +kernel
theorem dX7_many_112 : decode cX7_many 112 = .ok (.aload_n 0, 1) := by decide +kernel
theorem dX7_many_113 : decode cX7_many 113 = .ok (.getfield 21, 3) := by decide +kernel
theorem dX7_many_116 : decode cX7_many 116 = .ok (.iconst 0, 1) := by decide +kernel
theorem dX7_many_117 : decode cX7_many 117 = .ok (.invokevirtual 166, 3) := by decide +kernel
theorem dX7_many_120 : decode cX7_many 120 = .ok (.ireturn, 1) := by decide +kernel
theorem dX7_many_121 : decode cX7_many 121 = .ok (.aload_n 0, 1) := by decide +kernel
theorem dX7_many_122 : decode cX7_many 122 = .ok (.getfield 21, 3) := by decide +kernel
theorem dX7_many_125 : decode cX7_many 125 = .ok (.iconst 2, 1) := by decide +kernel
theorem dX7_many_126 : decode cX7_many 126 = .ok (.invokevirtual 166, 3) := by decide +kernel
theorem dX7_many_129 : decode cX7_many 129 = .ok (.ireturn, 1) := by decide +kernel
theorem dX7_many_130 : decode cX7_many 130 = .ok (.aload_n 0, 1) := by decide +kernel
theorem dX7_many_131 : decode cX7_many 131 = .ok (.getfield 21, 3) := by decide +kernel
theorem dX7_many_134 : decode cX7_many 134 = .ok (.iconst 4, 1) := by decide +kernel
theorem dX7_many_135 : decode cX7_many 135 = .ok (.invokevirtual 192, 3) := by decide +kernel
theorem dX7_many_138 : decode cX7_many 138 = .ok (.ireturn, 1) := by decide +kernel
theorem dX7_many_139 : decode cX7_many 139 = .ok (.aload_n 0, 1) := by decide +kernel
theorem dX7_many_140 : decode cX7_many 140 = .ok (.getfield 21, 3) := by decide +kernel
theorem dX7_many_143 : decode cX7_many 143 = .ok (.iconst 5, 1) := by decide +kernel
theorem dX7_many_144 : decode cX7_many 144 = .ok (.invokevirtual 192, 3) := by decide +kernel
theorem dX7_many_147 : decode cX7_many 147 = .ok (.ireturn, 1) := by decide +kernel
theorem dX7_many_148 : decode cX7_many 148 = .ok (.aload_n 0, 1) := by decide +kernel
theorem dX7_many_149 : decode cX7_many 149 = .ok (.getfield 21, 3) := by decide +kernel
theorem dX7_many_152 : decode cX7_many 152 = .ok (.getfield 195, 3) := by decide +kernel
theorem dX7_many_155 : decode cX7_many 155 = .ok (.ireturn, 1) := by decide +kernel
theorem dX7_many_156 : decode cX7_many 156 = .ok (.aload_n 0, 1) := by decide +kernel
theorem dX7_many_157 : decode cX7_many 157 = .ok (.getfield 21, 3) := by decide +kernel
theorem dX7_many_160 : decode cX7_many 160 = .ok (.getfield 154, 3) := by decide +kernel
theorem dX7_many_163 : decode cX7_many 163 = .ok (.ireturn, 1) := by decide +kernel
theorem dX7_many_164 : decode cX7_many 164 = .ok (.aload_n 0, 1) := by decide +kernel
theorem dX7_many_165 : decode cX7_many 165 = .ok (.getfield 21, 3) := by decide +kernel
theorem dX7_many_168 : decode cX7_many 168 = .ok (.bipush 10, 2) := by decide +kernel
theorem dX7_many_170 : decode cX7_many 170 = .ok (.invokevirtual 198, 3) := by decide +kernel
theorem dX7_many_173 : decode cX7_many 173 = .ok (.ireturn, 1) := by decide +kernel
theorem dX7_many_174 : decode cX7_many 174 = .ok (.aload_n 0, 1) := by decide +kernel
theorem dX7_many_175 : decode cX7_many 175 = .ok (.getfield 21, 3) := by decide +kernel
theorem dX7_many_178 : decode cX7_many 178 = .ok (.bipush 8, 2) := by decide +kernel
theorem dX7_many_180 : decode cX7_many 180 = .ok (.invokevirtual 198, 3) := by decide +kernel
theorem dX7_many_183 : decode cX7_many 183 = .ok (.ireturn, 1) := by decide +kernel
theorem dX7_many_184 : decode cX7_many 184 = .ok (.aload_n 0, 1) := by decide +kernel
theorem dX7_many_185 : decode cX7_many 185 = .ok (.getfield 21, 3) := by decide +kernel
theorem dX7_many_188 : decode cX7_many 188 = .ok (.iconst 3, 1) := by decide +kernel
theorem dX7_many_189 : decode cX7_many 189 = .ok (.invokevirtual 192, 3) := by decide +kernel
theorem dX7_many_192 : decode cX7_many 192 = .ok (.ireturn, 1) := by decide +kernel
theorem dX7_many_193 : decode cX7_many 193 = .ok (.aload_n 0, 1) := by decide +kernel
theorem dX7_many_194 : decode cX7_many 194 = .ok (.getfield 21, 3) := by decide +kernel
theorem dX7_many_197 : decode cX7_many 197 = .ok (.invokevirtual 201, 3) := by decide +kernel
theorem dX7_many_200 : decode cX7_many 200 = .ok (.ireturn, 1) := by decide +kernel
theorem dX7_many_201 : decode cX7_many 201 = .ok (.aload_n 0, 1) := by decide +kernel
theorem dX7_many_202 : decode cX7_many 202 = .ok (.getfield 21, 3) := by decide +kernel
theorem dX7_many_205 : decode cX7_many 205 = .ok (.invokevirtual 204, 3) := by decide +kernel
theorem dX7_many_208 : decode cX7_many 208 = .ok (.ireturn, 1) := by decide +kernel
theorem dX7_meanSeconds_0 : decode cX7_meanSeconds 0 = .ok (.aload_n 0, 1) := by decide +kernel
theorem dX7_meanSeconds_1 : decode cX7_meanSeconds 1 = .ok (.getfield 21, 3) := by decide +kernel
theorem dX7_meanSeconds_4 : decode cX7_meanSeconds 4 = .ok (.getfield 133, 3) := by decide +kernel
theorem dX7_meanSeconds_7 : decode cX7_meanSeconds 7 = .ok (.aload_n 0, 1) := by decide +kernel
theorem dX7_meanSeconds_8 : decode cX7_meanSeconds 8 = .ok (.getfield 21, 3) := by decide +kernel
theorem dX7_meanSeconds_11 : decode cX7_meanSeconds 11 = .ok (.iconst 0, 1) := by decide +kernel
theorem dX7_meanSeconds_12 : decode cX7_meanSeconds 12 = .ok (.invokevirtual 166, 3) := by decide +kernel
theorem dX7_meanSeconds_15 : decode cX7_meanSeconds 15 = .ok (.isub, 1) := by decide +kernel
theorem dX7_meanSeconds_16 : decode cX7_meanSeconds 16 = .ok (.istore_n 1, 1) := by decide +kernel
theorem dX7_meanSeconds_17 : decode cX7_meanSeconds 17 = .ok (.iload_n 1, 1) := by decide +kernel
theorem dX7_meanSeconds_18 : decode cX7_meanSeconds 18 = .ok (.ifCond .gt 5, 3) := by decide +kernel
theorem dX7_meanSeconds_21 : decode cX7_meanSeconds 21 = .ok (.dconst 0, 1) := by decide +kernel
theorem dX7_meanSeconds_22 : decode cX7_meanSeconds 22 = .ok (.dreturn, 1) := by decide +kernel
theorem dX7_meanSeconds_23 : decode cX7_meanSeconds 23 = .ok (.aload_n 0, 1) := by decide +kernel
theorem dX7_meanSeconds_24 : decode cX7_meanSeconds 24 = .ok (.getfield 21, 3) := by decide +kernel
theorem dX7_meanSeconds_27 : decode cX7_meanSeconds 27 = .ok (.invokevirtual 207, 3) := by decide +kernel
theorem dX7_meanSeconds_30 : decode cX7_meanSeconds 30 = .ok (.i2d, 1) := by decide +kernel
theorem dX7_meanSeconds_31 : decode cX7_meanSeconds 31 = .ok (.iload_n 1, 1) := by decide +kernel
theorem dX7_meanSeconds_32 : decode cX7_meanSeconds 32 = .ok (.i2d, 1) := by decide +kernel
theorem dX7_meanSeconds_33 : decode cX7_meanSeconds 33 = .ok (.ddiv, 1) := by decide +kernel
theorem dX7_meanSeconds_34 : decode cX7_meanSeconds 34 = .ok (.dreturn, 1) := by decide +kernel
theorem dX7_endsIn_0 : decode cX7_endsIn 0 = .ok (.iload_n 1, 1) := by decide +kernel
theorem dX7_endsIn_1 : decode cX7_endsIn 1 = .ok (.aload_n 0, 1) := by decide +kernel
theorem dX7_endsIn_2 : decode cX7_endsIn 2 = .ok (.getfield 21, 3) := by decide +kernel
theorem dX7_endsIn_5 : decode cX7_endsIn 5 = .ok (.getfield 133, 3) := by decide +kernel
theorem dX7_endsIn_8 : decode cX7_endsIn 8 = .ok (.invokestatic 103, 3) := by decide +kernel
theorem dX7_endsIn_11 : decode cX7_endsIn 11 = .ok (.iload_n 2, 1) := by decide +kernel
theorem dX7_endsIn_12 : decode cX7_endsIn 12 = .ok (.iconst 1, 1) := by decide +kernel
theorem dX7_endsIn_13 : decode cX7_endsIn 13 = .ok (.bipush 99, 2) := by decide +kernel
theorem dX7_endsIn_15 : decode cX7_endsIn 15 = .ok (.invokestatic 35, 3) := by decide +kernel
theorem dX7_endsIn_18 : decode cX7_endsIn 18 = .ok (.aload_n 0, 1) := by decide +kernel
theorem dX7_endsIn_19 : decode cX7_endsIn 19 = .ok (.getfield 21, 3) := by decide +kernel
theorem dX7_endsIn_22 : decode cX7_endsIn 22 = .ok (.getfield 136, 3) := by decide +kernel
theorem dX7_endsIn_25 : decode cX7_endsIn 25 = .ok (.iload_n 1, 1) := by decide +kernel
theorem dX7_endsIn_26 : decode cX7_endsIn 26 = .ok (.aaload, 1) := by decide +kernel
theorem dX7_endsIn_27 : decode cX7_endsIn 27 = .ok (.getfield 140, 3) := by decide +kernel
theorem dX7_endsIn_30 : decode cX7_endsIn 30 = .ok (.ifCond .eq 5, 3) := by decide +kernel
theorem dX7_endsIn_33 : decode cX7_endsIn 33 = .ok (.iconst 0, 1) := by decide +kernel
theorem dX7_endsIn_34 : decode cX7_endsIn 34 = .ok (.ireturn, 1) := by decide +kernel
theorem dX7_endsIn_35 : decode cX7_endsIn 35 = .ok (.aload_n 0, 1) := by decide +kernel
theorem dX7_endsIn_36 : decode cX7_endsIn 36 = .ok (.getfield 25, 3) := by decide +kernel
theorem dX7_endsIn_39 : decode cX7_endsIn 39 = .ok (.aload_n 0, 1) := by decide +kernel
theorem dX7_endsIn_40 : decode cX7_endsIn 40 = .ok (.getfield 21, 3) := by decide +kernel
theorem dX7_endsIn_43 : decode cX7_endsIn 43 = .ok (.invokevirtual 210, 3) := by decide +kernel
theorem dX7_endsIn_46 : decode cX7_endsIn 46 = .ok (.iconst 1, 1) := by decide +kernel
theorem dX7_endsIn_47 : decode cX7_endsIn 47 = .ok (.istore_n 3, 1) := by decide +kernel
theorem dX7_endsIn_48 : decode cX7_endsIn 48 = .ok (.iload_n 3, 1) := by decide +kernel
theorem dX7_endsIn_49 : decode cX7_endsIn 49 = .ok (.iload_n 2, 1) := by decide +kernel
theorem dX7_endsIn_50 : decode cX7_endsIn 50 = .ok (.if_icmp .gt 33, 3) := by decide +kernel
theorem dX7_endsIn_53 : decode cX7_endsIn 53 = .ok (.aload_n 0, 1) := by decide +kernel
theorem dX7_endsIn_54 : decode cX7_endsIn 54 = .ok (.getfield 25, 3) := by decide +kernel
theorem dX7_endsIn_57 : decode cX7_endsIn 57 = .ok (.invokevirtual 169, 3) := by decide +kernel
theorem dX7_endsIn_60 : decode cX7_endsIn 60 = .ok (.aload_n 0, 1) := by decide +kernel
theorem dX7_endsIn_61 : decode cX7_endsIn 61 = .ok (.getfield 25, 3) := by decide +kernel
theorem dX7_endsIn_64 : decode cX7_endsIn 64 = .ok (.getfield 136, 3) := by decide +kernel
theorem dX7_endsIn_67 : decode cX7_endsIn 67 = .ok (.iload_n 1, 1) := by decide +kernel
theorem dX7_endsIn_68 : decode cX7_endsIn 68 = .ok (.aaload, 1) := by decide +kernel
theorem dX7_endsIn_69 : decode cX7_endsIn 69 = .ok (.getfield 140, 3) := by decide +kernel
theorem dX7_endsIn_72 : decode cX7_endsIn 72 = .ok (.ifCond .eq 5, 3) := by decide +kernel
theorem dX7_endsIn_75 : decode cX7_endsIn 75 = .ok (.iload_n 3, 1) := by decide +kernel
theorem dX7_endsIn_76 : decode cX7_endsIn 76 = .ok (.ireturn, 1) := by decide +kernel
theorem dX7_endsIn_77 : decode cX7_endsIn 77 = .ok (.iinc 3 1, 3) := by decide +kernel
theorem dX7_endsIn_80 : decode cX7_endsIn 80 = .ok (.goto (-32), 3) := by decide +kernel
theorem dX7_endsIn_83 : decode cX7_endsIn 83 = .ok (.iconst (-1), 1) := by decide +kernel
theorem dX7_endsIn_84 : decode cX7_endsIn 84 = .ok (.ireturn, 1) := by decide +kernel
theorem dX7_wouldBeOn_0 : decode cX7_wouldBeOn 0 = .ok (.iload_n 1, 1) := by decide +kernel
theorem dX7_wouldBeOn_1 : decode cX7_wouldBeOn 1 = .ok (.aload_n 0, 1) := by decide +kernel
theorem dX7_wouldBeOn_2 : decode cX7_wouldBeOn 2 = .ok (.getfield 21, 3) := by decide +kernel
theorem dX7_wouldBeOn_5 : decode cX7_wouldBeOn 5 = .ok (.getfield 81, 3) := by decide +kernel
theorem dX7_wouldBeOn_8 : decode cX7_wouldBeOn 8 = .ok (.invokestatic 103, 3) := by decide +kernel
theorem dX7_wouldBeOn_11 : decode cX7_wouldBeOn 11 = .ok (.iload_n 2, 1) := by decide +kernel
theorem dX7_wouldBeOn_12 : decode cX7_wouldBeOn 12 = .ok (.iconst 0, 1) := by decide +kernel
theorem dX7_wouldBeOn_13 : decode cX7_wouldBeOn 13 = .ok (.bipush 99, 2) := by decide +kernel
theorem dX7_wouldBeOn_15 : decode cX7_wouldBeOn 15 = .ok (.invokestatic 35, 3) := by decide +kernel
theorem dX7_wouldBeOn_18 : decode cX7_wouldBeOn 18 = .ok (.aload_n 0, 1) := by decide +kernel
theorem dX7_wouldBeOn_19 : decode cX7_wouldBeOn 19 = .ok (.getfield 25, 3) := by decide +kernel
theorem dX7_wouldBeOn_22 : decode cX7_wouldBeOn 22 = .ok (.aload_n 0, 1) := by decide +kernel
theorem dX7_wouldBeOn_23 : decode cX7_wouldBeOn 23 = .ok (.getfield 21, 3) := by decide +kernel
theorem dX7_wouldBeOn_26 : decode cX7_wouldBeOn 26 = .ok (.invokevirtual 210, 3) := by decide +kernel
theorem dX7_wouldBeOn_29 : decode cX7_wouldBeOn 29 = .ok (.iconst 0, 1) := by decide +kernel
theorem dX7_wouldBeOn_30 : decode cX7_wouldBeOn 30 = .ok (.istore_n 3, 1) := by decide +kernel
theorem dX7_wouldBeOn_31 : decode cX7_wouldBeOn 31 = .ok (.iload_n 3, 1) := by decide +kernel
theorem dX7_wouldBeOn_32 : decode cX7_wouldBeOn 32 = .ok (.iload_n 2, 1) := by decide +kernel
theorem dX7_wouldBeOn_33 : decode cX7_wouldBeOn 33 = .ok (.if_icmp .ge 16, 3) := by decide +kernel
theorem dX7_wouldBeOn_36 : decode cX7_wouldBeOn 36 = .ok (.aload_n 0, 1) := by decide +kernel
theorem dX7_wouldBeOn_37 : decode cX7_wouldBeOn 37 = .ok (.getfield 25, 3) := by decide +kernel
theorem dX7_wouldBeOn_40 : decode cX7_wouldBeOn 40 = .ok (.invokevirtual 169, 3) := by decide +kernel
theorem dX7_wouldBeOn_43 : decode cX7_wouldBeOn 43 = .ok (.iinc 3 1, 3) := by decide +kernel
theorem dX7_wouldBeOn_46 : decode cX7_wouldBeOn 46 = .ok (.goto (-15), 3) := by decide +kernel
theorem dX7_wouldBeOn_49 : decode cX7_wouldBeOn 49 = .ok (.aload_n 0, 1) := by decide +kernel
theorem dX7_wouldBeOn_50 : decode cX7_wouldBeOn 50 = .ok (.getfield 25, 3) := by decide +kernel
theorem dX7_wouldBeOn_53 : decode cX7_wouldBeOn 53 = .ok (.getfield 86, 3) := by decide +kernel
theorem dX7_wouldBeOn_56 : decode cX7_wouldBeOn 56 = .ok (.iload_n 1, 1) := by decide +kernel
theorem dX7_wouldBeOn_57 : decode cX7_wouldBeOn 57 = .ok (.aaload, 1) := by decide +kernel
theorem dX7_wouldBeOn_58 : decode cX7_wouldBeOn 58 = .ok (.getfield 214, 3) := by decide +kernel
theorem dX7_wouldBeOn_61 : decode cX7_wouldBeOn 61 = .ok (.ireturn, 1) := by decide +kernel
theorem dX7_bestPlace_0 : decode cX7_bestPlace 0 = .ok (.iload_n 1, 1) := by decide +kernel
theorem dX7_bestPlace_1 : decode cX7_bestPlace 1 = .ok (.bipush 10, 2) := by decide +kernel
theorem dX7_bestPlace_3 : decode cX7_bestPlace 3 = .ok (.bipush 60, 2) := by decide +kernel
theorem dX7_bestPlace_5 : decode cX7_bestPlace 5 = .ok (.invokestatic 35, 3) := by decide +kernel
theorem dX7_bestPlace_8 : decode cX7_bestPlace 8 = .ok (.iload_n 2, 1) := by decide +kernel
theorem dX7_bestPlace_9 : decode cX7_bestPlace 9 = .ok (.iconst 0, 1) := by decide +kernel
theorem dX7_bestPlace_10 : decode cX7_bestPlace 10 = .ok (.iconst 2, 1) := by decide +kernel
theorem dX7_bestPlace_11 : decode cX7_bestPlace 11 = .ok (.invokestatic 35, 3) := by decide +kernel
theorem dX7_bestPlace_14 : decode cX7_bestPlace 14 = .ok (.aload_n 0, 1) := by decide +kernel
theorem dX7_bestPlace_15 : decode cX7_bestPlace 15 = .ok (.getfield 10, 3) := by decide +kernel
theorem dX7_bestPlace_18 : decode cX7_bestPlace 18 = .ok (.getfield 39, 3) := by decide +kernel
theorem dX7_bestPlace_21 : decode cX7_bestPlace 21 = .ok (.bipush 6, 2) := by decide +kernel
theorem dX7_bestPlace_23 : decode cX7_bestPlace 23 = .ok (.if_icmp .lt 5, 3) := by decide +kernel
theorem dX7_bestPlace_26 : decode cX7_bestPlace 26 = .ok (.iconst (-1), 1) := by decide +kernel
theorem dX7_bestPlace_27 : decode cX7_bestPlace 27 = .ok (.ireturn, 1) := by decide +kernel
theorem dX7_bestPlace_28 : decode cX7_bestPlace 28 = .ok (.aload_n 0, 1) := by decide +kernel
theorem dX7_bestPlace_29 : decode cX7_bestPlace 29 = .ok (.getfield 31, 3) := by decide +kernel
theorem dX7_bestPlace_32 : decode cX7_bestPlace 32 = .ok (.aload_n 0, 1) := by decide +kernel
theorem dX7_bestPlace_33 : decode cX7_bestPlace 33 = .ok (.getfield 21, 3) := by decide +kernel
theorem dX7_bestPlace_36 : decode cX7_bestPlace 36 = .ok (.iload_n 2, 1) := by decide +kernel
theorem dX7_bestPlace_37 : decode cX7_bestPlace 37 = .ok (.invokevirtual 217, 3) := by decide +kernel
theorem dX7_bestPlace_40 : decode cX7_bestPlace 40 = .ok (.aload_n 0, 1) := by decide +kernel
theorem dX7_bestPlace_41 : decode cX7_bestPlace 41 = .ok (.getfield 31, 3) := by decide +kernel
theorem dX7_bestPlace_44 : decode cX7_bestPlace 44 = .ok (.iload_n 1, 1) := by decide +kernel
theorem dX7_bestPlace_45 : decode cX7_bestPlace 45 = .ok (.invokevirtual 221, 3) := by decide +kernel
theorem dX7_bestPlace_48 : decode cX7_bestPlace 48 = .ok (.ireturn, 1) := by decide +kernel
theorem dX7_digest_0 : decode cX7_digest 0 = .ok (.ldc2_w 224, 3) := by decide +kernel
theorem dX7_digest_3 : decode cX7_digest 3 = .ok (.lstore_n 1, 1) := by decide +kernel
theorem dX7_digest_4 : decode cX7_digest 4 = .ok (.iconst 0, 1) := by decide +kernel
theorem dX7_digest_5 : decode cX7_digest 5 = .ok (.istore_n 3, 1) := by decide +kernel
theorem dX7_digest_6 : decode cX7_digest 6 = .ok (.iload_n 3, 1) := by decide +kernel
theorem dX7_digest_7 : decode cX7_digest 7 = .ok (.bipush 14, 2) := by decide +kernel
theorem dX7_digest_9 : decode cX7_digest 9 = .ok (.if_icmp .gt 22, 3) := by decide +kernel
theorem dX7_digest_12 : decode cX7_digest 12 = .ok (.lload_n 1, 1) := by decide +kernel
theorem dX7_digest_13 : decode cX7_digest 13 = .ok (.ldc2_w 226, 3) := by decide +kernel
theorem dX7_digest_16 : decode cX7_digest 16 = .ok (.lmul, 1) := by decide +kernel
theorem dX7_digest_17 : decode cX7_digest 17 = .ok (.aload_n 0, 1) := by decide +kernel
theorem dX7_digest_18 : decode cX7_digest 18 = .ok (.iload_n 3, 1) := by decide +kernel
theorem dX7_digest_19 : decode cX7_digest 19 = .ok (.invokevirtual 228, 3) := by decide +kernel
theorem dX7_digest_22 : decode cX7_digest 22 = .ok (.i2l, 1) := by decide +kernel
theorem dX7_digest_23 : decode cX7_digest 23 = .ok (.ladd, 1) := by decide +kernel
theorem dX7_digest_24 : decode cX7_digest 24 = .ok (.lstore_n 1, 1) := by decide +kernel
theorem dX7_digest_25 : decode cX7_digest 25 = .ok (.iinc 3 1, 3) := by decide +kernel
theorem dX7_digest_28 : decode cX7_digest 28 = .ok (.goto (-22), 3) := by decide +kernel
theorem dX7_digest_31 : decode cX7_digest 31 = .ok (.aload_n 0, 1) := by decide +kernel
theorem dX7_digest_32 : decode cX7_digest 32 = .ok (.lload_n 1, 1) := by decide +kernel
theorem dX7_digest_33 : decode cX7_digest 33 = .ok (.invokevirtual 231, 3) := by decide +kernel
theorem dX7_digest_36 : decode cX7_digest 36 = .ok (.lstore_n 1, 1) := by decide +kernel
theorem dX7_digest_37 : decode cX7_digest 37 = .ok (.aload_n 0, 1) := by decide +kernel
theorem dX7_digest_38 : decode cX7_digest 38 = .ok (.lload_n 1, 1) := by decide +kernel
theorem dX7_digest_39 : decode cX7_digest 39 = .ok (.invokevirtual 235, 3) := by decide +kernel
theorem dX7_digest_42 : decode cX7_digest 42 = .ok (.lstore_n 1, 1) := by decide +kernel
theorem dX7_digest_43 : decode cX7_digest 43 = .ok (.aload_n 0, 1) := by decide +kernel
theorem dX7_digest_44 : decode cX7_digest 44 = .ok (.lload_n 1, 1) := by decide +kernel
theorem dX7_digest_45 : decode cX7_digest 45 = .ok (.invokevirtual 238, 3) := by decide +kernel
theorem dX7_digest_48 : decode cX7_digest 48 = .ok (.lstore_n 1, 1) := by decide +kernel
theorem dX7_digest_49 : decode cX7_digest 49 = .ok (.lload_n 1, 1) := by decide +kernel
theorem dX7_digest_50 : decode cX7_digest 50 = .ok (.ldc2_w 226, 3) := by decide +kernel
theorem dX7_digest_53 : decode cX7_digest 53 = .ok (.lmul, 1) := by decide +kernel
theorem dX7_digest_54 : decode cX7_digest 54 = .ok (.aload_n 0, 1) := by decide +kernel
theorem dX7_digest_55 : decode cX7_digest 55 = .ok (.bipush 33, 2) := by decide +kernel
theorem dX7_digest_57 : decode cX7_digest 57 = .ok (.invokevirtual 241, 3) := by decide +kernel
theorem dX7_digest_60 : decode cX7_digest 60 = .ok (.i2l, 1) := by decide +kernel
theorem dX7_digest_61 : decode cX7_digest 61 = .ok (.ladd, 1) := by decide +kernel
theorem dX7_digest_62 : decode cX7_digest 62 = .ok (.lstore_n 1, 1) := by decide +kernel
theorem dX7_digest_63 : decode cX7_digest 63 = .ok (.lload_n 1, 1) := by decide +kernel
theorem dX7_digest_64 : decode cX7_digest 64 = .ok (.ldc2_w 226, 3) := by decide +kernel
theorem dX7_digest_67 : decode cX7_digest 67 = .ok (.lmul, 1) := by decide +kernel
theorem dX7_digest_68 : decode cX7_digest 68 = .ok (.aload_n 0, 1) := by decide +kernel
theorem dX7_digest_69 : decode cX7_digest 69 = .ok (.bipush 66, 2) := by decide +kernel
theorem dX7_digest_71 : decode cX7_digest 71 = .ok (.invokevirtual 241, 3) := by decide +kernel
theorem dX7_digest_74 : decode cX7_digest 74 = .ok (.i2l, 1) := by decide +kernel
theorem dX7_digest_75 : decode cX7_digest 75 = .ok (.ladd, 1) := by decide +kernel
theorem dX7_digest_76 : decode cX7_digest 76 = .ok (.lstore_n 1, 1) := by decide +kernel
theorem dX7_digest_77 : decode cX7_digest 77 = .ok (.lload_n 1, 1) := by decide +kernel
theorem dX7_digest_78 : decode cX7_digest 78 = .ok (.ldc2_w 226, 3) := by decide +kernel
theorem dX7_digest_81 : decode cX7_digest 81 = .ok (.lmul, 1) := by decide +kernel
theorem dX7_digest_82 : decode cX7_digest 82 = .ok (.aload_n 0, 1) := by decide +kernel
theorem dX7_digest_83 : decode cX7_digest 83 = .ok (.bipush 30, 2) := by decide +kernel
theorem dX7_digest_85 : decode cX7_digest 85 = .ok (.iconst 1, 1) := by decide +kernel
theorem dX7_digest_86 : decode cX7_digest 86 = .ok (.invokevirtual 244, 3) := by decide +kernel
theorem dX7_digest_89 : decode cX7_digest 89 = .ok (.i2l, 1) := by decide +kernel
theorem dX7_digest_90 : decode cX7_digest 90 = .ok (.ladd, 1) := by decide +kernel
theorem dX7_digest_91 : decode cX7_digest 91 = .ok (.lreturn, 1) := by decide +kernel
theorem dX7_addMasts_0 : decode cX7_addMasts 0 = .ok (.lload_n 1, 1) := by decide +kernel
theorem dX7_addMasts_1 : decode cX7_addMasts 1 = .ok (.lstore_n 3, 1) := by decide +kernel
theorem dX7_addMasts_2 : decode cX7_addMasts 2 = .ok (.iconst 0, 1) := by decide +kernel
theorem dX7_addMasts_3 : decode cX7_addMasts 3 = .ok (.istore 5, 2) := by decide +kernel
theorem dX7_addMasts_5 : decode cX7_addMasts 5 = .ok (.iload 5, 2) := by decide +kernel
theorem dX7_addMasts_7 : decode cX7_addMasts 7 = .ok (.aload_n 0, 1) := by decide +kernel
theorem dX7_addMasts_8 : decode cX7_addMasts 8 = .ok (.getfield 10, 3) := by decide +kernel
theorem dX7_addMasts_11 : decode cX7_addMasts 11 = .ok (.getfield 39, 3) := by decide +kernel
theorem dX7_addMasts_14 : decode cX7_addMasts 14 = .ok (.if_icmp .ge 72, 3) := by decide +kernel
theorem dX7_addMasts_17 : decode cX7_addMasts 17 = .ok (.iconst 0, 1) := by decide +kernel
theorem dX7_addMasts_18 : decode cX7_addMasts 18 = .ok (.istore 6, 2) := by decide +kernel
theorem dX7_addMasts_20 : decode cX7_addMasts 20 = .ok (.iload 6, 2) := by decide +kernel
theorem dX7_addMasts_22 : decode cX7_addMasts 22 = .ok (.bipush 9, 2) := by decide +kernel
theorem dX7_addMasts_24 : decode cX7_addMasts 24 = .ok (.if_icmp .gt 25, 3) := by decide +kernel
theorem dX7_addMasts_27 : decode cX7_addMasts 27 = .ok (.lload_n 3, 1) := by decide +kernel
theorem dX7_addMasts_28 : decode cX7_addMasts 28 = .ok (.ldc2_w 226, 3) := by decide +kernel
theorem dX7_addMasts_31 : decode cX7_addMasts 31 = .ok (.lmul, 1) := by decide +kernel
theorem dX7_addMasts_32 : decode cX7_addMasts 32 = .ok (.aload_n 0, 1) := by decide +kernel
theorem dX7_addMasts_33 : decode cX7_addMasts 33 = .ok (.iload 5, 2) := by decide +kernel
theorem dX7_addMasts_35 : decode cX7_addMasts 35 = .ok (.iload 6, 2) := by decide +kernel
theorem dX7_addMasts_37 : decode cX7_addMasts 37 = .ok (.invokevirtual 247, 3) := by decide +kernel
theorem dX7_addMasts_40 : decode cX7_addMasts 40 = .ok (.i2l, 1) := by decide +kernel
theorem dX7_addMasts_41 : decode cX7_addMasts 41 = .ok (.ladd, 1) := by decide +kernel
theorem dX7_addMasts_42 : decode cX7_addMasts 42 = .ok (.lstore_n 3, 1) := by decide +kernel
theorem dX7_addMasts_43 : decode cX7_addMasts 43 = .ok (.iinc 6 1, 3) := by decide +kernel
theorem dX7_addMasts_46 : decode cX7_addMasts 46 = .ok (.goto (-26), 3) := by decide +kernel
theorem dX7_addMasts_49 : decode cX7_addMasts 49 = .ok (.lload_n 3, 1) := by decide +kernel
theorem dX7_addMasts_50 : decode cX7_addMasts 50 = .ok (.ldc2_w 226, 3) := by decide +kernel
theorem dX7_addMasts_53 : decode cX7_addMasts 53 = .ok (.lmul, 1) := by decide +kernel
theorem dX7_addMasts_54 : decode cX7_addMasts 54 = .ok (.aload_n 0, 1) := by decide +kernel
theorem dX7_addMasts_55 : decode cX7_addMasts 55 = .ok (.iload 5, 2) := by decide +kernel
theorem dX7_addMasts_57 : decode cX7_addMasts 57 = .ok (.iconst 0, 1) := by decide +kernel
theorem dX7_addMasts_58 : decode cX7_addMasts 58 = .ok (.invokevirtual 250, 3) := by decide +kernel
theorem dX7_addMasts_61 : decode cX7_addMasts 61 = .ok (.i2l, 1) := by decide +kernel
theorem dX7_addMasts_62 : decode cX7_addMasts 62 = .ok (.ladd, 1) := by decide +kernel
theorem dX7_addMasts_63 : decode cX7_addMasts 63 = .ok (.lstore_n 3, 1) := by decide +kernel
theorem dX7_addMasts_64 : decode cX7_addMasts 64 = .ok (.lload_n 3, 1) := by decide +kernel
theorem dX7_addMasts_65 : decode cX7_addMasts 65 = .ok (.ldc2_w 226, 3) := by decide +kernel
theorem dX7_addMasts_68 : decode cX7_addMasts 68 = .ok (.lmul, 1) := by decide +kernel
theorem dX7_addMasts_69 : decode cX7_addMasts 69 = .ok (.aload_n 0, 1) := by decide +kernel
theorem dX7_addMasts_70 : decode cX7_addMasts 70 = .ok (.iload 5, 2) := by decide +kernel
theorem dX7_addMasts_72 : decode cX7_addMasts 72 = .ok (.bipush 50, 2) := by decide +kernel
theorem dX7_addMasts_74 : decode cX7_addMasts 74 = .ok (.invokevirtual 250, 3) := by decide +kernel
theorem dX7_addMasts_77 : decode cX7_addMasts 77 = .ok (.i2l, 1) := by decide +kernel
theorem dX7_addMasts_78 : decode cX7_addMasts 78 = .ok (.ladd, 1) := by decide +kernel
theorem dX7_addMasts_79 : decode cX7_addMasts 79 = .ok (.lstore_n 3, 1) := by decide +kernel
theorem dX7_addMasts_80 : decode cX7_addMasts 80 = .ok (.iinc 5 1, 3) := by decide +kernel
theorem dX7_addMasts_83 : decode cX7_addMasts 83 = .ok (.goto (-78), 3) := by decide +kernel
theorem dX7_addMasts_86 : decode cX7_addMasts 86 = .ok (.lload_n 3, 1) := by decide +kernel
theorem dX7_addMasts_87 : decode cX7_addMasts 87 = .ok (.lreturn, 1) := by decide +kernel
theorem dX7_addHandsets_0 : decode cX7_addHandsets 0 = .ok (.lload_n 1, 1) := by decide +kernel
theorem dX7_addHandsets_1 : decode cX7_addHandsets 1 = .ok (.lstore_n 3, 1) := by decide +kernel
theorem dX7_addHandsets_2 : decode cX7_addHandsets 2 = .ok (.iconst 0, 1) := by decide +kernel
theorem dX7_addHandsets_3 : decode cX7_addHandsets 3 = .ok (.istore 5, 2) := by decide +kernel
theorem dX7_addHandsets_5 : decode cX7_addHandsets 5 = .ok (.iload 5, 2) := by decide +kernel
theorem dX7_addHandsets_7 : decode cX7_addHandsets 7 = .ok (.aload_n 0, 1) := by decide +kernel
theorem dX7_addHandsets_8 : decode cX7_addHandsets 8 = .ok (.getfield 21, 3) := by decide +kernel
theorem dX7_addHandsets_11 : decode cX7_addHandsets 11 = .ok (.getfield 81, 3) := by decide +kernel
theorem dX7_addHandsets_14 : decode cX7_addHandsets 14 = .ok (.if_icmp .ge 57, 3) := by decide +kernel
theorem dX7_addHandsets_17 : decode cX7_addHandsets 17 = .ok (.iconst 0, 1) := by decide +kernel
theorem dX7_addHandsets_18 : decode cX7_addHandsets 18 = .ok (.istore 6, 2) := by decide +kernel
theorem dX7_addHandsets_20 : decode cX7_addHandsets 20 = .ok (.iload 6, 2) := by decide +kernel
theorem dX7_addHandsets_22 : decode cX7_addHandsets 22 = .ok (.bipush 10, 2) := by decide +kernel
theorem dX7_addHandsets_24 : decode cX7_addHandsets 24 = .ok (.if_icmp .gt 25, 3) := by decide +kernel
theorem dX7_addHandsets_27 : decode cX7_addHandsets 27 = .ok (.lload_n 3, 1) := by decide +kernel
theorem dX7_addHandsets_28 : decode cX7_addHandsets 28 = .ok (.ldc2_w 226, 3) := by decide +kernel
theorem dX7_addHandsets_31 : decode cX7_addHandsets 31 = .ok (.lmul, 1) := by decide +kernel
theorem dX7_addHandsets_32 : decode cX7_addHandsets 32 = .ok (.aload_n 0, 1) := by decide +kernel
theorem dX7_addHandsets_33 : decode cX7_addHandsets 33 = .ok (.iload 5, 2) := by decide +kernel
theorem dX7_addHandsets_35 : decode cX7_addHandsets 35 = .ok (.iload 6, 2) := by decide +kernel
theorem dX7_addHandsets_37 : decode cX7_addHandsets 37 = .ok (.invokevirtual 253, 3) := by decide +kernel
theorem dX7_addHandsets_40 : decode cX7_addHandsets 40 = .ok (.i2l, 1) := by decide +kernel
theorem dX7_addHandsets_41 : decode cX7_addHandsets 41 = .ok (.ladd, 1) := by decide +kernel
theorem dX7_addHandsets_42 : decode cX7_addHandsets 42 = .ok (.lstore_n 3, 1) := by decide +kernel
theorem dX7_addHandsets_43 : decode cX7_addHandsets 43 = .ok (.iinc 6 1, 3) := by decide +kernel
theorem dX7_addHandsets_46 : decode cX7_addHandsets 46 = .ok (.goto (-26), 3) := by decide +kernel
theorem dX7_addHandsets_49 : decode cX7_addHandsets 49 = .ok (.lload_n 3, 1) := by decide +kernel
theorem dX7_addHandsets_50 : decode cX7_addHandsets 50 = .ok (.ldc2_w 226, 3) := by decide +kernel
theorem dX7_addHandsets_53 : decode cX7_addHandsets 53 = .ok (.lmul, 1) := by decide +kernel
theorem dX7_addHandsets_54 : decode cX7_addHandsets 54 = .ok (.aload_n 0, 1) := by decide +kernel
theorem dX7_addHandsets_55 : decode cX7_addHandsets 55 = .ok (.iload 5, 2) := by decide +kernel
theorem dX7_addHandsets_57 : decode cX7_addHandsets 57 = .ok (.bipush 8, 2) := by decide +kernel
theorem dX7_addHandsets_59 : decode cX7_addHandsets 59 = .ok (.invokevirtual 256, 3) := by decide +kernel
theorem dX7_addHandsets_62 : decode cX7_addHandsets 62 = .ok (.i2l, 1) := by decide +kernel
theorem dX7_addHandsets_63 : decode cX7_addHandsets 63 = .ok (.ladd, 1) := by decide +kernel
theorem dX7_addHandsets_64 : decode cX7_addHandsets 64 = .ok (.lstore_n 3, 1) := by decide +kernel
theorem dX7_addHandsets_65 : decode cX7_addHandsets 65 = .ok (.iinc 5 1, 3) := by decide +kernel
theorem dX7_addHandsets_68 : decode cX7_addHandsets 68 = .ok (.goto (-63), 3) := by decide +kernel
theorem dX7_addHandsets_71 : decode cX7_addHandsets 71 = .ok (.lload_n 3, 1) := by decide +kernel
theorem dX7_addHandsets_72 : decode cX7_addHandsets 72 = .ok (.lreturn, 1) := by decide +kernel
theorem dX7_addCalls_0 : decode cX7_addCalls 0 = .ok (.lload_n 1, 1) := by decide +kernel
theorem dX7_addCalls_1 : decode cX7_addCalls 1 = .ok (.lstore_n 3, 1) := by decide +kernel
theorem dX7_addCalls_2 : decode cX7_addCalls 2 = .ok (.iconst 0, 1) := by decide +kernel
theorem dX7_addCalls_3 : decode cX7_addCalls 3 = .ok (.istore 5, 2) := by decide +kernel
theorem dX7_addCalls_5 : decode cX7_addCalls 5 = .ok (.iload 5, 2) := by decide +kernel
theorem dX7_addCalls_7 : decode cX7_addCalls 7 = .ok (.aload_n 0, 1) := by decide +kernel
theorem dX7_addCalls_8 : decode cX7_addCalls 8 = .ok (.getfield 21, 3) := by decide +kernel
theorem dX7_addCalls_11 : decode cX7_addCalls 11 = .ok (.getfield 133, 3) := by decide +kernel
theorem dX7_addCalls_14 : decode cX7_addCalls 14 = .ok (.if_icmp .ge 57, 3) := by decide +kernel
theorem dX7_addCalls_17 : decode cX7_addCalls 17 = .ok (.iconst 0, 1) := by decide +kernel
theorem dX7_addCalls_18 : decode cX7_addCalls 18 = .ok (.istore 6, 2) := by decide +kernel
theorem dX7_addCalls_20 : decode cX7_addCalls 20 = .ok (.iload 6, 2) := by decide +kernel
theorem dX7_addCalls_22 : decode cX7_addCalls 22 = .ok (.bipush 8, 2) := by decide +kernel
theorem dX7_addCalls_24 : decode cX7_addCalls 24 = .ok (.if_icmp .gt 25, 3) := by decide +kernel
theorem dX7_addCalls_27 : decode cX7_addCalls 27 = .ok (.lload_n 3, 1) := by decide +kernel
theorem dX7_addCalls_28 : decode cX7_addCalls 28 = .ok (.ldc2_w 226, 3) := by decide +kernel
theorem dX7_addCalls_31 : decode cX7_addCalls 31 = .ok (.lmul, 1) := by decide +kernel
theorem dX7_addCalls_32 : decode cX7_addCalls 32 = .ok (.aload_n 0, 1) := by decide +kernel
theorem dX7_addCalls_33 : decode cX7_addCalls 33 = .ok (.iload 5, 2) := by decide +kernel
theorem dX7_addCalls_35 : decode cX7_addCalls 35 = .ok (.iload 6, 2) := by decide +kernel
theorem dX7_addCalls_37 : decode cX7_addCalls 37 = .ok (.invokevirtual 259, 3) := by decide +kernel
theorem dX7_addCalls_40 : decode cX7_addCalls 40 = .ok (.i2l, 1) := by decide +kernel
theorem dX7_addCalls_41 : decode cX7_addCalls 41 = .ok (.ladd, 1) := by decide +kernel
theorem dX7_addCalls_42 : decode cX7_addCalls 42 = .ok (.lstore_n 3, 1) := by decide +kernel
theorem dX7_addCalls_43 : decode cX7_addCalls 43 = .ok (.iinc 6 1, 3) := by decide +kernel
theorem dX7_addCalls_46 : decode cX7_addCalls 46 = .ok (.goto (-26), 3) := by decide +kernel
theorem dX7_addCalls_49 : decode cX7_addCalls 49 = .ok (.lload_n 3, 1) := by decide +kernel
theorem dX7_addCalls_50 : decode cX7_addCalls 50 = .ok (.ldc2_w 226, 3) := by decide +kernel
theorem dX7_addCalls_53 : decode cX7_addCalls 53 = .ok (.lmul, 1) := by decide +kernel
theorem dX7_addCalls_54 : decode cX7_addCalls 54 = .ok (.aload_n 0, 1) := by decide +kernel
theorem dX7_addCalls_55 : decode cX7_addCalls 55 = .ok (.iload 5, 2) := by decide +kernel
theorem dX7_addCalls_57 : decode cX7_addCalls 57 = .ok (.bipush 20, 2) := by decide +kernel
theorem dX7_addCalls_59 : decode cX7_addCalls 59 = .ok (.invokevirtual 262, 3) := by decide +kernel
theorem dX7_addCalls_62 : decode cX7_addCalls 62 = .ok (.i2l, 1) := by decide +kernel
theorem dX7_addCalls_63 : decode cX7_addCalls 63 = .ok (.ladd, 1) := by decide +kernel
theorem dX7_addCalls_64 : decode cX7_addCalls 64 = .ok (.lstore_n 3, 1) := by decide +kernel
theorem dX7_addCalls_65 : decode cX7_addCalls 65 = .ok (.iinc 5 1, 3) := by decide +kernel
theorem dX7_addCalls_68 : decode cX7_addCalls 68 = .ok (.goto (-63), 3) := by decide +kernel
theorem dX7_addCalls_71 : decode cX7_addCalls 71 = .ok (.lload_n 3, 1) := by decide +kernel
theorem dX7_addCalls_72 : decode cX7_addCalls 72 = .ok (.lreturn, 1) := by decide +kernel
theorem dX7_demandNumber_0 : decode cX7_demandNumber 0 = .ok (.iload_n 0, 1) := by decide +kernel
theorem dX7_demandNumber_1 : decode cX7_demandNumber 1 = .ok (.ifCond .lt 8, 3) := by decide +kernel
theorem dX7_demandNumber_4 : decode cX7_demandNumber 4 = .ok (.iload_n 0, 1) := by decide +kernel
theorem dX7_demandNumber_5 : decode cX7_demandNumber 5 = .ok (.iload_n 1, 1) := by decide +kernel
theorem dX7_demandNumber_6 : decode cX7_demandNumber 6 = .ok (.if_icmp .lt 14, 3) := by decide +kernel
theorem dX7_demandNumber_9 : decode cX7_demandNumber 9 = .ok (.new 265, 3) := by decide +kernel
theorem dX7_demandNumber_12 : decode cX7_demandNumber 12 = .ok (.dup, 1) := by decide +kernel
theorem dX7_demandNumber_13 : decode cX7_demandNumber 13 = .ok (.ldc_w 267, 3) := by decide +kernel
theorem dX7_demandNumber_16 : decode cX7_demandNumber 16 = .ok (.invokespecial 269, 3) := by decide +kernel
theorem dX7_demandNumber_19 : decode cX7_demandNumber 19 = .ok (.athrow, 1) := by decide +kernel
theorem dX7_demandNumber_20 : decode cX7_demandNumber 20 = .ok (.return_, 1) := by decide +kernel
theorem dX7_demandWithin_0 : decode cX7_demandWithin 0 = .ok (.iload_n 0, 1) := by decide +kernel
theorem dX7_demandWithin_1 : decode cX7_demandWithin 1 = .ok (.iload_n 1, 1) := by decide +kernel
theorem dX7_demandWithin_2 : decode cX7_demandWithin 2 = .ok (.if_icmp .lt 8, 3) := by decide +kernel
theorem dX7_demandWithin_5 : decode cX7_demandWithin 5 = .ok (.iload_n 0, 1) := by decide +kernel
theorem dX7_demandWithin_6 : decode cX7_demandWithin 6 = .ok (.iload_n 2, 1) := by decide +kernel
theorem dX7_demandWithin_7 : decode cX7_demandWithin 7 = .ok (.if_icmp .le 14, 3) := by decide +kernel
theorem dX7_demandWithin_10 : decode cX7_demandWithin 10 = .ok (.new 270, 3) := by decide +kernel
theorem dX7_demandWithin_13 : decode cX7_demandWithin 13 = .ok (.dup, 1) := by decide +kernel
theorem dX7_demandWithin_14 : decode cX7_demandWithin 14 = .ok (.ldc_w 272, 3) := by decide +kernel
theorem dX7_demandWithin_17 : decode cX7_demandWithin 17 = .ok (.invokespecial 274, 3) := by decide +kernel
theorem dX7_demandWithin_20 : decode cX7_demandWithin 20 = .ok (.athrow, 1) := by decide +kernel
theorem dX7_demandWithin_21 : decode cX7_demandWithin 21 = .ok (.return_, 1) := by decide +kernel
theorem dX7_demandOthers_0 : decode cX7_demandOthers 0 = .ok (.iload_n 0, 1) := by decide +kernel
theorem dX7_demandOthers_1 : decode cX7_demandOthers 1 = .ok (.iload_n 1, 1) := by decide +kernel
theorem dX7_demandOthers_2 : decode cX7_demandOthers 2 = .ok (.if_icmp .ne 14, 3) := by decide +kernel
theorem dX7_demandOthers_5 : decode cX7_demandOthers 5 = .ok (.new 270, 3) := by decide +kernel
theorem dX7_demandOthers_8 : decode cX7_demandOthers 8 = .ok (.dup, 1) := by decide +kernel
theorem dX7_demandOthers_9 : decode cX7_demandOthers 9 = .ok (.ldc_w 275, 3) := by decide +kernel
theorem dX7_demandOthers_12 : decode cX7_demandOthers 12 = .ok (.invokespecial 274, 3) := by decide +kernel
theorem dX7_demandOthers_15 : decode cX7_demandOthers 15 = .ok (.athrow, 1) := by decide +kernel
theorem dX7_demandOthers_16 : decode cX7_demandOthers 16 = .ok (.return_, 1) := by decide +kernel
theorem dX7_demandRoomForCall_0 : decode cX7_demandRoomForCall 0 = .ok (.aload_n 0, 1) := by decide +kernel
theorem dX7_demandRoomForCall_1 : decode cX7_demandRoomForCall 1 = .ok (.getfield 21, 3) := by decide +kernel
theorem dX7_demandRoomForCall_4 : decode cX7_demandRoomForCall 4 = .ok (.getfield 133, 3) := by decide +kernel
theorem dX7_demandRoomForCall_7 : decode cX7_demandRoomForCall 7 = .ok (.bipush 24, 2) := by decide +kernel
theorem dX7_demandRoomForCall_9 : decode cX7_demandRoomForCall 9 = .ok (.if_icmp .lt 14, 3) := by decide +kernel
theorem dX7_demandRoomForCall_12 : decode cX7_demandRoomForCall 12 = .ok (.new 43, 3) := by decide +kernel
theorem dX7_demandRoomForCall_15 : decode cX7_demandRoomForCall 15 = .ok (.dup, 1) := by decide +kernel
theorem dX7_demandRoomForCall_16 : decode cX7_demandRoomForCall 16 = .ok (.ldc_w 277, 3) := by decide +kernel
theorem dX7_demandRoomForCall_19 : decode cX7_demandRoomForCall 19 = .ok (.invokespecial 47, 3) := by decide +kernel
theorem dX7_demandRoomForCall_22 : decode cX7_demandRoomForCall 22 = .ok (.athrow, 1) := by decide +kernel
theorem dX7_demandRoomForCall_23 : decode cX7_demandRoomForCall 23 = .ok (.return_, 1) := by decide +kernel
